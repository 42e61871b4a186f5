theorem dX12_dish_0 : decode cX12_dish 0 = .ok (.aload_n 0, 1) := by decide +kernel
theorem dX12_dish_1 : decode cX12_dish 1 = .ok (.iconst 0, 1) := by decide +kernel
theorem dX12_dish_2 : decode cX12_dish 2 = .ok (.putfield 82, 3) := by decide +kernel
theorem dX12_dish_5 : decode cX12_dish 5 = .ok (.aload_n 0, 1) := by decide +kernel
theorem dX12_dish_6 : decode cX12_dish 6 = .ok (.iload_n 1, 1) := by decide +kernel
theorem dX12_dish_7 : decode cX12_dish 7 = .ok (.invokevirtual 250, 3) := by decide +kernel
theorem dX12_dish_10 : decode cX12_dish 10 = .ok (.ifCond .ne 5, 3) := by decide +kernel
theorem dX12_dish_13 : decode cX12_dish 13 = .ok (.iconst (-1), 1) := by decide +kernel
theorem dX12_dish_14 : decode cX12_dish 14 = .ok (.ireturn, 1) := by decide +kernel
theorem dX12_dish_15 : decode cX12_dish 15 = .ok (.iconst 0, 1) := by decide +kernel
theorem dX12_dish_16 : decode cX12_dish 16 = .ok (.istore_n 3, 1) := by decide +kernel
theorem dX12_dish_17 : decode cX12_dish 17 = .ok (.iload_n 2, 1) := by decide +kernel
theorem dX12_dish_18 : decode cX12_dish 18 = .ok (.tableswitch 78 0 2 #[26, 36, 46], 26) := by decide +kernel
theorem dX12_dish_44 : decode cX12_dish 44 = .ok (.aload_n 0, 1) := by decide +kernel
theorem dX12_dish_45 : decode cX12_dish 45 = .ok (.getfield 13, 3) := by decide +kernel
theorem dX12_dish_48 : decode cX12_dish 48 = .ok (.bipush 78, 2) := by decide +kernel
theorem dX12_dish_50 : decode cX12_dish 50 = .ok (.iload_n 1, 1) := by decide +kernel
theorem dX12_dish_51 : decode cX12_dish 51 = .ok (.iadd, 1) := by decide +kernel
theorem dX12_dish_52 : decode cX12_dish 52 = .ok (.iaload, 1) := by decide +kernel
theorem dX12_dish_53 : decode cX12_dish 53 = .ok (.ireturn, 1) := by decide +kernel
theorem dX12_dish_54 : decode cX12_dish 54 = .ok (.aload_n 0, 1) := by decide +kernel
theorem dX12_dish_55 : decode cX12_dish 55 = .ok (.getfield 13, 3) := by decide +kernel
theorem dX12_dish_58 : decode cX12_dish 58 = .ok (.bipush 24, 2) := by decide +kernel
theorem dX12_dish_60 : decode cX12_dish 60 = .ok (.iload_n 1, 1) := by decide +kernel
theorem dX12_dish_61 : decode cX12_dish 61 = .ok (.iadd, 1) := by decide +kernel
theorem dX12_dish_62 : decode cX12_dish 62 = .ok (.iaload, 1) := by decide +kernel
theorem dX12_dish_63 : decode cX12_dish 63 = .ok (.ireturn, 1) := by decide +kernel
theorem dX12_dish_64 : decode cX12_dish 64 = .ok (.iconst 0, 1) := by decide +kernel
theorem dX12_dish_65 : decode cX12_dish 65 = .ok (.istore 4, 2) := by decide +kernel
theorem dX12_dish_67 : decode cX12_dish 67 = .ok (.iload 4, 2) := by decide +kernel
theorem dX12_dish_69 : decode cX12_dish 69 = .ok (.aload_n 0, 1) := by decide +kernel
theorem dX12_dish_70 : decode cX12_dish 70 = .ok (.getfield 13, 3) := by decide +kernel
theorem dX12_dish_73 : decode cX12_dish 73 = .ok (.iconst 0, 1) := by decide +kernel
theorem dX12_dish_74 : decode cX12_dish 74 = .ok (.iaload, 1) := by decide +kernel
theorem dX12_dish_75 : decode cX12_dish 75 = .ok (.if_icmp .ge 19, 3) := by decide +kernel
theorem dX12_dish_78 : decode cX12_dish 78 = .ok (.iload_n 3, 1) := by decide +kernel
theorem dX12_dish_79 : decode cX12_dish 79 = .ok (.aload_n 0, 1) := by decide +kernel
theorem dX12_dish_80 : decode cX12_dish 80 = .ok (.iload 4, 2) := by decide +kernel
theorem dX12_dish_82 : decode cX12_dish 82 = .ok (.iload_n 1, 1) := by decide +kernel
theorem dX12_dish_83 : decode cX12_dish 83 = .ok (.invokevirtual 234, 3) := by decide +kernel
theorem dX12_dish_86 : decode cX12_dish 86 = .ok (.iadd, 1) := by decide +kernel
theorem dX12_dish_87 : decode cX12_dish 87 = .ok (.istore_n 3, 1) := by decide +kernel
theorem dX12_dish_88 : decode cX12_dish 88 = .ok (.iinc 4 1, 3) := by decide +kernel
theorem dX12_dish_91 : decode cX12_dish 91 = .ok (.goto (-24), 3) := by decide +kernel
theorem dX12_dish_94 : decode cX12_dish 94 = .ok (.iload_n 3, 1) := by decide +kernel
theorem dX12_dish_95 : decode cX12_dish 95 = .ok (.ireturn, 1) := by decide +kernel
theorem dX12_dish_96 : decode cX12_dish 96 = .ok (.iconst (-1), 1) := by decide +kernel
theorem dX12_dish_97 : decode cX12_dish 97 = .ok (.ireturn, 1) := by decide +kernel
theorem dX12_has_0 : decode cX12_has 0 = .ok (.iload_n 0, 1) := by decide +kernel
theorem dX12_has_1 : decode cX12_has 1 = .ok (.iload_n 1, 1) := by decide +kernel
theorem dX12_has_2 : decode cX12_has 2 = .ok (.ishr, 1) := by decide +kernel
theorem dX12_has_3 : decode cX12_has 3 = .ok (.iconst 1, 1) := by decide +kernel
theorem dX12_has_4 : decode cX12_has 4 = .ok (.iand, 1) := by decide +kernel
theorem dX12_has_5 : decode cX12_has 5 = .ok (.iconst 1, 1) := by decide +kernel
theorem dX12_has_6 : decode cX12_has 6 = .ok (.if_icmp .ne 7, 3) := by decide +kernel
theorem dX12_has_9 : decode cX12_has 9 = .ok (.iconst 1, 1) := by decide +kernel
theorem dX12_has_10 : decode cX12_has 10 = .ok (.goto 4, 3) := by decide +kernel
theorem dX12_has_13 : decode cX12_has 13 = .ok (.iconst 0, 1) := by decide +kernel
theorem dX12_has_14 : decode cX12_has 14 = .ok (.ireturn, 1) := by decide +kernel
theorem dX12_heir_0 : decode cX12_heir 0 = .ok (.aload_n 0, 1) := by decide +kernel
theorem dX12_heir_1 : decode cX12_heir 1 = .ok (.iconst 0, 1) := by decide +kernel
theorem dX12_heir_2 : decode cX12_heir 2 = .ok (.putfield 82, 3) := by decide +kernel
theorem dX12_heir_5 : decode cX12_heir 5 = .ok (.aload_n 0, 1) := by decide +kernel
theorem dX12_heir_6 : decode cX12_heir 6 = .ok (.iload_n 1, 1) := by decide +kernel
theorem dX12_heir_7 : decode cX12_heir 7 = .ok (.invokevirtual 238, 3) := by decide +kernel
theorem dX12_heir_10 : decode cX12_heir 10 = .ok (.ifCond .eq 15, 3) := by decide +kernel
theorem dX12_heir_13 : decode cX12_heir 13 = .ok (.aload_n 0, 1) := by decide +kernel
theorem dX12_heir_14 : decode cX12_heir 14 = .ok (.iload_n 1, 1) := by decide +kernel
theorem dX12_heir_15 : decode cX12_heir 15 = .ok (.aload_n 0, 1) := by decide +kernel
theorem dX12_heir_16 : decode cX12_heir 16 = .ok (.invokevirtual 259, 3) := by decide +kernel
theorem dX12_heir_19 : decode cX12_heir 19 = .ok (.invokevirtual 262, 3) := by decide +kernel
theorem dX12_heir_22 : decode cX12_heir 22 = .ok (.goto 4, 3) := by decide +kernel
theorem dX12_heir_25 : decode cX12_heir 25 = .ok (.iconst (-1), 1) := by decide +kernel
theorem dX12_heir_26 : decode cX12_heir 26 = .ok (.ireturn, 1) := by decide +kernel
theorem dX12_heirBy_0 : decode cX12_heirBy 0 = .ok (.aload_n 0, 1) := by decide +kernel
theorem dX12_heirBy_1 : decode cX12_heirBy 1 = .ok (.getfield 13, 3) := by decide +kernel
theorem dX12_heirBy_4 : decode cX12_heirBy 4 = .ok (.iconst 2, 1) := by decide +kernel
theorem dX12_heirBy_5 : decode cX12_heirBy 5 = .ok (.iaload, 1) := by decide +kernel
theorem dX12_heirBy_6 : decode cX12_heirBy 6 = .ok (.ifCond .ne 10, 3) := by decide +kernel
theorem dX12_heirBy_9 : decode cX12_heirBy 9 = .ok (.aload_n 0, 1) := by decide +kernel
theorem dX12_heirBy_10 : decode cX12_heirBy 10 = .ok (.iload_n 1, 1) := by decide +kernel
theorem dX12_heirBy_11 : decode cX12_heirBy 11 = .ok (.iload_n 2, 1) := by decide +kernel
theorem dX12_heirBy_12 : decode cX12_heirBy 12 = .ok (.invokevirtual 256, 3) := by decide +kernel
theorem dX12_heirBy_15 : decode cX12_heirBy 15 = .ok (.ireturn, 1) := by decide +kernel
theorem dX12_heirBy_16 : decode cX12_heirBy 16 = .ok (.iconst (-1), 1) := by decide +kernel
theorem dX12_heirBy_17 : decode cX12_heirBy 17 = .ok (.istore_n 3, 1) := by decide +kernel
theorem dX12_heirBy_18 : decode cX12_heirBy 18 = .ok (.aload_n 0, 1) := by decide +kernel
theorem dX12_heirBy_19 : decode cX12_heirBy 19 = .ok (.getfield 13, 3) := by decide +kernel
theorem dX12_heirBy_22 : decode cX12_heirBy 22 = .ok (.iconst 0, 1) := by decide +kernel
theorem dX12_heirBy_23 : decode cX12_heirBy 23 = .ok (.iaload, 1) := by decide +kernel
theorem dX12_heirBy_24 : decode cX12_heirBy 24 = .ok (.iconst 1, 1) := by decide +kernel
theorem dX12_heirBy_25 : decode cX12_heirBy 25 = .ok (.isub, 1) := by decide +kernel
theorem dX12_heirBy_26 : decode cX12_heirBy 26 = .ok (.istore 4, 2) := by decide +kernel
theorem dX12_heirBy_28 : decode cX12_heirBy 28 = .ok (.iload 4, 2) := by decide +kernel
theorem dX12_heirBy_30 : decode cX12_heirBy 30 = .ok (.ifCond .lt 101, 3) := by decide +kernel
theorem dX12_heirBy_33 : decode cX12_heirBy 33 = .ok (.iload 4, 2) := by decide +kernel
theorem dX12_heirBy_35 : decode cX12_heirBy 35 = .ok (.iload_n 1, 1) := by decide +kernel
theorem dX12_heirBy_36 : decode cX12_heirBy 36 = .ok (.if_icmp .eq 89, 3) := by decide +kernel
theorem dX12_heirBy_39 : decode cX12_heirBy 39 = .ok (.iload_n 2, 1) := by decide +kernel
theorem dX12_heirBy_40 : decode cX12_heirBy 40 = .ok (.iload 4, 2) := by decide +kernel
theorem dX12_heirBy_42 : decode cX12_heirBy 42 = .ok (.invokestatic 231, 3) := by decide +kernel
theorem dX12_heirBy_45 : decode cX12_heirBy 45 = .ok (.ifCond .eq 6, 3) := by decide +kernel
theorem dX12_heirBy_48 : decode cX12_heirBy 48 = .ok (.goto 77, 3) := by decide +kernel
theorem dX12_heirBy_51 : decode cX12_heirBy 51 = .ok (.aload_n 0, 1) := by decide +kernel
theorem dX12_heirBy_52 : decode cX12_heirBy 52 = .ok (.getfield 13, 3) := by decide +kernel
theorem dX12_heirBy_55 : decode cX12_heirBy 55 = .ok (.iconst 2, 1) := by decide +kernel
theorem dX12_heirBy_56 : decode cX12_heirBy 56 = .ok (.iaload, 1) := by decide +kernel
theorem dX12_heirBy_57 : decode cX12_heirBy 57 = .ok (.iconst 1, 1) := by decide +kernel
theorem dX12_heirBy_58 : decode cX12_heirBy 58 = .ok (.if_icmp .ne 25, 3) := by decide +kernel
theorem dX12_heirBy_61 : decode cX12_heirBy 61 = .ok (.aload_n 0, 1) := by decide +kernel
theorem dX12_heirBy_62 : decode cX12_heirBy 62 = .ok (.getfield 13, 3) := by decide +kernel
theorem dX12_heirBy_65 : decode cX12_heirBy 65 = .ok (.bipush 11, 2) := by decide +kernel
theorem dX12_heirBy_67 : decode cX12_heirBy 67 = .ok (.iload 4, 2) := by decide +kernel
theorem dX12_heirBy_69 : decode cX12_heirBy 69 = .ok (.iadd, 1) := by decide +kernel
theorem dX12_heirBy_70 : decode cX12_heirBy 70 = .ok (.iaload, 1) := by decide +kernel
theorem dX12_heirBy_71 : decode cX12_heirBy 71 = .ok (.iload_n 1, 1) := by decide +kernel
theorem dX12_heirBy_72 : decode cX12_heirBy 72 = .ok (.if_icmp .ne 7, 3) := by decide +kernel
theorem dX12_heirBy_75 : decode cX12_heirBy 75 = .ok (.iconst 1, 1) := by decide +kernel
theorem dX12_heirBy_76 : decode cX12_heirBy 76 = .ok (.goto 39, 3) := by decide +kernel
theorem dX12_heirBy_79 : decode cX12_heirBy 79 = .ok (.iconst 0, 1) := by decide +kernel
theorem dX12_heirBy_80 : decode cX12_heirBy 80 = .ok (.goto 35, 3) := by decide +kernel
theorem dX12_heirBy_83 : decode cX12_heirBy 83 = .ok (.iload_n 3, 1) := by decide +kernel
theorem dX12_heirBy_84 : decode cX12_heirBy 84 = .ok (.iconst (-1), 1) := by decide +kernel
theorem dX12_heirBy_85 : decode cX12_heirBy 85 = .ok (.if_icmp .eq 25, 3) := by decide +kernel
theorem dX12_heirBy_88 : decode cX12_heirBy 88 = .ok (.aload_n 0, 1) := by decide +kernel
theorem dX12_heirBy_89 : decode cX12_heirBy 89 = .ok (.getfield 13, 3) := by decide +kernel
theorem dX12_heirBy_92 : decode cX12_heirBy 92 = .ok (.bipush 84, 2) := by decide +kernel
theorem dX12_heirBy_94 : decode cX12_heirBy 94 = .ok (.iload 4, 2) := by decide +kernel
theorem dX12_heirBy_96 : decode cX12_heirBy 96 = .ok (.iadd, 1) := by decide +kernel
theorem dX12_heirBy_97 : decode cX12_heirBy 97 = .ok (.iaload, 1) := by decide +kernel
theorem dX12_heirBy_98 : decode cX12_heirBy 98 = .ok (.aload_n 0, 1) := by decide +kernel
theorem dX12_heirBy_99 : decode cX12_heirBy 99 = .ok (.getfield 13, 3) := by decide +kernel
theorem dX12_heirBy_102 : decode cX12_heirBy 102 = .ok (.bipush 84, 2) := by decide +kernel
theorem dX12_heirBy_104 : decode cX12_heirBy 104 = .ok (.iload_n 3, 1) := by decide +kernel
theorem dX12_heirBy_105 : decode cX12_heirBy 105 = .ok (.iadd, 1) := by decide +kernel
theorem dX12_heirBy_106 : decode cX12_heirBy 106 = .ok (.iaload, 1) := by decide +kernel
theorem dX12_heirBy_107 : decode cX12_heirBy 107 = .ok (.if_icmp .gt 7, 3) := by decide +kernel
theorem dX12_heirBy_110 : decode cX12_heirBy 110 = .ok (.iconst 1, 1) := by decide +kernel
theorem dX12_heirBy_111 : decode cX12_heirBy 111 = .ok (.goto 4, 3) := by decide +kernel
theorem dX12_heirBy_114 : decode cX12_heirBy 114 = .ok (.iconst 0, 1) := by decide +kernel
theorem dX12_heirBy_115 : decode cX12_heirBy 115 = .ok (.istore 5, 2) := by decide +kernel
theorem dX12_heirBy_117 : decode cX12_heirBy 117 = .ok (.iload 5, 2) := by decide +kernel
theorem dX12_heirBy_119 : decode cX12_heirBy 119 = .ok (.ifCond .eq 6, 3) := by decide +kernel
theorem dX12_heirBy_122 : decode cX12_heirBy 122 = .ok (.iload 4, 2) := by decide +kernel
theorem dX12_heirBy_124 : decode cX12_heirBy 124 = .ok (.istore_n 3, 1) := by decide +kernel
theorem dX12_heirBy_125 : decode cX12_heirBy 125 = .ok (.iinc 4 (-1), 3) := by decide +kernel
theorem dX12_heirBy_128 : decode cX12_heirBy 128 = .ok (.goto (-100), 3) := by decide +kernel
theorem dX12_heirBy_131 : decode cX12_heirBy 131 = .ok (.iload_n 3, 1) := by decide +kernel
theorem dX12_heirBy_132 : decode cX12_heirBy 132 = .ok (.iconst (-1), 1) := by decide +kernel
theorem dX12_heirBy_133 : decode cX12_heirBy 133 = .ok (.if_icmp .ne 22, 3) := by decide +kernel
theorem dX12_heirBy_136 : decode cX12_heirBy 136 = .ok (.aload_n 0, 1) := by decide +kernel
theorem dX12_heirBy_137 : decode cX12_heirBy 137 = .ok (.getfield 13, 3) := by decide +kernel
theorem dX12_heirBy_140 : decode cX12_heirBy 140 = .ok (.iconst 2, 1) := by decide +kernel
theorem dX12_heirBy_141 : decode cX12_heirBy 141 = .ok (.iaload, 1) := by decide +kernel
theorem dX12_heirBy_142 : decode cX12_heirBy 142 = .ok (.iconst 1, 1) := by decide +kernel
theorem dX12_heirBy_143 : decode cX12_heirBy 143 = .ok (.if_icmp .ne 12, 3) := by decide +kernel
theorem dX12_heirBy_146 : decode cX12_heirBy 146 = .ok (.aload_n 0, 1) := by decide +kernel
theorem dX12_heirBy_147 : decode cX12_heirBy 147 = .ok (.iload_n 1, 1) := by decide +kernel
theorem dX12_heirBy_148 : decode cX12_heirBy 148 = .ok (.iload_n 2, 1) := by decide +kernel
theorem dX12_heirBy_149 : decode cX12_heirBy 149 = .ok (.invokevirtual 256, 3) := by decide +kernel
theorem dX12_heirBy_152 : decode cX12_heirBy 152 = .ok (.goto 4, 3) := by decide +kernel
theorem dX12_heirBy_155 : decode cX12_heirBy 155 = .ok (.iload_n 3, 1) := by decide +kernel
theorem dX12_heirBy_156 : decode cX12_heirBy 156 = .ok (.ireturn, 1) := by decide +kernel
theorem dX12_hungriest_0 : decode cX12_hungriest 0 = .ok (.aload_n 0, 1) := by decide +kernel
theorem dX12_hungriest_1 : decode cX12_hungriest 1 = .ok (.iconst 0, 1) := by decide +kernel
theorem dX12_hungriest_2 : decode cX12_hungriest 2 = .ok (.putfield 82, 3) := by decide +kernel
theorem dX12_hungriest_5 : decode cX12_hungriest 5 = .ok (.iconst (-1), 1) := by decide +kernel
theorem dX12_hungriest_6 : decode cX12_hungriest 6 = .ok (.istore_n 1, 1) := by decide +kernel
theorem dX12_hungriest_7 : decode cX12_hungriest 7 = .ok (.iconst 0, 1) := by decide +kernel
theorem dX12_hungriest_8 : decode cX12_hungriest 8 = .ok (.istore_n 2, 1) := by decide +kernel
theorem dX12_hungriest_9 : decode cX12_hungriest 9 = .ok (.iload_n 2, 1) := by decide +kernel
theorem dX12_hungriest_10 : decode cX12_hungriest 10 = .ok (.aload_n 0, 1) := by decide +kernel
theorem dX12_hungriest_11 : decode cX12_hungriest 11 = .ok (.getfield 13, 3) := by decide +kernel
theorem dX12_hungriest_14 : decode cX12_hungriest 14 = .ok (.iconst 0, 1) := by decide +kernel
theorem dX12_hungriest_15 : decode cX12_hungriest 15 = .ok (.iaload, 1) := by decide +kernel
theorem dX12_hungriest_16 : decode cX12_hungriest 16 = .ok (.if_icmp .ge 45, 3) := by decide +kernel
theorem dX12_hungriest_19 : decode cX12_hungriest 19 = .ok (.aload_n 0, 1) := by decide +kernel
theorem dX12_hungriest_20 : decode cX12_hungriest 20 = .ok (.iload_n 2, 1) := by decide +kernel
theorem dX12_hungriest_21 : decode cX12_hungriest 21 = .ok (.invokevirtual 244, 3) := by decide +kernel
theorem dX12_hungriest_24 : decode cX12_hungriest 24 = .ok (.ifCond .ne 31, 3) := by decide +kernel
theorem dX12_hungriest_27 : decode cX12_hungriest 27 = .ok (.iload_n 1, 1) := by decide +kernel
theorem dX12_hungriest_28 : decode cX12_hungriest 28 = .ok (.iconst (-1), 1) := by decide +kernel
theorem dX12_hungriest_29 : decode cX12_hungriest 29 = .ok (.if_icmp .eq 24, 3) := by decide +kernel
theorem dX12_hungriest_32 : decode cX12_hungriest 32 = .ok (.aload_n 0, 1) := by decide +kernel
theorem dX12_hungriest_33 : decode cX12_hungriest 33 = .ok (.getfield 13, 3) := by decide +kernel
theorem dX12_hungriest_36 : decode cX12_hungriest 36 = .ok (.bipush 98, 2) := by decide +kernel
theorem dX12_hungriest_38 : decode cX12_hungriest 38 = .ok (.iload_n 2, 1) := by decide +kernel
theorem dX12_hungriest_39 : decode cX12_hungriest 39 = .ok (.iadd, 1) := by decide +kernel
theorem dX12_hungriest_40 : decode cX12_hungriest 40 = .ok (.iaload, 1) := by decide +kernel
theorem dX12_hungriest_41 : decode cX12_hungriest 41 = .ok (.aload_n 0, 1) := by decide +kernel
theorem dX12_hungriest_42 : decode cX12_hungriest 42 = .ok (.getfield 13, 3) := by decide +kernel
theorem dX12_hungriest_45 : decode cX12_hungriest 45 = .ok (.bipush 98, 2) := by decide +kernel
theorem dX12_hungriest_47 : decode cX12_hungriest 47 = .ok (.iload_n 1, 1) := by decide +kernel
theorem dX12_hungriest_48 : decode cX12_hungriest 48 = .ok (.iadd, 1) := by decide +kernel
theorem dX12_hungriest_49 : decode cX12_hungriest 49 = .ok (.iaload, 1) := by decide +kernel
theorem dX12_hungriest_50 : decode cX12_hungriest 50 = .ok (.if_icmp .le 5, 3) := by decide +kernel
theorem dX12_hungriest_53 : decode cX12_hungriest 53 = .ok (.iload_n 2, 1) := by decide +kernel
theorem dX12_hungriest_54 : decode cX12_hungriest 54 = .ok (.istore_n 1, 1) := by decide +kernel
theorem dX12_hungriest_55 : decode cX12_hungriest 55 = .ok (.iinc 2 1, 3) := by decide +kernel
theorem dX12_hungriest_58 : decode cX12_hungriest 58 = .ok (.goto (-49), 3) := by decide +kernel
theorem dX12_hungriest_61 : decode cX12_hungriest 61 = .ok (.iload_n 1, 1) := by decide +kernel
theorem dX12_hungriest_62 : decode cX12_hungriest 62 = .ok (.ireturn, 1) := by decide +kernel
theorem dX12_isDead_0 : decode cX12_isDead 0 = .ok (.aload_n 0, 1) := by decide +kernel
theorem dX12_isDead_1 : decode cX12_isDead 1 = .ok (.getfield 13, 3) := by decide +kernel
theorem dX12_isDead_4 : decode cX12_isDead 4 = .ok (.bipush 73, 2) := by decide +kernel
theorem dX12_isDead_6 : decode cX12_isDead 6 = .ok (.iaload, 1) := by decide +kernel
theorem dX12_isDead_7 : decode cX12_isDead 7 = .ok (.iload_n 1, 1) := by decide +kernel
theorem dX12_isDead_8 : decode cX12_isDead 8 = .ok (.invokestatic 231, 3) := by decide +kernel
theorem dX12_isDead_11 : decode cX12_isDead 11 = .ok (.ireturn, 1) := by decide +kernel
theorem dX12_kin_0 : decode cX12_kin 0 = .ok (.aload_n 0, 1) := by decide +kernel
theorem dX12_kin_1 : decode cX12_kin 1 = .ok (.iconst 0, 1) := by decide +kernel
theorem dX12_kin_2 : decode cX12_kin 2 = .ok (.putfield 82, 3) := by decide +kernel
theorem dX12_kin_5 : decode cX12_kin 5 = .ok (.aload_n 0, 1) := by decide +kernel
theorem dX12_kin_6 : decode cX12_kin 6 = .ok (.iload_n 1, 1) := by decide +kernel
theorem dX12_kin_7 : decode cX12_kin 7 = .ok (.invokevirtual 238, 3) := by decide +kernel
theorem dX12_kin_10 : decode cX12_kin 10 = .ok (.ifCond .eq 11, 3) := by decide +kernel
theorem dX12_kin_13 : decode cX12_kin 13 = .ok (.aload_n 0, 1) := by decide +kernel
theorem dX12_kin_14 : decode cX12_kin 14 = .ok (.iload_n 2, 1) := by decide +kernel
theorem dX12_kin_15 : decode cX12_kin 15 = .ok (.invokevirtual 238, 3) := by decide +kernel
theorem dX12_kin_18 : decode cX12_kin 18 = .ok (.ifCond .ne 5, 3) := by decide +kernel
theorem dX12_kin_21 : decode cX12_kin 21 = .ok (.iconst (-1), 1) := by decide +kernel
theorem dX12_kin_22 : decode cX12_kin 22 = .ok (.ireturn, 1) := by decide +kernel
theorem dX12_kin_23 : decode cX12_kin 23 = .ok (.iconst 1, 1) := by decide +kernel
theorem dX12_kin_24 : decode cX12_kin 24 = .ok (.iload_n 1, 1) := by decide +kernel
theorem dX12_kin_25 : decode cX12_kin 25 = .ok (.ishl, 1) := by decide +kernel
theorem dX12_kin_26 : decode cX12_kin 26 = .ok (.istore_n 3, 1) := by decide +kernel
theorem dX12_kin_27 : decode cX12_kin 27 = .ok (.iconst 0, 1) := by decide +kernel
theorem dX12_kin_28 : decode cX12_kin 28 = .ok (.istore 4, 2) := by decide +kernel
theorem dX12_kin_30 : decode cX12_kin 30 = .ok (.iload 4, 2) := by decide +kernel
theorem dX12_kin_32 : decode cX12_kin 32 = .ok (.bipush 7, 2) := by decide +kernel
theorem dX12_kin_34 : decode cX12_kin 34 = .ok (.if_icmp .ge 103, 3) := by decide +kernel
theorem dX12_kin_37 : decode cX12_kin 37 = .ok (.iload_n 3, 1) := by decide +kernel
theorem dX12_kin_38 : decode cX12_kin 38 = .ok (.iload_n 2, 1) := by decide +kernel
theorem dX12_kin_39 : decode cX12_kin 39 = .ok (.invokestatic 231, 3) := by decide +kernel
theorem dX12_kin_42 : decode cX12_kin 42 = .ok (.ifCond .eq 6, 3) := by decide +kernel
theorem dX12_kin_45 : decode cX12_kin 45 = .ok (.iload 4, 2) := by decide +kernel
theorem dX12_kin_47 : decode cX12_kin 47 = .ok (.ireturn, 1) := by decide +kernel
theorem dX12_kin_48 : decode cX12_kin 48 = .ok (.iload_n 3, 1) := by decide +kernel
theorem dX12_kin_49 : decode cX12_kin 49 = .ok (.istore 5, 2) := by decide +kernel
theorem dX12_kin_51 : decode cX12_kin 51 = .ok (.iconst 0, 1) := by decide +kernel
theorem dX12_kin_52 : decode cX12_kin 52 = .ok (.istore 6, 2) := by decide +kernel
theorem dX12_kin_54 : decode cX12_kin 54 = .ok (.iload 6, 2) := by decide +kernel
theorem dX12_kin_56 : decode cX12_kin 56 = .ok (.aload_n 0, 1) := by decide +kernel
theorem dX12_kin_57 : decode cX12_kin 57 = .ok (.getfield 13, 3) := by decide +kernel
theorem dX12_kin_60 : decode cX12_kin 60 = .ok (.iconst 0, 1) := by decide +kernel
theorem dX12_kin_61 : decode cX12_kin 61 = .ok (.iaload, 1) := by decide +kernel
theorem dX12_kin_62 : decode cX12_kin 62 = .ok (.if_icmp .ge 66, 3) := by decide +kernel
theorem dX12_kin_65 : decode cX12_kin 65 = .ok (.aload_n 0, 1) := by decide +kernel
theorem dX12_kin_66 : decode cX12_kin 66 = .ok (.getfield 13, 3) := by decide +kernel
theorem dX12_kin_69 : decode cX12_kin 69 = .ok (.bipush 11, 2) := by decide +kernel
theorem dX12_kin_71 : decode cX12_kin 71 = .ok (.iload 6, 2) := by decide +kernel
theorem dX12_kin_73 : decode cX12_kin 73 = .ok (.iadd, 1) := by decide +kernel
theorem dX12_kin_74 : decode cX12_kin 74 = .ok (.iaload, 1) := by decide +kernel
theorem dX12_kin_75 : decode cX12_kin 75 = .ok (.istore 7, 2) := by decide +kernel
theorem dX12_kin_77 : decode cX12_kin 77 = .ok (.iload 7, 2) := by decide +kernel
theorem dX12_kin_79 : decode cX12_kin 79 = .ok (.iconst (-1), 1) := by decide +kernel
theorem dX12_kin_80 : decode cX12_kin 80 = .ok (.if_icmp .ne 6, 3) := by decide +kernel
theorem dX12_kin_83 : decode cX12_kin 83 = .ok (.goto 39, 3) := by decide +kernel
theorem dX12_kin_86 : decode cX12_kin 86 = .ok (.iload_n 3, 1) := by decide +kernel
theorem dX12_kin_87 : decode cX12_kin 87 = .ok (.iload 6, 2) := by decide +kernel
theorem dX12_kin_89 : decode cX12_kin 89 = .ok (.invokestatic 231, 3) := by decide +kernel
theorem dX12_kin_92 : decode cX12_kin 92 = .ok (.ifCond .eq 12, 3) := by decide +kernel
theorem dX12_kin_95 : decode cX12_kin 95 = .ok (.iload 5, 2) := by decide +kernel
theorem dX12_kin_97 : decode cX12_kin 97 = .ok (.iconst 1, 1) := by decide +kernel
theorem dX12_kin_98 : decode cX12_kin 98 = .ok (.iload 7, 2) := by decide +kernel
theorem dX12_kin_100 : decode cX12_kin 100 = .ok (.ishl, 1) := by decide +kernel
theorem dX12_kin_101 : decode cX12_kin 101 = .ok (.ior, 1) := by decide +kernel
theorem dX12_kin_102 : decode cX12_kin 102 = .ok (.istore 5, 2) := by decide +kernel
theorem dX12_kin_104 : decode cX12_kin 104 = .ok (.iload_n 3, 1) := by decide +kernel
theorem dX12_kin_105 : decode cX12_kin 105 = .ok (.iload 7, 2) := by decide +kernel
theorem dX12_kin_107 : decode cX12_kin 107 = .ok (.invokestatic 231, 3) := by decide +kernel
theorem dX12_kin_110 : decode cX12_kin 110 = .ok (.ifCond .eq 12, 3) := by decide +kernel
theorem dX12_kin_113 : decode cX12_kin 113 = .ok (.iload 5, 2) := by decide +kernel
theorem dX12_kin_115 : decode cX12_kin 115 = .ok (.iconst 1, 1) := by decide +kernel
theorem dX12_kin_116 : decode cX12_kin 116 = .ok (.iload 6, 2) := by decide +kernel
theorem dX12_kin_118 : decode cX12_kin 118 = .ok (.ishl, 1) := by decide +kernel
theorem dX12_kin_119 : decode cX12_kin 119 = .ok (.ior, 1) := by decide +kernel
theorem dX12_kin_120 : decode cX12_kin 120 = .ok (.istore 5, 2) := by decide +kernel
theorem dX12_kin_122 : decode cX12_kin 122 = .ok (.iinc 6 1, 3) := by decide +kernel
theorem dX12_kin_125 : decode cX12_kin 125 = .ok (.goto (-71), 3) := by decide +kernel
theorem dX12_kin_128 : decode cX12_kin 128 = .ok (.iload 5, 2) := by decide +kernel
theorem dX12_kin_130 : decode cX12_kin 130 = .ok (.istore_n 3, 1) := by decide +kernel
theorem dX12_kin_131 : decode cX12_kin 131 = .ok (.iinc 4 1, 3) := by decide +kernel
theorem dX12_kin_134 : decode cX12_kin 134 = .ok (.goto (-104), 3) := by decide +kernel
theorem dX12_kin_137 : decode cX12_kin 137 = .ok (.iconst (-1), 1) := by decide +kernel
theorem dX12_kin_138 : decode cX12_kin 138 = .ok (.ireturn, 1) := by decide +kernel
theorem dX12_nextTo_0 : decode cX12_nextTo 0 = .ok (.aload_n 0, 1) := by decide +kernel
theorem dX12_nextTo_1 : decode cX12_nextTo 1 = .ok (.getfield 13, 3) := by decide +kernel
theorem dX12_nextTo_4 : decode cX12_nextTo 4 = .ok (.iconst 0, 1) := by decide +kernel
theorem dX12_nextTo_5 : decode cX12_nextTo 5 = .ok (.iaload, 1) := by decide +kernel
theorem dX12_nextTo_6 : decode cX12_nextTo 6 = .ok (.istore_n 3, 1) := by decide +kernel
theorem dX12_nextTo_7 : decode cX12_nextTo 7 = .ok (.iconst 1, 1) := by decide +kernel
theorem dX12_nextTo_8 : decode cX12_nextTo 8 = .ok (.istore 4, 2) := by decide +kernel
theorem dX12_nextTo_10 : decode cX12_nextTo 10 = .ok (.iload 4, 2) := by decide +kernel
theorem dX12_nextTo_12 : decode cX12_nextTo 12 = .ok (.iload_n 3, 1) := by decide +kernel
theorem dX12_nextTo_13 : decode cX12_nextTo 13 = .ok (.if_icmp .ge 29, 3) := by decide +kernel
theorem dX12_nextTo_16 : decode cX12_nextTo 16 = .ok (.iload_n 2, 1) := by decide +kernel
theorem dX12_nextTo_17 : decode cX12_nextTo 17 = .ok (.iload_n 1, 1) := by decide +kernel
theorem dX12_nextTo_18 : decode cX12_nextTo 18 = .ok (.iload 4, 2) := by decide +kernel
theorem dX12_nextTo_20 : decode cX12_nextTo 20 = .ok (.iadd, 1) := by decide +kernel
theorem dX12_nextTo_21 : decode cX12_nextTo 21 = .ok (.iload_n 3, 1) := by decide +kernel
theorem dX12_nextTo_22 : decode cX12_nextTo 22 = .ok (.irem, 1) := by decide +kernel
theorem dX12_nextTo_23 : decode cX12_nextTo 23 = .ok (.invokestatic 231, 3) := by decide +kernel
theorem dX12_nextTo_26 : decode cX12_nextTo 26 = .ok (.ifCond .ne 10, 3) := by decide +kernel
theorem dX12_nextTo_29 : decode cX12_nextTo 29 = .ok (.iload_n 1, 1) := by decide +kernel
theorem dX12_nextTo_30 : decode cX12_nextTo 30 = .ok (.iload 4, 2) := by decide +kernel
theorem dX12_nextTo_32 : decode cX12_nextTo 32 = .ok (.iadd, 1) := by decide +kernel
theorem dX12_nextTo_33 : decode cX12_nextTo 33 = .ok (.iload_n 3, 1) := by decide +kernel
theorem dX12_nextTo_34 : decode cX12_nextTo 34 = .ok (.irem, 1) := by decide +kernel
theorem dX12_nextTo_35 : decode cX12_nextTo 35 = .ok (.ireturn, 1) := by decide +kernel
theorem dX12_nextTo_36 : decode cX12_nextTo 36 = .ok (.iinc 4 1, 3) := by decide +kernel
theorem dX12_nextTo_39 : decode cX12_nextTo 39 = .ok (.goto (-29), 3) := by decide +kernel
theorem dX12_nextTo_42 : decode cX12_nextTo 42 = .ok (.iconst (-1), 1) := by decide +kernel
theorem dX12_nextTo_43 : decode cX12_nextTo 43 = .ok (.ireturn, 1) := by decide +kernel
theorem dX12_onPlate_0 : decode cX12_onPlate 0 = .ok (.aload_n 0, 1) := by decide +kernel
theorem dX12_onPlate_1 : decode cX12_onPlate 1 = .ok (.getfield 13, 3) := by decide +kernel
theorem dX12_onPlate_4 : decode cX12_onPlate 4 = .ok (.bipush 105, 2) := by decide +kernel
theorem dX12_onPlate_6 : decode cX12_onPlate 6 = .ok (.bipush 6, 2) := by decide +kernel
theorem dX12_onPlate_8 : decode cX12_onPlate 8 = .ok (.iload_n 1, 1) := by decide +kernel
theorem dX12_onPlate_9 : decode cX12_onPlate 9 = .ok (.imul, 1) := by decide +kernel
theorem dX12_onPlate_10 : decode cX12_onPlate 10 = .ok (.iadd, 1) := by decide +kernel
theorem dX12_onPlate_11 : decode cX12_onPlate 11 = .ok (.iload_n 2, 1) := by decide +kernel
theorem dX12_onPlate_12 : decode cX12_onPlate 12 = .ok (.iadd, 1) := by decide +kernel
theorem dX12_onPlate_13 : decode cX12_onPlate 13 = .ok (.iaload, 1) := by decide +kernel
theorem dX12_onPlate_14 : decode cX12_onPlate 14 = .ok (.ireturn, 1) := by decide +kernel
theorem dX12_outs_0 : decode cX12_outs 0 = .ok (.aload_n 0, 1) := by decide +kernel
theorem dX12_outs_1 : decode cX12_outs 1 = .ok (.getfield 13, 3) := by decide +kernel
theorem dX12_outs_4 : decode cX12_outs 4 = .ok (.bipush 73, 2) := by decide +kernel
theorem dX12_outs_6 : decode cX12_outs 6 = .ok (.iaload, 1) := by decide +kernel
theorem dX12_outs_7 : decode cX12_outs 7 = .ok (.aload_n 0, 1) := by decide +kernel
theorem dX12_outs_8 : decode cX12_outs 8 = .ok (.getfield 13, 3) := by decide +kernel
theorem dX12_outs_11 : decode cX12_outs 11 = .ok (.bipush 74, 2) := by decide +kernel
theorem dX12_outs_13 : decode cX12_outs 13 = .ok (.iaload, 1) := by decide +kernel
theorem dX12_outs_14 : decode cX12_outs 14 = .ok (.ior, 1) := by decide +kernel
theorem dX12_outs_15 : decode cX12_outs 15 = .ok (.ireturn, 1) := by decide +kernel
theorem dX12_person_0 : decode cX12_person 0 = .ok (.aload_n 0, 1) := by decide +kernel
theorem dX12_person_1 : decode cX12_person 1 = .ok (.iconst 0, 1) := by decide +kernel
theorem dX12_person_2 : decode cX12_person 2 = .ok (.putfield 82, 3) := by decide +kernel
theorem dX12_person_5 : decode cX12_person 5 = .ok (.aload_n 0, 1) := by decide +kernel
theorem dX12_person_6 : decode cX12_person 6 = .ok (.iload_n 1, 1) := by decide +kernel
theorem dX12_person_7 : decode cX12_person 7 = .ok (.invokevirtual 238, 3) := by decide +kernel
theorem dX12_person_10 : decode cX12_person 10 = .ok (.ifCond .ne 8, 3) := by decide +kernel
theorem dX12_person_13 : decode cX12_person 13 = .ok (.aload_n 0, 1) := by decide +kernel
theorem dX12_person_14 : decode cX12_person 14 = .ok (.invokevirtual 241, 3) := by decide +kernel
theorem dX12_person_17 : decode cX12_person 17 = .ok (.ireturn, 1) := by decide +kernel
theorem dX12_person_18 : decode cX12_person 18 = .ok (.iconst 0, 1) := by decide +kernel
theorem dX12_person_19 : decode cX12_person 19 = .ok (.istore_n 3, 1) := by decide +kernel
theorem dX12_person_20 : decode cX12_person 20 = .ok (.iload_n 2, 1) := by decide +kernel
theorem dX12_person_21 : decode cX12_person 21 = .ok (.tableswitch 183 0 8 #[51, 60, 70, 84, 104, 114, 124, 134, 140], 51) := by decide +kernel
theorem dX12_person_72 : decode cX12_person 72 = .ok (.aload_n 0, 1) := by decide +kernel
theorem dX12_person_73 : decode cX12_person 73 = .ok (.getfield 13, 3) := by decide +kernel
theorem dX12_person_76 : decode cX12_person 76 = .ok (.iconst 4, 1) := by decide +kernel
theorem dX12_person_77 : decode cX12_person 77 = .ok (.iload_n 1, 1) := by decide +kernel
theorem dX12_person_78 : decode cX12_person 78 = .ok (.iadd, 1) := by decide +kernel
theorem dX12_person_79 : decode cX12_person 79 = .ok (.iaload, 1) := by decide +kernel
theorem dX12_person_80 : decode cX12_person 80 = .ok (.ireturn, 1) := by decide +kernel
theorem dX12_person_81 : decode cX12_person 81 = .ok (.aload_n 0, 1) := by decide +kernel
theorem dX12_person_82 : decode cX12_person 82 = .ok (.getfield 13, 3) := by decide +kernel
theorem dX12_person_85 : decode cX12_person 85 = .ok (.bipush 11, 2) := by decide +kernel
theorem dX12_person_87 : decode cX12_person 87 = .ok (.iload_n 1, 1) := by decide +kernel
theorem dX12_person_88 : decode cX12_person 88 = .ok (.iadd, 1) := by decide +kernel
theorem dX12_person_89 : decode cX12_person 89 = .ok (.iaload, 1) := by decide +kernel
theorem dX12_person_90 : decode cX12_person 90 = .ok (.ireturn, 1) := by decide +kernel
theorem dX12_person_91 : decode cX12_person 91 = .ok (.aload_n 0, 1) := by decide +kernel
theorem dX12_person_92 : decode cX12_person 92 = .ok (.iload_n 1, 1) := by decide +kernel
theorem dX12_person_93 : decode cX12_person 93 = .ok (.invokevirtual 244, 3) := by decide +kernel
theorem dX12_person_96 : decode cX12_person 96 = .ok (.ifCond .eq 7, 3) := by decide +kernel
theorem dX12_person_99 : decode cX12_person 99 = .ok (.iconst 1, 1) := by decide +kernel
theorem dX12_person_100 : decode cX12_person 100 = .ok (.goto 4, 3) := by decide +kernel
theorem dX12_person_103 : decode cX12_person 103 = .ok (.iconst 0, 1) := by decide +kernel
theorem dX12_person_104 : decode cX12_person 104 = .ok (.ireturn, 1) := by decide +kernel
theorem dX12_person_105 : decode cX12_person 105 = .ok (.aload_n 0, 1) := by decide +kernel
theorem dX12_person_106 : decode cX12_person 106 = .ok (.getfield 13, 3) := by decide +kernel
theorem dX12_person_109 : decode cX12_person 109 = .ok (.bipush 74, 2) := by decide +kernel
theorem dX12_person_111 : decode cX12_person 111 = .ok (.iaload, 1) := by decide +kernel
theorem dX12_person_112 : decode cX12_person 112 = .ok (.iload_n 1, 1) := by decide +kernel
theorem dX12_person_113 : decode cX12_person 113 = .ok (.invokestatic 231, 3) := by decide +kernel
theorem dX12_person_116 : decode cX12_person 116 = .ok (.ifCond .eq 7, 3) := by decide +kernel
theorem dX12_person_119 : decode cX12_person 119 = .ok (.iconst 1, 1) := by decide +kernel
theorem dX12_person_120 : decode cX12_person 120 = .ok (.goto 4, 3) := by decide +kernel
theorem dX12_person_123 : decode cX12_person 123 = .ok (.iconst 0, 1) := by decide +kernel
theorem dX12_person_124 : decode cX12_person 124 = .ok (.ireturn, 1) := by decide +kernel
theorem dX12_person_125 : decode cX12_person 125 = .ok (.aload_n 0, 1) := by decide +kernel
theorem dX12_person_126 : decode cX12_person 126 = .ok (.getfield 13, 3) := by decide +kernel
theorem dX12_person_129 : decode cX12_person 129 = .ok (.bipush 84, 2) := by decide +kernel
theorem dX12_person_131 : decode cX12_person 131 = .ok (.iload_n 1, 1) := by decide +kernel
theorem dX12_person_132 : decode cX12_person 132 = .ok (.iadd, 1) := by decide +kernel
theorem dX12_person_133 : decode cX12_person 133 = .ok (.iaload, 1) := by decide +kernel
theorem dX12_person_134 : decode cX12_person 134 = .ok (.ireturn, 1) := by decide +kernel
theorem dX12_person_135 : decode cX12_person 135 = .ok (.aload_n 0, 1) := by decide +kernel
theorem dX12_person_136 : decode cX12_person 136 = .ok (.getfield 13, 3) := by decide +kernel
theorem dX12_person_139 : decode cX12_person 139 = .ok (.bipush 91, 2) := by decide +kernel
theorem dX12_person_141 : decode cX12_person 141 = .ok (.iload_n 1, 1) := by decide +kernel
theorem dX12_person_142 : decode cX12_person 142 = .ok (.iadd, 1) := by decide +kernel
theorem dX12_person_143 : decode cX12_person 143 = .ok (.iaload, 1) := by decide +kernel
theorem dX12_person_144 : decode cX12_person 144 = .ok (.ireturn, 1) := by decide +kernel
theorem dX12_person_145 : decode cX12_person 145 = .ok (.aload_n 0, 1) := by decide +kernel
theorem dX12_person_146 : decode cX12_person 146 = .ok (.getfield 13, 3) := by decide +kernel
theorem dX12_person_149 : decode cX12_person 149 = .ok (.bipush 98, 2) := by decide +kernel
theorem dX12_person_151 : decode cX12_person 151 = .ok (.iload_n 1, 1) := by decide +kernel
theorem dX12_person_152 : decode cX12_person 152 = .ok (.iadd, 1) := by decide +kernel
theorem dX12_person_153 : decode cX12_person 153 = .ok (.iaload, 1) := by decide +kernel
theorem dX12_person_154 : decode cX12_person 154 = .ok (.ireturn, 1) := by decide +kernel
theorem dX12_person_155 : decode cX12_person 155 = .ok (.aload_n 0, 1) := by decide +kernel
theorem dX12_person_156 : decode cX12_person 156 = .ok (.iload_n 1, 1) := by decide +kernel
theorem dX12_person_157 : decode cX12_person 157 = .ok (.invokevirtual 247, 3) := by decide +kernel
theorem dX12_person_160 : decode cX12_person 160 = .ok (.ireturn, 1) := by decide +kernel
theorem dX12_person_161 : decode cX12_person 161 = .ok (.iconst 0, 1) := by decide +kernel
theorem dX12_person_162 : decode cX12_person 162 = .ok (.istore 4, 2) := by decide +kernel
theorem dX12_person_164 : decode cX12_person 164 = .ok (.iload 4, 2) := by decide +kernel
theorem dX12_person_166 : decode cX12_person 166 = .ok (.aload_n 0, 1) := by decide +kernel
theorem dX12_person_167 : decode cX12_person 167 = .ok (.getfield 13, 3) := by decide +kernel
theorem dX12_person_170 : decode cX12_person 170 = .ok (.iconst 0, 1) := by decide +kernel
theorem dX12_person_171 : decode cX12_person 171 = .ok (.iaload, 1) := by decide +kernel
theorem dX12_person_172 : decode cX12_person 172 = .ok (.if_icmp .ge 30, 3) := by decide +kernel
theorem dX12_person_175 : decode cX12_person 175 = .ok (.aload_n 0, 1) := by decide +kernel
theorem dX12_person_176 : decode cX12_person 176 = .ok (.getfield 13, 3) := by decide +kernel
theorem dX12_person_179 : decode cX12_person 179 = .ok (.bipush 11, 2) := by decide +kernel
theorem dX12_person_181 : decode cX12_person 181 = .ok (.iload 4, 2) := by decide +kernel
theorem dX12_person_183 : decode cX12_person 183 = .ok (.iadd, 1) := by decide +kernel
theorem dX12_person_184 : decode cX12_person 184 = .ok (.iaload, 1) := by decide +kernel
theorem dX12_person_185 : decode cX12_person 185 = .ok (.iload_n 1, 1) := by decide +kernel
theorem dX12_person_186 : decode cX12_person 186 = .ok (.if_icmp .ne 10, 3) := by decide +kernel
theorem dX12_person_189 : decode cX12_person 189 = .ok (.iload_n 3, 1) := by decide +kernel
theorem dX12_person_190 : decode cX12_person 190 = .ok (.iconst 1, 1) := by decide +kernel
theorem dX12_person_191 : decode cX12_person 191 = .ok (.iload 4, 2) := by decide +kernel
theorem dX12_person_193 : decode cX12_person 193 = .ok (.ishl, 1) := by decide +kernel
theorem dX12_person_194 : decode cX12_person 194 = .ok (.ior, 1) := by decide +kernel
theorem dX12_person_195 : decode cX12_person 195 = .ok (.istore_n 3, 1) := by decide +kernel
theorem dX12_person_196 : decode cX12_person 196 = .ok (.iinc 4 1, 3) := by decide +kernel
theorem dX12_person_199 : decode cX12_person 199 = .ok (.goto (-35), 3) := by decide +kernel
theorem dX12_person_202 : decode cX12_person 202 = .ok (.iload_n 3, 1) := by decide +kernel
theorem dX12_person_203 : decode cX12_person 203 = .ok (.ireturn, 1) := by decide +kernel
theorem dX12_person_204 : decode cX12_person 204 = .ok (.aload_n 0, 1) := by decide +kernel
theorem dX12_person_205 : decode cX12_person 205 = .ok (.invokevirtual 241, 3) := by decide +kernel
theorem dX12_person_208 : decode cX12_person 208 = .ok (.ireturn, 1) := by decide +kernel
theorem dX12_plate_0 : decode cX12_plate 0 = .ok (.aload_n 0, 1) := by decide +kernel
theorem dX12_plate_1 : decode cX12_plate 1 = .ok (.iconst 0, 1) := by decide +kernel
theorem dX12_plate_2 : decode cX12_plate 2 = .ok (.putfield 82, 3) := by decide +kernel
theorem dX12_plate_5 : decode cX12_plate 5 = .ok (.aload_n 0, 1) := by decide +kernel
theorem dX12_plate_6 : decode cX12_plate 6 = .ok (.iload_n 1, 1) := by decide +kernel
theorem dX12_plate_7 : decode cX12_plate 7 = .ok (.invokevirtual 238, 3) := by decide +kernel
theorem dX12_plate_10 : decode cX12_plate 10 = .ok (.ifCond .eq 20, 3) := by decide +kernel
theorem dX12_plate_13 : decode cX12_plate 13 = .ok (.aload_n 0, 1) := by decide +kernel
theorem dX12_plate_14 : decode cX12_plate 14 = .ok (.iload_n 2, 1) := by decide +kernel
theorem dX12_plate_15 : decode cX12_plate 15 = .ok (.invokevirtual 250, 3) := by decide +kernel
theorem dX12_plate_18 : decode cX12_plate 18 = .ok (.ifCond .eq 12, 3) := by decide +kernel
theorem dX12_plate_21 : decode cX12_plate 21 = .ok (.aload_n 0, 1) := by decide +kernel
theorem dX12_plate_22 : decode cX12_plate 22 = .ok (.iload_n 1, 1) := by decide +kernel
theorem dX12_plate_23 : decode cX12_plate 23 = .ok (.iload_n 2, 1) := by decide +kernel
theorem dX12_plate_24 : decode cX12_plate 24 = .ok (.invokevirtual 234, 3) := by decide +kernel
theorem dX12_plate_27 : decode cX12_plate 27 = .ok (.goto 4, 3) := by decide +kernel
theorem dX12_plate_30 : decode cX12_plate 30 = .ok (.iconst (-1), 1) := by decide +kernel
theorem dX12_plate_31 : decode cX12_plate 31 = .ok (.ireturn, 1) := by decide +kernel
theorem dX12_plateOf_0 : decode cX12_plateOf 0 = .ok (.iconst 0, 1) := by decide +kernel
theorem dX12_plateOf_1 : decode cX12_plateOf 1 = .ok (.istore_n 2, 1) := by decide +kernel
theorem dX12_plateOf_2 : decode cX12_plateOf 2 = .ok (.iconst 0, 1) := by decide +kernel
theorem dX12_plateOf_3 : decode cX12_plateOf 3 = .ok (.istore_n 3, 1) := by decide +kernel
theorem dX12_plateOf_4 : decode cX12_plateOf 4 = .ok (.iload_n 3, 1) := by decide +kernel
theorem dX12_plateOf_5 : decode cX12_plateOf 5 = .ok (.bipush 6, 2) := by decide +kernel
theorem dX12_plateOf_7 : decode cX12_plateOf 7 = .ok (.if_icmp .ge 18, 3) := by decide +kernel
theorem dX12_plateOf_10 : decode cX12_plateOf 10 = .ok (.iload_n 2, 1) := by decide +kernel
theorem dX12_plateOf_11 : decode cX12_plateOf 11 = .ok (.aload_n 0, 1) := by decide +kernel
theorem dX12_plateOf_12 : decode cX12_plateOf 12 = .ok (.iload_n 1, 1) := by decide +kernel
theorem dX12_plateOf_13 : decode cX12_plateOf 13 = .ok (.iload_n 3, 1) := by decide +kernel
theorem dX12_plateOf_14 : decode cX12_plateOf 14 = .ok (.invokevirtual 234, 3) := by decide +kernel
theorem dX12_plateOf_17 : decode cX12_plateOf 17 = .ok (.iadd, 1) := by decide +kernel
theorem dX12_plateOf_18 : decode cX12_plateOf 18 = .ok (.istore_n 2, 1) := by decide +kernel
theorem dX12_plateOf_19 : decode cX12_plateOf 19 = .ok (.iinc 3 1, 3) := by decide +kernel
theorem dX12_plateOf_22 : decode cX12_plateOf 22 = .ok (.goto (-18), 3) := by decide +kernel
theorem dX12_plateOf_25 : decode cX12_plateOf 25 = .ok (.iload_n 2, 1) := by decide +kernel
theorem dX12_plateOf_26 : decode cX12_plateOf 26 = .ok (.ireturn, 1) := by decide +kernel
theorem dX12_refuse_0 : decode cX12_refuse 0 = .ok (.aload_n 0, 1) := by decide +kernel
theorem dX12_refuse_1 : decode cX12_refuse 1 = .ok (.iconst 1, 1) := by decide +kernel
theorem dX12_refuse_2 : decode cX12_refuse 2 = .ok (.putfield 82, 3) := by decide +kernel
theorem dX12_refuse_5 : decode cX12_refuse 5 = .ok (.iconst 0, 1) := by decide +kernel
theorem dX12_refuse_6 : decode cX12_refuse 6 = .ok (.ireturn, 1) := by decide +kernel
theorem rc_78 : Rg 78 78 78 := ⟨by decide, by decide⟩
theorem rc_91 : Rg 91 91 91 := ⟨by decide, by decide⟩
theorem rc_105 : Rg 105 105 105 := ⟨by decide, by decide⟩
set_option maxRecDepth 100000 in
set_option maxHeartbeats 8000000 in
theorem c_X12_onPlate {l : Launch} {D : va_G} {cy : Nat → ClassId} {L : List Nat} {κ ln : Nat → Nat} {R : Nat → Nat → Option Nat} {I : Nat → Nat → Int32} {J : Nat → Nat → Int64} {ow : Nat → Nat × Nat} (W9 : ∀ a ∈ L, Shp L κ ln R ow a) {x : Nat} (hLx : x ∈ L) (hkx : κ x = 12) (a0 : Int32) (a1 : Int32) (ra0 : Rg 0 6 a0) (ra1 : Rg 0 5 a1) (hU : Iw L κ R ow I) : CtI l yX12_onPlate cX12_onPlate 3 (some .int) { frames := 0, cells := 0, slots := 0, locals := 0 } D cy L κ ln R I J [.ref x, .int a0, .int a1] (fun r I2 J2 => I = I2 ∧ J = J2 ∧ Rg 0 379 r ∧ (∀ a, R x 14 = some a → r = I a (105 + 6 * a0.toNatClampNeg + a1.toNatClampNeg))) := by
  refine CtI.of (by decide +kernel) (Nat.le_of_ble_eq_true rfl) ?_
  intro p e s m below meth c B K
  have C := B.1
  obtain ⟨b_1, hb_1, hb_1L, hb_1k, hb_1n, hb_1o⟩ := shp_a (W9 x hLx) hkx 14 14 389 rfl (by decide)
  refine g_lo (is := [0, 1, 2]) (lo2 := [(0, .ref x), (1, .int a0), (2, .int a1)]) rfl ?_
  refine g_aload_n C 0 dX12_onPlate_0 rfl rfl ?_
  refine g_getR C K hLx hkx f_12_13 hb_1 dX12_onPlate_1 ?_
  refine g_bipush C (v := 105) dX12_onPlate_4 (by decide) ?_
  refine g_bipush C (v := 6) dX12_onPlate_6 (by decide) ?_
  refine g_iload_n C 1 dX12_onPlate_8 rfl rfl ?_
  obtain ⟨x_2, hx_2, rx_2, tx_2⟩ := ex_mulT 0 36 rc_6 ra0 (by decide) (by decide) (by decide) (by decide) (by decide)
  refine g_imul C (v := x_2) dX12_onPlate_9 hx_2 ?_
  obtain ⟨x_3, hx_3, rx_3, tx_3⟩ := ex_add 105 141 rc_105 rx_2 (by decide) (by decide) (by decide) (by decide)
  refine g_iadd C (v := x_3) dX12_onPlate_10 hx_3 ?_
  refine g_iload_n C 2 dX12_onPlate_11 rfl rfl ?_
  obtain ⟨x_4, hx_4, rx_4, tx_4⟩ := ex_add 105 146 rx_3 ra1 (by decide) (by decide) (by decide) (by decide)
  refine g_iadd C (v := x_4) dX12_onPlate_12 hx_4 ?_
  obtain ⟨x_5, hx_5, rx_5⟩ := ex_getw (I := I) (a := b_1) (j := x_4.toNatClampNeg) (lo := 0) (hi := 379) hU.1 hb_1L (ro_a hb_1k (by decide) hb_1o hkx rfl) (bn_834.trans (zq_105 (ix_k (lo := 105) (hi := 146) rx_4 (by decide) (by decide) (by decide))))
  refine h_iald C K hb_1L hb_1k (v := x_5) (x_4.toNatClampNeg) (rfl) (ix_0 rx_4 (by decide)) (ix_lt rx_4 (by decide) hb_1n (by decide)) hx_5 dX12_onPlate_13 ?_
  exact g_zret (ty := .int) (r := x_5) B K rfl (rfl) ⟨rfl, rfl, rx_5, (fun a ha => by rw [hb_1] at ha; cases ha; rw [← (show x_4.toNatClampNeg = 105 + 6 * a0.toNatClampNeg + a1.toNatClampNeg from by rw [nx_a tx_4 rx_3 ra1 (by decide), nx_a tx_3 rc_105 rx_2 (by decide), nx_m (k := 6) tx_2 ra0 (by decide)]; rfl)]; exact hx_5.symm)⟩ dX12_onPlate_14
set_option maxRecDepth 100000 in
set_option maxHeartbeats 8000000 in
theorem c_X12_plate {l : Launch} {D : va_G} {cy : Nat → ClassId} {L : List Nat} {κ ln : Nat → Nat} {R : Nat → Nat → Option Nat} {I : Nat → Nat → Int32} {J : Nat → Nat → Int64} {ow : Nat → Nat × Nat} (W9 : ∀ a ∈ L, Shp L κ ln R ow a) {x : Nat} (hLx : x ∈ L) (hkx : κ x = 12) (a0 : Int32) (a1 : Int32) (hU : Iw L κ R ow I) : CtI l yX12_plate cX12_plate 3 (some .int) { frames := 2, cells := 0, slots := 0, locals := 43 } D cy L κ ln R I J [.ref x, .int a0, .int a1] (fun r I2 J2 => Iw L κ R ow I2 ∧ Fq L κ ow [1200] I I2 ∧ Fq L κ ow [] J J2 ∧ Rg (-1) 379 r) := by
  refine CtI.of (by decide +kernel) (Nat.le_of_ble_eq_true rfl) ?_
  intro p e s m below meth c B K
  have C := B.1
  have hF : Fq L κ ow [1200] I I := fq_rf
  have hG : Fq L κ ow [] J J := fq_rf
  refine g_lo (is := [0, 1, 2]) (lo2 := [(0, .ref x), (1, .int a0), (2, .int a1)]) rfl ?_
  refine g_aload_n C 0 dX12_plate_0 rfl rfl ?_
  refine g_iconst C (v := 0) dX12_plate_1 (by decide) ?_
  refine h_putI C K hLx hkx f_12_82 p_12_0 dX12_plate_2 (fun I_1 hI_1 => ?_)
  have hU_2 := iw_put W9 hU hI_1 (ro_o hkx (by decide)) (lo := (-2147483648)) (hi := 2147483647) (rfl) (rg_all _) rfl
  have hF_3 := fq_puto hF hI_1 hkx (by decide) (by decide)
  refine g_aload_n C 0 dX12_plate_5 rfl rfl ?_
  refine g_iload_n C 1 dX12_plate_6 rfl rfl ?_
  refine g_callVI C K (c_X12_isPerson W9 hLx hkx a0  hU_2) hLx hkx (by decide) rfl v_12_238 rfl ⟨rfl, rfl⟩ ⟨Nat.le_of_ble_eq_true rfl, Nat.le_of_ble_eq_true rfl⟩ (Nat.le_of_ble_eq_true rfl) ⟨Nat.le_of_ble_eq_true rfl, Nat.le_of_ble_eq_true rfl⟩ dX12_plate_7 rfl (st := []) (fun x_4 I_5 J_6 h_7 => ?_)
  obtain ⟨rfl, rfl, rx_4, ex_4⟩ := h_7
  refine g_if_eq C (tgt := 30) dX12_plate_10 (by decide) (fun h_8 => ?_) (fun h_8 => ?_)
  · skip
    have r_9 := (⟨(rx_4).1, (eq_rg (h_8) rc_0).2⟩ : Rg 0 0 x_4)
    refine g_iconst C (v := (-1)) dX12_plate_30 (by decide) ?_
    exact g_zret (ty := .int) (r := (-1)) B K rfl (rfl) ⟨hU_2, hF_3, hG, rg_w rc_m1 (by decide) (by decide)⟩ dX12_plate_31
  · skip
    have n_10 : ¬ x_4 = 0 := h_8
    have r_11 := ne_lo (lo := 1) n_10 rx_4 rc_0 rfl (by decide)
    have r_12 := rg_i (rg_all a0) ((ex_4) n_10) (lo := 0) (hi := 6) (by decide) (by decide)
    refine g_aload_n C 0 dX12_plate_13 rfl rfl ?_
    refine g_iload_n C 2 dX12_plate_14 rfl rfl ?_
    refine g_callVI C K (c_X12_isDish W9 hLx hkx a1  hU_2) hLx hkx (by decide) rfl v_12_250 rfl ⟨rfl, rfl⟩ ⟨Nat.le_of_ble_eq_true rfl, Nat.le_of_ble_eq_true rfl⟩ (Nat.le_of_ble_eq_true rfl) ⟨Nat.le_of_ble_eq_true rfl, Nat.le_of_ble_eq_true rfl⟩ dX12_plate_15 rfl (st := []) (fun x_13 I_14 J_15 h_16 => ?_)
    obtain ⟨rfl, rfl, rx_13, ex_13⟩ := h_16
    refine g_if_eq C (tgt := 30) dX12_plate_18 (by decide) (fun h_17 => ?_) (fun h_17 => ?_)
    · skip
      have r_18 := (⟨(rx_13).1, (eq_rg (h_17) rc_0).2⟩ : Rg 0 0 x_13)
      refine g_iconst C (v := (-1)) dX12_plate_30 (by decide) ?_
      exact g_zret (ty := .int) (r := (-1)) B K rfl (rfl) ⟨hU_2, hF_3, hG, rg_w rc_m1 (by decide) (by decide)⟩ dX12_plate_31
    · skip
      have n_19 : ¬ x_13 = 0 := h_17
      have r_20 := ne_lo (lo := 1) n_19 rx_13 rc_0 rfl (by decide)
      have r_21 := rg_i (rg_all a1) ((ex_13) n_19) (lo := 0) (hi := 5) (by decide) (by decide)
      refine g_aload_n C 0 dX12_plate_21 rfl rfl ?_
      refine g_iload_n C 1 dX12_plate_22 rfl rfl ?_
      refine g_iload_n C 2 dX12_plate_23 rfl rfl ?_
      refine g_callVI C K (c_X12_onPlate W9 hLx hkx a0 a1 (r_12) (r_21) hU_2) hLx hkx (by decide) rfl v_12_234 rfl ⟨rfl, rfl⟩ ⟨Nat.le_of_ble_eq_true rfl, Nat.le_of_ble_eq_true rfl⟩ (Nat.le_of_ble_eq_true rfl) ⟨Nat.le_of_ble_eq_true rfl, Nat.le_of_ble_eq_true rfl⟩ dX12_plate_24 rfl (st := []) (fun x_22 I_23 J_24 h_25 => ?_)
      obtain ⟨rfl, rfl, rx_22, ex_22⟩ := h_25
      refine g_goto C (tgt := 31) dX12_plate_27 (by decide) ?_
      exact g_zret (ty := .int) (r := x_22) B K rfl (rfl) ⟨hU_2, hF_3, hG, rg_w rx_22 (by decide) (by decide)⟩ dX12_plate_31
set_option maxRecDepth 100000 in
set_option maxHeartbeats 8000000 in
theorem c_X12_dish {l : Launch} {D : va_G} {cy : Nat → ClassId} {L : List Nat} {κ ln : Nat → Nat} {R : Nat → Nat → Option Nat} {I : Nat → Nat → Int32} {J : Nat → Nat → Int64} {ow : Nat → Nat × Nat} (W9 : ∀ a ∈ L, Shp L κ ln R ow a) {x : Nat} (hLx : x ∈ L) (hkx : κ x = 12) (a0 : Int32) (a1 : Int32) (hU : Iw L κ R ow I) : CtI l yX12_dish cX12_dish 5 (some .int) { frames := 2, cells := 0, slots := 0, locals := 43 } D cy L κ ln R I J [.ref x, .int a0, .int a1] (fun r I2 J2 => Iw L κ R ow I2 ∧ Fq L κ ow [1200] I I2 ∧ Fq L κ ow [] J J2 ∧ Rg (-2147483648) 2147483647 r) := by
  refine CtI.of (by decide +kernel) (Nat.le_of_ble_eq_true rfl) ?_
  intro p e s m below meth c B K
  have C := B.1
  have hF : Fq L κ ow [1200] I I := fq_rf
  have hG : Fq L κ ow [] J J := fq_rf
  obtain ⟨b_1, hb_1, hb_1L, hb_1k, hb_1n, hb_1o⟩ := shp_a (W9 x hLx) hkx 14 14 389 rfl (by decide)
  refine g_lo (is := [0, 1, 2]) (lo2 := [(0, .ref x), (1, .int a0), (2, .int a1)]) rfl ?_
  have l_67 : ∀ (n_67 : Nat) (I_2 : Nat → Nat → Int32) (J_3 : Nat → Nat → Int64) (hU_4 : Iw L κ R ow I_2) (hF_5 : Fq L κ ow [1200] I I_2) (hG_6 : Fq L κ ow [] J J_3) (v_7 : Int32) (rv_7 : Rg 0 5 v_7) (v_8 : Int32) (rv_8 : Rg 2 2 v_8) (v_9 : Int32) (v_10 : Int32) (rv_10 : Rg 0 7 v_10) (q_11 : I_2 x 0 = 0) (hm_12 : 7 < (v_10 : Int32).toInt + (n_67 : Int)), WG p l e { frames := 2, cells := 0, slots := 0, locals := 43 } s m ([.ref x, .int a0, .int a1] : List Value).toArray below meth c 5 0 0 (MQ below (Qi_ D cy L κ ln R (fun r I2 J2 => Iw L κ R ow I2 ∧ Fq L κ ow [1200] I I2 ∧ Fq L κ ow [] J J2 ∧ Rg (-2147483648) 2147483647 r)) ([.ref x, .int a0, .int a1] : List Value).toArray s 0 0 (Al_ L)) D cy (Al_ L) s.heap L κ ln R I_2 J_3 67 [(0, .ref x), (1, .int v_7), (2, .int v_8), (3, .int v_9), (4, .int v_10)] [] := by
    intro n_67
    induction n_67 with
    | zero =>
      intro I_2 J_3 hU_4 hF_5 hG_6 v_7 rv_7 v_8 rv_8 v_9 v_10 rv_10 q_11 hm_12
      exact ms_0 rv_10 hm_12
    | succ n_67 ih_67 =>
      intro I_2 J_3 hU_4 hF_5 hG_6 v_7 rv_7 v_8 rv_8 v_9 v_10 rv_10 q_11 hm_12
      refine g_iload C 4 dX12_dish_67 rfl ?_
      refine g_aload_n C 0 dX12_dish_69 rfl rfl ?_
      refine g_getR C K hLx hkx f_12_13 hb_1 dX12_dish_70 ?_
      refine g_iconst C (v := 0) dX12_dish_73 (by decide) ?_
      obtain ⟨x_13, hx_13, rx_13⟩ := ex_getw (I := I_2) (a := b_1) (j := 0) (lo := 0) (hi := 7) hU_4.1 hb_1L (ro_a hb_1k (by decide) hb_1o hkx rfl) (by decide)
      refine h_iald C K hb_1L hb_1k (v := x_13) (0) (by decide) (by decide) (by rw [hb_1n]; decide) hx_13 dX12_dish_74 ?_
      refine g_icmp_ge C (tgt := 94) dX12_dish_75 (by decide) (fun h_14 => ?_) (fun h_14 => ?_)
      · skip
        refine g_iload_n C 3 dX12_dish_94 rfl rfl ?_
        exact g_zret (ty := .int) (r := v_9) B K rfl (rfl) ⟨hU_4, hF_5, hG_6, (rg_all v_9)⟩ dX12_dish_95
      · skip
        have r_15 := lt_l (hi := 6) (nle h_14) rv_10 rx_13 (by decide)
        have r_16 := lt_r (lo := 1) (nle h_14) rv_10 rx_13 (by decide)
        refine g_iload_n C 3 dX12_dish_78 rfl rfl ?_
        refine g_aload_n C 0 dX12_dish_79 rfl rfl ?_
        refine g_iload C 4 dX12_dish_80 rfl ?_
        refine g_iload_n C 1 dX12_dish_82 rfl rfl ?_
        refine g_callVI C K (c_X12_onPlate W9 hLx hkx v_10 v_7 (r_15) (rv_7) hU_4) hLx hkx (by decide) rfl v_12_234 rfl ⟨rfl, rfl⟩ ⟨Nat.le_of_ble_eq_true rfl, Nat.le_of_ble_eq_true rfl⟩ (Nat.le_of_ble_eq_true rfl) ⟨Nat.le_of_ble_eq_true rfl, Nat.le_of_ble_eq_true rfl⟩ dX12_dish_83 rfl (st := [.int v_9]) (fun x_17 I_18 J_19 h_20 => ?_)
        obtain ⟨rfl, rfl, rx_17, ex_17⟩ := h_20
        obtain ⟨x_21, hx_21, rx_21⟩ := ex_any (z0 := v_9 + x_17)
        refine g_iadd C (v := x_21) dX12_dish_86 hx_21 ?_
        refine g_istore_n C dX12_dish_87 rfl (by decide) (lo2 := [(3, .int x_21), (0, .ref x), (1, .int v_7), (2, .int v_8), (4, .int v_10)]) rfl ?_
        obtain ⟨x_22, hx_22, rx_22, tx_22⟩ := ex_add (y := 1) 1 7 r_15 rc_1 (by decide) (by decide) (by decide) (by decide)
        refine g_iinc C dX12_dish_88 (k := 4) (v := x_22) rfl hx_22 (by decide) (lo2 := [(4, .int x_22), (3, .int x_21), (0, .ref x), (1, .int v_7), (2, .int v_8)]) rfl ?_
        refine g_goto C (tgt := 67) dX12_dish_91 (by decide) ?_
        refine g_lo (is := [2, 3, 4, 1, 0]) (lo2 := [(0, .ref x), (1, .int v_7), (2, .int v_8), (3, .int x_21), (4, .int x_22)]) rfl ?_
        exact ih_67 I_2 J_3 hU_4 hF_5 hG_6 v_7 (rv_7) v_8 (rv_8) x_21 x_22 (rg_w rx_22 (by decide) (by decide)) q_11 (ms_1 hm_12 (ti_k tx_22 rc_1) (by decide))
  refine g_aload_n C 0 dX12_dish_0 rfl rfl ?_
  refine g_iconst C (v := 0) dX12_dish_1 (by decide) ?_
  refine h_putI C K hLx hkx f_12_82 p_12_0 dX12_dish_2 (fun I_23 hI_23 => ?_)
  have hU_24 := iw_put W9 hU hI_23 (ro_o hkx (by decide)) (lo := (-2147483648)) (hi := 2147483647) (rfl) (rg_all _) rfl
  have hF_25 := fq_puto hF hI_23 hkx (by decide) (by decide)
  refine g_aload_n C 0 dX12_dish_5 rfl rfl ?_
  refine g_iload_n C 1 dX12_dish_6 rfl rfl ?_
  refine g_callVI C K (c_X12_isDish W9 hLx hkx a0  hU_24) hLx hkx (by decide) rfl v_12_250 rfl ⟨rfl, rfl⟩ ⟨Nat.le_of_ble_eq_true rfl, Nat.le_of_ble_eq_true rfl⟩ (Nat.le_of_ble_eq_true rfl) ⟨Nat.le_of_ble_eq_true rfl, Nat.le_of_ble_eq_true rfl⟩ dX12_dish_7 rfl (st := []) (fun x_26 I_27 J_28 h_29 => ?_)
  obtain ⟨rfl, rfl, rx_26, ex_26⟩ := h_29
  refine g_if_ne C (tgt := 15) dX12_dish_10 (by decide) (fun h_30 => ?_) (fun h_30 => ?_)
  · skip
    have n_31 : ¬ x_26 = 0 := h_30
    have r_32 := ne_lo (lo := 1) n_31 rx_26 rc_0 rfl (by decide)
    have r_33 := rg_i (rg_all a0) ((ex_26) n_31) (lo := 0) (hi := 5) (by decide) (by decide)
    refine g_iconst C (v := 0) dX12_dish_15 (by decide) ?_
    refine g_istore_n C dX12_dish_16 rfl (by decide) (lo2 := [(3, .int 0), (0, .ref x), (1, .int a0), (2, .int a1)]) rfl ?_
    refine g_iload_n C 3 dX12_dish_17 rfl rfl ?_
    by_cases c_34 : a1.toInt = 0
    · skip
      have r_35 := rg_of (a := 0) (b := 0) 0 c_34 (by decide) (by decide)
      refine g_tableIn C (tgt := 44) dX12_dish_18 (by omega) (by omega) (off := 26) (by rw [c_34]; rfl) (by decide) ?_
      refine g_aload_n C 1 dX12_dish_44 rfl rfl ?_
      refine g_getR C K hLx hkx f_12_13 hb_1 dX12_dish_45 ?_
      refine g_bipush C (v := 78) dX12_dish_48 (by decide) ?_
      refine g_iload_n C 2 dX12_dish_50 rfl rfl ?_
      obtain ⟨x_36, hx_36, rx_36, tx_36⟩ := ex_add 78 83 rc_78 r_33 (by decide) (by decide) (by decide) (by decide)
      refine g_iadd C (v := x_36) dX12_dish_51 hx_36 ?_
      obtain ⟨x_37, hx_37, rx_37⟩ := ex_getw (I := I_23) (a := b_1) (j := x_36.toNatClampNeg) (lo := 0) (hi := 379) hU_24.1 hb_1L (ro_a hb_1k (by decide) hb_1o hkx rfl) (bn_834.trans (zq_78 (ix_k (lo := 78) (hi := 83) rx_36 (by decide) (by decide) (by decide))))
      refine h_iald C K hb_1L hb_1k (v := x_37) (x_36.toNatClampNeg) (rfl) (ix_0 rx_36 (by decide)) (ix_lt rx_36 (by decide) hb_1n (by decide)) hx_37 dX12_dish_52 ?_
      exact g_zret (ty := .int) (r := x_37) B K rfl (rfl) ⟨hU_24, hF_25, hG, rg_all _⟩ dX12_dish_53
    by_cases c_38 : a1.toInt = 1
    · skip
      have r_39 := rg_of (a := 1) (b := 1) 1 c_38 (by decide) (by decide)
      refine g_tableIn C (tgt := 54) dX12_dish_18 (by omega) (by omega) (off := 36) (by rw [c_38]; rfl) (by decide) ?_
      refine g_aload_n C 1 dX12_dish_54 rfl rfl ?_
      refine g_getR C K hLx hkx f_12_13 hb_1 dX12_dish_55 ?_
      refine g_bipush C (v := 24) dX12_dish_58 (by decide) ?_
      refine g_iload_n C 2 dX12_dish_60 rfl rfl ?_
      obtain ⟨x_40, hx_40, rx_40, tx_40⟩ := ex_add 24 29 rc_24 r_33 (by decide) (by decide) (by decide) (by decide)
      refine g_iadd C (v := x_40) dX12_dish_61 hx_40 ?_
      obtain ⟨x_41, hx_41, rx_41⟩ := ex_getw (I := I_23) (a := b_1) (j := x_40.toNatClampNeg) (lo := 0) (hi := 9) hU_24.1 hb_1L (ro_a hb_1k (by decide) hb_1o hkx rfl) (bn_834.trans (zq_24 (ix_k (lo := 24) (hi := 29) rx_40 (by decide) (by decide) (by decide))))
      refine h_iald C K hb_1L hb_1k (v := x_41) (x_40.toNatClampNeg) (rfl) (ix_0 rx_40 (by decide)) (ix_lt rx_40 (by decide) hb_1n (by decide)) hx_41 dX12_dish_62 ?_
      exact g_zret (ty := .int) (r := x_41) B K rfl (rfl) ⟨hU_24, hF_25, hG, rg_all _⟩ dX12_dish_63
    by_cases c_42 : a1.toInt = 2
    · skip
      have r_43 := rg_of (a := 2) (b := 2) 2 c_42 (by decide) (by decide)
      refine g_tableIn C (tgt := 64) dX12_dish_18 (by omega) (by omega) (off := 46) (by rw [c_42]; rfl) (by decide) ?_
      refine g_iconst C (v := 0) dX12_dish_64 (by decide) ?_
      refine g_istore C dX12_dish_65 (by decide) (lo2 := [(4, .int 0), (3, .int 0), (0, .ref x), (1, .int a0), (2, .int a1)]) rfl ?_
      refine g_lo (is := [2, 3, 4, 1, 0]) (lo2 := [(0, .ref x), (1, .int a0), (2, .int a1), (3, .int 0), (4, .int 0)]) rfl ?_
      exact l_67 8 I_23 J hU_24 hF_25 hG a0 (r_33) a1 (r_43) 0 0 (rg_w rc_0 (by decide) (by decide)) (kp_s hI_23) (ms_s (a := 0) (b := 7) (N := 8) (rg_w rc_0 (by decide) (by decide)) (by decide))
    have n_45 : ¬ a1 = 0 := (fun q => c_34 (by rw [q]; decide))
    have n_46 : ¬ a1 = 1 := (fun q => c_38 (by rw [q]; decide))
    have n_47 : ¬ a1 = 2 := (fun q => c_42 (by rw [q]; decide))
    obtain ⟨q_441, q_442⟩ := id ((rg_all a1))
    refine g_tableOut C (tgt := 96) dX12_dish_18 (by omega) (by decide) ?_
    refine g_iconst C (v := (-1)) dX12_dish_96 (by decide) ?_
    exact g_zret (ty := .int) (r := (-1)) B K rfl (rfl) ⟨hU_24, hF_25, hG, rg_all _⟩ dX12_dish_97
  · skip
    have r_48 := (⟨(rx_26).1, (eq_rg (h_30) rc_0).2⟩ : Rg 0 0 x_26)
    refine g_iconst C (v := (-1)) dX12_dish_13 (by decide) ?_
    exact g_zret (ty := .int) (r := (-1)) B K rfl (rfl) ⟨hU_24, hF_25, hG, rg_all _⟩ dX12_dish_14
set_option maxRecDepth 100000 in
set_option maxHeartbeats 8000000 in
theorem c_X12_has {l : Launch} {D : va_G} {cy : Nat → ClassId} {L : List Nat} {κ ln : Nat → Nat} {R : Nat → Nat → Option Nat} {I : Nat → Nat → Int32} {J : Nat → Nat → Int64} {ow : Nat → Nat × Nat} (W9 : ∀ a ∈ L, Shp L κ ln R ow a) (a0 : Int32) (a1 : Int32) (hU : Iw L κ R ow I) : CtI l yX12_has cX12_has 2 (some .boolean) { frames := 0, cells := 0, slots := 0, locals := 0 } D cy L κ ln R I J [.int a0, .int a1] (fun r I2 J2 => I = I2 ∧ J = J2 ∧ Rg 0 1 r) := by
  refine CtI.of (by decide +kernel) (Nat.le_of_ble_eq_true rfl) ?_
  intro p e s m below meth c B K
  have C := B.1
  refine g_lo (is := [0, 1]) (lo2 := [(0, .int a0), (1, .int a1)]) rfl ?_
  refine g_iload_n C 0 dX12_has_0 rfl rfl ?_
  refine g_iload_n C 1 dX12_has_1 rfl rfl ?_
  obtain ⟨x_1, hx_1, rx_1⟩ := ex_any (z0 := a0 >>> (a1 &&& 31))
  refine g_ishr C (v := x_1) dX12_has_2 hx_1 ?_
  refine g_iconst C (v := 1) dX12_has_3 (by decide) ?_
  obtain ⟨x_2, hx_2, rx_2⟩ := ex_andr (x := x_1) (y := 1) (b := 1) (rg_w rc_1 (by decide) (by decide))
  refine g_iand C (v := x_2) dX12_has_4 hx_2 ?_
  refine g_iconst C (v := 1) dX12_has_5 (by decide) ?_
  refine g_icmp_ne C (tgt := 13) dX12_has_6 (by decide) (fun h_3 => ?_) (fun h_3 => ?_)
  · skip
    have n_4 : ¬ x_2 = 1 := h_3
    have r_5 := ne_hi (hi := 0) n_4 rx_2 rc_1 rfl (by decide)
    refine g_iconst C (v := 0) dX12_has_13 (by decide) ?_
    exact g_zret (ty := .boolean) (r := 0) B K rfl (rfl) ⟨rfl, rfl, rg_w rc_0 (by decide) (by decide)⟩ dX12_has_14
  · skip
    have r_6 := (⟨(eq_rg (h_3) rc_1).1, (rx_2).2⟩ : Rg 1 1 x_2)
    refine g_iconst C (v := 1) dX12_has_9 (by decide) ?_
    refine g_goto C (tgt := 14) dX12_has_10 (by decide) ?_
    exact g_zret (ty := .boolean) (r := 1) B K rfl (rfl) ⟨rfl, rfl, rg_w rc_1 (by decide) (by decide)⟩ dX12_has_14
set_option maxRecDepth 100000 in
set_option maxHeartbeats 8000000 in
theorem c_X12_isDead {l : Launch} {D : va_G} {cy : Nat → ClassId} {L : List Nat} {κ ln : Nat → Nat} {R : Nat → Nat → Option Nat} {I : Nat → Nat → Int32} {J : Nat → Nat → Int64} {ow : Nat → Nat × Nat} (W9 : ∀ a ∈ L, Shp L κ ln R ow a) {x : Nat} (hLx : x ∈ L) (hkx : κ x = 12) (a0 : Int32) (ra0 : Rg 0 6 a0) (hU : Iw L κ R ow I) : CtI l yX12_isDead cX12_isDead 2 (some .boolean) { frames := 1, cells := 0, slots := 0, locals := 21 } D cy L κ ln R I J [.ref x, .int a0] (fun r I2 J2 => I = I2 ∧ J = J2 ∧ Rg 0 1 r) := by
  refine CtI.of (by decide +kernel) (Nat.le_of_ble_eq_true rfl) ?_
  intro p e s m below meth c B K
  have C := B.1
  obtain ⟨b_1, hb_1, hb_1L, hb_1k, hb_1n, hb_1o⟩ := shp_a (W9 x hLx) hkx 14 14 389 rfl (by decide)
  refine g_lo (is := [0, 1]) (lo2 := [(0, .ref x), (1, .int a0)]) rfl ?_
  refine g_aload_n C 0 dX12_isDead_0 rfl rfl ?_
  refine g_getR C K hLx hkx f_12_13 hb_1 dX12_isDead_1 ?_
  refine g_bipush C (v := 73) dX12_isDead_4 (by decide) ?_
  obtain ⟨x_2, hx_2, rx_2⟩ := ex_any (z0 := I b_1 (73))
  refine h_iald C K hb_1L hb_1k (v := x_2) (73) (by decide) (by decide) (by rw [hb_1n]; decide) hx_2 dX12_isDead_6 ?_
  refine g_iload_n C 1 dX12_isDead_7 rfl rfl ?_
  refine g_callSI C K (c_X12_has W9 x_2 a0  hU) s_12_231 rfl ⟨rfl, rfl⟩ ⟨Nat.le_of_ble_eq_true rfl, Nat.le_of_ble_eq_true rfl⟩ (Nat.le_of_ble_eq_true rfl) ⟨Nat.le_of_ble_eq_true rfl, Nat.le_of_ble_eq_true rfl⟩ dX12_isDead_8 rfl (st := []) (fun x_3 I_4 J_5 h_6 => ?_)
  obtain ⟨rfl, rfl, rx_3⟩ := h_6
  exact g_zret (ty := .boolean) (r := x_3) B K rfl (nar_z (rx_3)) ⟨rfl, rfl, rx_3⟩ dX12_isDead_11
set_option maxRecDepth 100000 in
set_option maxHeartbeats 8000000 in
theorem c_X12_plateOf {l : Launch} {D : va_G} {cy : Nat → ClassId} {L : List Nat} {κ ln : Nat → Nat} {R : Nat → Nat → Option Nat} {I : Nat → Nat → Int32} {J : Nat → Nat → Int64} {ow : Nat → Nat × Nat} (W9 : ∀ a ∈ L, Shp L κ ln R ow a) {x : Nat} (hLx : x ∈ L) (hkx : κ x = 12) (a0 : Int32) (ra0 : Rg 0 6 a0) (hU : Iw L κ R ow I) : CtI l yX12_plateOf cX12_plateOf 4 (some .int) { frames := 1, cells := 0, slots := 0, locals := 22 } D cy L κ ln R I J [.ref x, .int a0] (fun r I2 J2 => I = I2 ∧ J = J2 ∧ Rg (-2147483648) 2147483647 r) := by
  refine CtI.of (by decide +kernel) (Nat.le_of_ble_eq_true rfl) ?_
  intro p e s m below meth c B K
  have C := B.1
  refine g_lo (is := [0, 1]) (lo2 := [(0, .ref x), (1, .int a0)]) rfl ?_
  have l_4 : ∀ (n_4 : Nat) (v_1 : Int32) (rv_1 : Rg 0 6 v_1) (v_2 : Int32) (v_3 : Int32) (rv_3 : Rg 0 6 v_3) (hm_4 : 6 < (v_3 : Int32).toInt + (n_4 : Int)), WG p l e { frames := 1, cells := 0, slots := 0, locals := 22 } s m ([.ref x, .int a0] : List Value).toArray below meth c 4 0 0 (MQ below (Qi_ D cy L κ ln R (fun r I2 J2 => I = I2 ∧ J = J2 ∧ Rg (-2147483648) 2147483647 r)) ([.ref x, .int a0] : List Value).toArray s 0 0 (Al_ L)) D cy (Al_ L) s.heap L κ ln R I J 4 [(0, .ref x), (1, .int v_1), (2, .int v_2), (3, .int v_3)] [] := by
    intro n_4
    induction n_4 with
    | zero =>
      intro v_1 rv_1 v_2 v_3 rv_3 hm_4
      exact ms_0 rv_3 hm_4
    | succ n_4 ih_4 =>
      intro v_1 rv_1 v_2 v_3 rv_3 hm_4
      refine g_iload_n C 3 dX12_plateOf_4 rfl rfl ?_
      refine g_bipush C (v := 6) dX12_plateOf_5 (by decide) ?_
      refine g_icmp_ge C (tgt := 25) dX12_plateOf_7 (by decide) (fun h_5 => ?_) (fun h_5 => ?_)
      · skip
        have r_6 := le_r (h_5) rc_6 rv_3
        refine g_iload_n C 2 dX12_plateOf_25 rfl rfl ?_
        exact g_zret (ty := .int) (r := v_2) B K rfl (rfl) ⟨rfl, rfl, (rg_all v_2)⟩ dX12_plateOf_26
      · skip
        have r_7 := lt_l (hi := 5) (nle h_5) rv_3 rc_6 (by decide)
        refine g_iload_n C 2 dX12_plateOf_10 rfl rfl ?_
        refine g_aload_n C 0 dX12_plateOf_11 rfl rfl ?_
        refine g_iload_n C 1 dX12_plateOf_12 rfl rfl ?_
        refine g_iload_n C 3 dX12_plateOf_13 rfl rfl ?_
        refine g_callVI C K (c_X12_onPlate W9 hLx hkx v_1 v_3 (rv_1) (r_7) hU) hLx hkx (by decide) rfl v_12_234 rfl ⟨rfl, rfl⟩ ⟨Nat.le_of_ble_eq_true rfl, Nat.le_of_ble_eq_true rfl⟩ (Nat.le_of_ble_eq_true rfl) ⟨Nat.le_of_ble_eq_true rfl, Nat.le_of_ble_eq_true rfl⟩ dX12_plateOf_14 rfl (st := [.int v_2]) (fun x_8 I_9 J_10 h_11 => ?_)
        obtain ⟨rfl, rfl, rx_8, ex_8⟩ := h_11
        obtain ⟨x_12, hx_12, rx_12⟩ := ex_any (z0 := v_2 + x_8)
        refine g_iadd C (v := x_12) dX12_plateOf_17 hx_12 ?_
        refine g_istore_n C dX12_plateOf_18 rfl (by decide) (lo2 := [(2, .int x_12), (0, .ref x), (1, .int v_1), (3, .int v_3)]) rfl ?_
        obtain ⟨x_13, hx_13, rx_13, tx_13⟩ := ex_add (y := 1) 1 6 r_7 rc_1 (by decide) (by decide) (by decide) (by decide)
        refine g_iinc C dX12_plateOf_19 (k := 3) (v := x_13) rfl hx_13 (by decide) (lo2 := [(3, .int x_13), (2, .int x_12), (0, .ref x), (1, .int v_1)]) rfl ?_
        refine g_goto C (tgt := 4) dX12_plateOf_22 (by decide) ?_
        refine g_lo (is := [2, 3, 1, 0]) (lo2 := [(0, .ref x), (1, .int v_1), (2, .int x_12), (3, .int x_13)]) rfl ?_
        exact ih_4 v_1 (rv_1) x_12 x_13 (rg_w rx_13 (by decide) (by decide)) (ms_1 hm_4 (ti_k tx_13 rc_1) (by decide))
  refine g_iconst C (v := 0) dX12_plateOf_0 (by decide) ?_
  refine g_istore_n C dX12_plateOf_1 rfl (by decide) (lo2 := [(2, .int 0), (0, .ref x), (1, .int a0)]) rfl ?_
  refine g_iconst C (v := 0) dX12_plateOf_2 (by decide) ?_
  refine g_istore_n C dX12_plateOf_3 rfl (by decide) (lo2 := [(3, .int 0), (2, .int 0), (0, .ref x), (1, .int a0)]) rfl ?_
  refine g_lo (is := [2, 3, 1, 0]) (lo2 := [(0, .ref x), (1, .int a0), (2, .int 0), (3, .int 0)]) rfl ?_
  exact l_4 7 a0 (ra0) 0 0 (rg_w rc_0 (by decide) (by decide)) (ms_s (a := 0) (b := 6) (N := 7) (rg_w rc_0 (by decide) (by decide)) (by decide))
set_option maxRecDepth 100000 in
set_option maxHeartbeats 8000000 in
theorem c_X12_refuse {l : Launch} {D : va_G} {cy : Nat → ClassId} {L : List Nat} {κ ln : Nat → Nat} {R : Nat → Nat → Option Nat} {I : Nat → Nat → Int32} {J : Nat → Nat → Int64} {ow : Nat → Nat × Nat} (W9 : ∀ a ∈ L, Shp L κ ln R ow a) {x : Nat} (hLx : x ∈ L) (hkx : κ x = 12) (hU : Iw L κ R ow I) : CtI l yX12_refuse cX12_refuse 1 (some .int) { frames := 0, cells := 0, slots := 0, locals := 0 } D cy L κ ln R I J [.ref x] (fun r I2 J2 => Iw L κ R ow I2 ∧ Fq L κ ow [1200] I I2 ∧ Fq L κ ow [] J J2 ∧ Rg 0 0 r) := by
  refine CtI.of (by decide +kernel) (Nat.le_of_ble_eq_true rfl) ?_
  intro p e s m below meth c B K
  have C := B.1
  have hF : Fq L κ ow [1200] I I := fq_rf
  have hG : Fq L κ ow [] J J := fq_rf
  refine g_lo (is := [0]) (lo2 := [(0, .ref x)]) rfl ?_
  refine g_aload_n C 0 dX12_refuse_0 rfl rfl ?_
  refine g_iconst C (v := 1) dX12_refuse_1 (by decide) ?_
  refine h_putI C K hLx hkx f_12_82 p_12_0 dX12_refuse_2 (fun I_1 hI_1 => ?_)
  have hU_2 := iw_put W9 hU hI_1 (ro_o hkx (by decide)) (lo := (-2147483648)) (hi := 2147483647) (rfl) (rg_all _) rfl
  have hF_3 := fq_puto hF hI_1 hkx (by decide) (by decide)
  refine g_iconst C (v := 0) dX12_refuse_5 (by decide) ?_
  exact g_zret (ty := .int) (r := 0) B K rfl (rfl) ⟨hU_2, hF_3, hG, rc_0⟩ dX12_refuse_6
set_option maxRecDepth 100000 in
set_option maxHeartbeats 8000000 in
theorem c_X12_person {l : Launch} {D : va_G} {cy : Nat → ClassId} {L : List Nat} {κ ln : Nat → Nat} {R : Nat → Nat → Option Nat} {I : Nat → Nat → Int32} {J : Nat → Nat → Int64} {ow : Nat → Nat × Nat} (W9 : ∀ a ∈ L, Shp L κ ln R ow a) {x : Nat} (hLx : x ∈ L) (hkx : κ x = 12) (a0 : Int32) (a1 : Int32) (hU : Iw L κ R ow I) : CtI l yX12_person cX12_person 5 (some .int) { frames := 2, cells := 0, slots := 0, locals := 45 } D cy L κ ln R I J [.ref x, .int a0, .int a1] (fun r I2 J2 => Iw L κ R ow I2 ∧ Fq L κ ow [1200] I I2 ∧ Fq L κ ow [] J J2 ∧ Rg (-2147483648) 2147483647 r) := by
  refine CtI.of (by decide +kernel) (Nat.le_of_ble_eq_true rfl) ?_
  intro p e s m below meth c B K
  have C := B.1
  have hF : Fq L κ ow [1200] I I := fq_rf
  have hG : Fq L κ ow [] J J := fq_rf
  obtain ⟨b_1, hb_1, hb_1L, hb_1k, hb_1n, hb_1o⟩ := shp_a (W9 x hLx) hkx 14 14 389 rfl (by decide)
  refine g_lo (is := [0, 1, 2]) (lo2 := [(0, .ref x), (1, .int a0), (2, .int a1)]) rfl ?_
  have l_164 : ∀ (n_164 : Nat) (I_2 : Nat → Nat → Int32) (J_3 : Nat → Nat → Int64) (hU_4 : Iw L κ R ow I_2) (hF_5 : Fq L κ ow [1200] I I_2) (hG_6 : Fq L κ ow [] J J_3) (v_7 : Int32) (rv_7 : Rg 0 6 v_7) (v_8 : Int32) (rv_8 : Rg 8 8 v_8) (v_9 : Int32) (rv_9 : Rg 0 127 v_9) (v_10 : Int32) (rv_10 : Rg 0 7 v_10) (q_11 : I_2 x 0 = 0) (hm_12 : 7 < (v_10 : Int32).toInt + (n_164 : Int)), WG p l e { frames := 2, cells := 0, slots := 0, locals := 45 } s m ([.ref x, .int a0, .int a1] : List Value).toArray below meth c 5 0 0 (MQ below (Qi_ D cy L κ ln R (fun r I2 J2 => Iw L κ R ow I2 ∧ Fq L κ ow [1200] I I2 ∧ Fq L κ ow [] J J2 ∧ Rg (-2147483648) 2147483647 r)) ([.ref x, .int a0, .int a1] : List Value).toArray s 0 0 (Al_ L)) D cy (Al_ L) s.heap L κ ln R I_2 J_3 164 [(0, .ref x), (1, .int v_7), (2, .int v_8), (3, .int v_9), (4, .int v_10)] [] := by
    intro n_164
    induction n_164 with
    | zero =>
      intro I_2 J_3 hU_4 hF_5 hG_6 v_7 rv_7 v_8 rv_8 v_9 rv_9 v_10 rv_10 q_11 hm_12
      exact ms_0 rv_10 hm_12
    | succ n_164 ih_164 =>
      intro I_2 J_3 hU_4 hF_5 hG_6 v_7 rv_7 v_8 rv_8 v_9 rv_9 v_10 rv_10 q_11 hm_12
      have j_196 : ∀ (I_13 : Nat → Nat → Int32) (J_14 : Nat → Nat → Int64) (hU_15 : Iw L κ R ow I_13) (hF_16 : Fq L κ ow [1200] I I_13) (hG_17 : Fq L κ ow [] J J_14) (v_18 : Int32) (rv_18 : Rg 0 6 v_18) (v_19 : Int32) (rv_19 : Rg 8 8 v_19) (v_20 : Int32) (rv_20 : Rg 0 127 v_20) (v_21 : Int32) (rv_21 : Rg 0 6 v_21) (q_22 : I_13 x 0 = 0) (hm_23 : 7 < (v_21 : Int32).toInt + ((n_164 + 1 : Nat) : Int)), WG p l e { frames := 2, cells := 0, slots := 0, locals := 45 } s m ([.ref x, .int a0, .int a1] : List Value).toArray below meth c 5 0 0 (MQ below (Qi_ D cy L κ ln R (fun r I2 J2 => Iw L κ R ow I2 ∧ Fq L κ ow [1200] I I2 ∧ Fq L κ ow [] J J2 ∧ Rg (-2147483648) 2147483647 r)) ([.ref x, .int a0, .int a1] : List Value).toArray s 0 0 (Al_ L)) D cy (Al_ L) s.heap L κ ln R I_13 J_14 196 [(0, .ref x), (1, .int v_18), (2, .int v_19), (3, .int v_20), (4, .int v_21)] [] := by
        intro I_13 J_14 hU_15 hF_16 hG_17 v_18 rv_18 v_19 rv_19 v_20 rv_20 v_21 rv_21 q_22 hm_23
        obtain ⟨x_24, hx_24, rx_24, tx_24⟩ := ex_add (y := 1) 1 7 rv_21 rc_1 (by decide) (by decide) (by decide) (by decide)
        refine g_iinc C dX12_person_196 (k := 4) (v := x_24) rfl hx_24 (by decide) (lo2 := [(4, .int x_24), (0, .ref x), (1, .int v_18), (2, .int v_19), (3, .int v_20)]) rfl ?_
        refine g_goto C (tgt := 164) dX12_person_199 (by decide) ?_
        refine g_lo (is := [1, 2, 3, 4, 0]) (lo2 := [(0, .ref x), (1, .int v_18), (2, .int v_19), (3, .int v_20), (4, .int x_24)]) rfl ?_
        exact ih_164 I_13 J_14 hU_15 hF_16 hG_17 v_18 (rv_18) v_19 (rv_19) v_20 (rv_20) x_24 (rg_w rx_24 (by decide) (by decide)) q_22 (ms_1 hm_23 (ti_k tx_24 rc_1) (by decide))
      refine g_iload C 4 dX12_person_164 rfl ?_
      refine g_aload_n C 0 dX12_person_166 rfl rfl ?_
      refine g_getR C K hLx hkx f_12_13 hb_1 dX12_person_167 ?_
      refine g_iconst C (v := 0) dX12_person_170 (by decide) ?_
      obtain ⟨x_25, hx_25, rx_25⟩ := ex_getw (I := I_2) (a := b_1) (j := 0) (lo := 0) (hi := 7) hU_4.1 hb_1L (ro_a hb_1k (by decide) hb_1o hkx rfl) (by decide)
      refine h_iald C K hb_1L hb_1k (v := x_25) (0) (by decide) (by decide) (by rw [hb_1n]; decide) hx_25 dX12_person_171 ?_
      refine g_icmp_ge C (tgt := 202) dX12_person_172 (by decide) (fun h_26 => ?_) (fun h_26 => ?_)
      · skip
        refine g_iload_n C 3 dX12_person_202 rfl rfl ?_
        exact g_zret (ty := .int) (r := v_9) B K rfl (rfl) ⟨hU_4, hF_5, hG_6, rg_all _⟩ dX12_person_203
      · skip
        have r_27 := lt_l (hi := 6) (nle h_26) rv_10 rx_25 (by decide)
        have r_28 := lt_r (lo := 1) (nle h_26) rv_10 rx_25 (by decide)
        refine g_aload_n C 0 dX12_person_175 rfl rfl ?_
        refine g_getR C K hLx hkx f_12_13 hb_1 dX12_person_176 ?_
        refine g_bipush C (v := 11) dX12_person_179 (by decide) ?_
        refine g_iload C 4 dX12_person_181 rfl ?_
        obtain ⟨x_29, hx_29, rx_29, tx_29⟩ := ex_add 11 17 rc_11 r_27 (by decide) (by decide) (by decide) (by decide)
        refine g_iadd C (v := x_29) dX12_person_183 hx_29 ?_
        obtain ⟨x_30, hx_30, rx_30⟩ := ex_any (z0 := I_2 b_1 (x_29.toNatClampNeg))
        refine h_iald C K hb_1L hb_1k (v := x_30) (x_29.toNatClampNeg) (rfl) (ix_0 rx_29 (by decide)) (ix_lt rx_29 (by decide) hb_1n (by decide)) hx_30 dX12_person_184 ?_
        refine g_iload_n C 1 dX12_person_185 rfl rfl ?_
        refine g_icmp_ne C (tgt := 196) dX12_person_186 (by decide) (fun h_31 => ?_) (fun h_31 => ?_)
        · skip
          refine g_lo (is := [0, 1, 2, 3, 4]) (lo2 := [(0, .ref x), (1, .int v_7), (2, .int v_8), (3, .int v_9), (4, .int v_10)]) rfl ?_
          exact j_196 I_2 J_3 hU_4 hF_5 hG_6 v_7 (rv_7) v_8 (rv_8) v_9 (rv_9) v_10 (r_27) q_11 hm_12
        · skip
          have r_32 := (⟨(eq_rg (h_31) rv_7).1, (eq_rg (h_31) rv_7).2⟩ : Rg 0 6 x_30)
          refine g_iload_n C 3 dX12_person_189 rfl rfl ?_
          refine g_iconst C (v := 1) dX12_person_190 (by decide) ?_
          refine g_iload C 4 dX12_person_191 rfl ?_
          obtain ⟨x_33, hx_33, rx_33⟩ := ex_shl (x := 1) (y := v_10) 6 64 rfl (r_27) (by decide)
          refine g_ishl C (v := x_33) dX12_person_193 hx_33 ?_
          obtain ⟨x_34, hx_34, rx_34⟩ := ex_or 7 (x := v_9) (y := x_33) (b := 127) (c := 64) (rv_9) (rg_w rx_33 (by decide) (by decide)) (by decide) (by decide) (by decide) 127 (by decide)
          refine g_ior C (v := x_34) dX12_person_194 hx_34 ?_
          refine g_istore_n C dX12_person_195 rfl (by decide) (lo2 := [(3, .int x_34), (0, .ref x), (1, .int v_7), (2, .int v_8), (4, .int v_10)]) rfl ?_
          refine g_lo (is := [1, 2, 3, 0, 4]) (lo2 := [(0, .ref x), (1, .int v_7), (2, .int v_8), (3, .int x_34), (4, .int v_10)]) rfl ?_
          exact j_196 I_2 J_3 hU_4 hF_5 hG_6 v_7 (rv_7) v_8 (rv_8) x_34 (rx_34) v_10 (r_27) q_11 hm_12
  refine g_aload_n C 0 dX12_person_0 rfl rfl ?_
  refine g_iconst C (v := 0) dX12_person_1 (by decide) ?_
  refine h_putI C K hLx hkx f_12_82 p_12_0 dX12_person_2 (fun I_35 hI_35 => ?_)
  have hU_36 := iw_put W9 hU hI_35 (ro_o hkx (by decide)) (lo := (-2147483648)) (hi := 2147483647) (rfl) (rg_all _) rfl
  have hF_37 := fq_puto hF hI_35 hkx (by decide) (by decide)
  refine g_aload_n C 0 dX12_person_5 rfl rfl ?_
  refine g_iload_n C 1 dX12_person_6 rfl rfl ?_
  refine g_callVI C K (c_X12_isPerson W9 hLx hkx a0  hU_36) hLx hkx (by decide) rfl v_12_238 rfl ⟨rfl, rfl⟩ ⟨Nat.le_of_ble_eq_true rfl, Nat.le_of_ble_eq_true rfl⟩ (Nat.le_of_ble_eq_true rfl) ⟨Nat.le_of_ble_eq_true rfl, Nat.le_of_ble_eq_true rfl⟩ dX12_person_7 rfl (st := []) (fun x_38 I_39 J_40 h_41 => ?_)
  obtain ⟨rfl, rfl, rx_38, ex_38⟩ := h_41
  refine g_if_ne C (tgt := 18) dX12_person_10 (by decide) (fun h_42 => ?_) (fun h_42 => ?_)
  · skip
    have n_43 : ¬ x_38 = 0 := h_42
    have r_44 := ne_lo (lo := 1) n_43 rx_38 rc_0 rfl (by decide)
    have r_45 := rg_i (rg_all a0) ((ex_38) n_43) (lo := 0) (hi := 6) (by decide) (by decide)
    refine g_iconst C (v := 0) dX12_person_18 (by decide) ?_
    refine g_istore_n C dX12_person_19 rfl (by decide) (lo2 := [(3, .int 0), (0, .ref x), (1, .int a0), (2, .int a1)]) rfl ?_
    refine g_iload_n C 3 dX12_person_20 rfl rfl ?_
    by_cases c_46 : a1.toInt = 0
    · skip
      have r_47 := rg_of (a := 0) (b := 0) 0 c_46 (by decide) (by decide)
      refine g_tableIn C (tgt := 72) dX12_person_21 (by omega) (by omega) (off := 51) (by rw [c_46]; rfl) (by decide) ?_
      refine g_aload_n C 1 dX12_person_72 rfl rfl ?_
      refine g_getR C K hLx hkx f_12_13 hb_1 dX12_person_73 ?_
      refine g_iconst C (v := 4) dX12_person_76 (by decide) ?_
      refine g_iload_n C 2 dX12_person_77 rfl rfl ?_
      obtain ⟨x_48, hx_48, rx_48, tx_48⟩ := ex_add 4 10 rc_4 r_45 (by decide) (by decide) (by decide) (by decide)
      refine g_iadd C (v := x_48) dX12_person_78 hx_48 ?_
      obtain ⟨x_49, hx_49, rx_49⟩ := ex_getw (I := I_35) (a := b_1) (j := x_48.toNatClampNeg) (lo := 0) (hi := 20) hU_36.1 hb_1L (ro_a hb_1k (by decide) hb_1o hkx rfl) (bn_834.trans (zq_4 (ix_k (lo := 4) (hi := 10) rx_48 (by decide) (by decide) (by decide))))
      refine h_iald C K hb_1L hb_1k (v := x_49) (x_48.toNatClampNeg) (rfl) (ix_0 rx_48 (by decide)) (ix_lt rx_48 (by decide) hb_1n (by decide)) hx_49 dX12_person_79 ?_
      exact g_zret (ty := .int) (r := x_49) B K rfl (rfl) ⟨hU_36, hF_37, hG, rg_all _⟩ dX12_person_80
    by_cases c_50 : a1.toInt = 1
    · skip
      have r_51 := rg_of (a := 1) (b := 1) 1 c_50 (by decide) (by decide)
      refine g_tableIn C (tgt := 81) dX12_person_21 (by omega) (by omega) (off := 60) (by rw [c_50]; rfl) (by decide) ?_
      refine g_aload_n C 1 dX12_person_81 rfl rfl ?_
      refine g_getR C K hLx hkx f_12_13 hb_1 dX12_person_82 ?_
      refine g_bipush C (v := 11) dX12_person_85 (by decide) ?_
      refine g_iload_n C 2 dX12_person_87 rfl rfl ?_
      obtain ⟨x_52, hx_52, rx_52, tx_52⟩ := ex_add 11 17 rc_11 r_45 (by decide) (by decide) (by decide) (by decide)
      refine g_iadd C (v := x_52) dX12_person_88 hx_52 ?_
      obtain ⟨x_53, hx_53, rx_53⟩ := ex_any (z0 := I_35 b_1 (x_52.toNatClampNeg))
      refine h_iald C K hb_1L hb_1k (v := x_53) (x_52.toNatClampNeg) (rfl) (ix_0 rx_52 (by decide)) (ix_lt rx_52 (by decide) hb_1n (by decide)) hx_53 dX12_person_89 ?_
      exact g_zret (ty := .int) (r := x_53) B K rfl (rfl) ⟨hU_36, hF_37, hG, rx_53⟩ dX12_person_90
    by_cases c_54 : a1.toInt = 2
    · skip
      have r_55 := rg_of (a := 2) (b := 2) 2 c_54 (by decide) (by decide)
      refine g_tableIn C (tgt := 91) dX12_person_21 (by omega) (by omega) (off := 70) (by rw [c_54]; rfl) (by decide) ?_
      refine g_aload_n C 1 dX12_person_91 rfl rfl ?_
      refine g_iload_n C 2 dX12_person_92 rfl rfl ?_
      refine g_callVI C K (c_X12_isDead W9 hLx hkx a0 (r_45) hU_36) hLx hkx (by decide) rfl v_12_244 rfl ⟨rfl, rfl⟩ ⟨Nat.le_of_ble_eq_true rfl, Nat.le_of_ble_eq_true rfl⟩ (Nat.le_of_ble_eq_true rfl) ⟨Nat.le_of_ble_eq_true rfl, Nat.le_of_ble_eq_true rfl⟩ dX12_person_93 rfl (st := []) (fun x_56 I_57 J_58 h_59 => ?_)
      obtain ⟨rfl, rfl, rx_56⟩ := h_59
      refine g_if_eq C (tgt := 103) dX12_person_96 (by decide) (fun h_60 => ?_) (fun h_60 => ?_)
      · skip
        have r_61 := (⟨(rx_56).1, (eq_rg (h_60) rc_0).2⟩ : Rg 0 0 x_56)
        refine g_iconst C (v := 0) dX12_person_103 (by decide) ?_
        exact g_zret (ty := .int) (r := 0) B K rfl (rfl) ⟨hU_36, hF_37, hG, rg_all _⟩ dX12_person_104
      · skip
        have n_62 : ¬ x_56 = 0 := h_60
        have r_63 := ne_lo (lo := 1) n_62 rx_56 rc_0 rfl (by decide)
        refine g_iconst C (v := 1) dX12_person_99 (by decide) ?_
        refine g_goto C (tgt := 104) dX12_person_100 (by decide) ?_
        exact g_zret (ty := .int) (r := 1) B K rfl (rfl) ⟨hU_36, hF_37, hG, rg_all _⟩ dX12_person_104
    by_cases c_64 : a1.toInt = 3
    · skip
      have r_65 := rg_of (a := 3) (b := 3) 3 c_64 (by decide) (by decide)
      refine g_tableIn C (tgt := 105) dX12_person_21 (by omega) (by omega) (off := 84) (by rw [c_64]; rfl) (by decide) ?_
      refine g_aload_n C 1 dX12_person_105 rfl rfl ?_
      refine g_getR C K hLx hkx f_12_13 hb_1 dX12_person_106 ?_
      refine g_bipush C (v := 74) dX12_person_109 (by decide) ?_
      obtain ⟨x_66, hx_66, rx_66⟩ := ex_any (z0 := I_35 b_1 (74))
      refine h_iald C K hb_1L hb_1k (v := x_66) (74) (by decide) (by decide) (by rw [hb_1n]; decide) hx_66 dX12_person_111 ?_
      refine g_iload_n C 2 dX12_person_112 rfl rfl ?_
      refine g_callSI C K (c_X12_has W9 x_66 a0  hU_36) s_12_231 rfl ⟨rfl, rfl⟩ ⟨Nat.le_of_ble_eq_true rfl, Nat.le_of_ble_eq_true rfl⟩ (Nat.le_of_ble_eq_true rfl) ⟨Nat.le_of_ble_eq_true rfl, Nat.le_of_ble_eq_true rfl⟩ dX12_person_113 rfl (st := []) (fun x_67 I_68 J_69 h_70 => ?_)
      obtain ⟨rfl, rfl, rx_67⟩ := h_70
      refine g_if_eq C (tgt := 123) dX12_person_116 (by decide) (fun h_71 => ?_) (fun h_71 => ?_)
      · skip
        have r_72 := (⟨(rx_67).1, (eq_rg (h_71) rc_0).2⟩ : Rg 0 0 x_67)
        refine g_iconst C (v := 0) dX12_person_123 (by decide) ?_
        exact g_zret (ty := .int) (r := 0) B K rfl (rfl) ⟨hU_36, hF_37, hG, rg_all _⟩ dX12_person_124
      · skip
        have n_73 : ¬ x_67 = 0 := h_71
        have r_74 := ne_lo (lo := 1) n_73 rx_67 rc_0 rfl (by decide)
        refine g_iconst C (v := 1) dX12_person_119 (by decide) ?_
        refine g_goto C (tgt := 124) dX12_person_120 (by decide) ?_
        exact g_zret (ty := .int) (r := 1) B K rfl (rfl) ⟨hU_36, hF_37, hG, rg_all _⟩ dX12_person_124
    by_cases c_75 : a1.toInt = 4
    · skip
      have r_76 := rg_of (a := 4) (b := 4) 4 c_75 (by decide) (by decide)
      refine g_tableIn C (tgt := 125) dX12_person_21 (by omega) (by omega) (off := 104) (by rw [c_75]; rfl) (by decide) ?_
      refine g_aload_n C 1 dX12_person_125 rfl rfl ?_
      refine g_getR C K hLx hkx f_12_13 hb_1 dX12_person_126 ?_
      refine g_bipush C (v := 84) dX12_person_129 (by decide) ?_
      refine g_iload_n C 2 dX12_person_131 rfl rfl ?_
      obtain ⟨x_77, hx_77, rx_77, tx_77⟩ := ex_add 84 90 rc_84 r_45 (by decide) (by decide) (by decide) (by decide)
      refine g_iadd C (v := x_77) dX12_person_132 hx_77 ?_
      obtain ⟨x_78, hx_78, rx_78⟩ := ex_any (z0 := I_35 b_1 (x_77.toNatClampNeg))
      refine h_iald C K hb_1L hb_1k (v := x_78) (x_77.toNatClampNeg) (rfl) (ix_0 rx_77 (by decide)) (ix_lt rx_77 (by decide) hb_1n (by decide)) hx_78 dX12_person_133 ?_
      exact g_zret (ty := .int) (r := x_78) B K rfl (rfl) ⟨hU_36, hF_37, hG, rx_78⟩ dX12_person_134
    by_cases c_79 : a1.toInt = 5
    · skip
      have r_80 := rg_of (a := 5) (b := 5) 5 c_79 (by decide) (by decide)
      refine g_tableIn C (tgt := 135) dX12_person_21 (by omega) (by omega) (off := 114) (by rw [c_79]; rfl) (by decide) ?_
      refine g_aload_n C 1 dX12_person_135 rfl rfl ?_
      refine g_getR C K hLx hkx f_12_13 hb_1 dX12_person_136 ?_
      refine g_bipush C (v := 91) dX12_person_139 (by decide) ?_
      refine g_iload_n C 2 dX12_person_141 rfl rfl ?_
      obtain ⟨x_81, hx_81, rx_81, tx_81⟩ := ex_add 91 97 rc_91 r_45 (by decide) (by decide) (by decide) (by decide)
      refine g_iadd C (v := x_81) dX12_person_142 hx_81 ?_
      obtain ⟨x_82, hx_82, rx_82⟩ := ex_getw (I := I_35) (a := b_1) (j := x_81.toNatClampNeg) (lo := 0) (hi := 20) hU_36.1 hb_1L (ro_a hb_1k (by decide) hb_1o hkx rfl) (bn_834.trans (zq_91 (ix_k (lo := 91) (hi := 97) rx_81 (by decide) (by decide) (by decide))))
      refine h_iald C K hb_1L hb_1k (v := x_82) (x_81.toNatClampNeg) (rfl) (ix_0 rx_81 (by decide)) (ix_lt rx_81 (by decide) hb_1n (by decide)) hx_82 dX12_person_143 ?_
      exact g_zret (ty := .int) (r := x_82) B K rfl (rfl) ⟨hU_36, hF_37, hG, rg_all _⟩ dX12_person_144
    by_cases c_83 : a1.toInt = 6
    · skip
      have r_84 := rg_of (a := 6) (b := 6) 6 c_83 (by decide) (by decide)
      refine g_tableIn C (tgt := 145) dX12_person_21 (by omega) (by omega) (off := 124) (by rw [c_83]; rfl) (by decide) ?_
      refine g_aload_n C 1 dX12_person_145 rfl rfl ?_
      refine g_getR C K hLx hkx f_12_13 hb_1 dX12_person_146 ?_
      refine g_bipush C (v := 98) dX12_person_149 (by decide) ?_
      refine g_iload_n C 2 dX12_person_151 rfl rfl ?_
      obtain ⟨x_85, hx_85, rx_85, tx_85⟩ := ex_add 98 104 rc_98 r_45 (by decide) (by decide) (by decide) (by decide)
      refine g_iadd C (v := x_85) dX12_person_152 hx_85 ?_
      obtain ⟨x_86, hx_86, rx_86⟩ := ex_any (z0 := I_35 b_1 (x_85.toNatClampNeg))
      refine h_iald C K hb_1L hb_1k (v := x_86) (x_85.toNatClampNeg) (rfl) (ix_0 rx_85 (by decide)) (ix_lt rx_85 (by decide) hb_1n (by decide)) hx_86 dX12_person_153 ?_
      exact g_zret (ty := .int) (r := x_86) B K rfl (rfl) ⟨hU_36, hF_37, hG, rx_86⟩ dX12_person_154
    by_cases c_87 : a1.toInt = 7
    · skip
      have r_88 := rg_of (a := 7) (b := 7) 7 c_87 (by decide) (by decide)
      refine g_tableIn C (tgt := 155) dX12_person_21 (by omega) (by omega) (off := 134) (by rw [c_87]; rfl) (by decide) ?_
      refine g_aload_n C 1 dX12_person_155 rfl rfl ?_
      refine g_iload_n C 2 dX12_person_156 rfl rfl ?_
      refine g_callVI C K (c_X12_plateOf W9 hLx hkx a0 (r_45) hU_36) hLx hkx (by decide) rfl v_12_247 rfl ⟨rfl, rfl⟩ ⟨Nat.le_of_ble_eq_true rfl, Nat.le_of_ble_eq_true rfl⟩ (Nat.le_of_ble_eq_true rfl) ⟨Nat.le_of_ble_eq_true rfl, Nat.le_of_ble_eq_true rfl⟩ dX12_person_157 rfl (st := []) (fun x_89 I_90 J_91 h_92 => ?_)
      obtain ⟨rfl, rfl, rx_89⟩ := h_92
      exact g_zret (ty := .int) (r := x_89) B K rfl (rfl) ⟨hU_36, hF_37, hG, rx_89⟩ dX12_person_160
    by_cases c_93 : a1.toInt = 8
    · skip
      have r_94 := rg_of (a := 8) (b := 8) 8 c_93 (by decide) (by decide)
      refine g_tableIn C (tgt := 161) dX12_person_21 (by omega) (by omega) (off := 140) (by rw [c_93]; rfl) (by decide) ?_
      refine g_iconst C (v := 0) dX12_person_161 (by decide) ?_
      refine g_istore C dX12_person_162 (by decide) (lo2 := [(4, .int 0), (3, .int 0), (0, .ref x), (1, .int a0), (2, .int a1)]) rfl ?_
      refine g_lo (is := [2, 3, 4, 1, 0]) (lo2 := [(0, .ref x), (1, .int a0), (2, .int a1), (3, .int 0), (4, .int 0)]) rfl ?_
      exact l_164 8 I_35 J hU_36 hF_37 hG a0 (r_45) a1 (r_94) 0 (rg_w rc_0 (by decide) (by decide)) 0 (rg_w rc_0 (by decide) (by decide)) (kp_s hI_35) (ms_s (a := 0) (b := 7) (N := 8) (rg_w rc_0 (by decide) (by decide)) (by decide))
    have n_96 : ¬ a1 = 0 := (fun q => c_46 (by rw [q]; decide))
    have n_97 : ¬ a1 = 1 := (fun q => c_50 (by rw [q]; decide))
    have n_98 : ¬ a1 = 2 := (fun q => c_54 (by rw [q]; decide))
    have n_99 : ¬ a1 = 3 := (fun q => c_64 (by rw [q]; decide))
    have n_100 : ¬ a1 = 4 := (fun q => c_75 (by rw [q]; decide))
    have n_101 : ¬ a1 = 5 := (fun q => c_79 (by rw [q]; decide))
    have n_102 : ¬ a1 = 6 := (fun q => c_83 (by rw [q]; decide))
    have n_103 : ¬ a1 = 7 := (fun q => c_87 (by rw [q]; decide))
    have n_104 : ¬ a1 = 8 := (fun q => c_93 (by rw [q]; decide))
    obtain ⟨q_951, q_952⟩ := id ((rg_all a1))
    refine g_tableOut C (tgt := 204) dX12_person_21 (by omega) (by decide) ?_
    refine g_aload_n C 1 dX12_person_204 rfl rfl ?_
    refine g_callVI C K (c_X12_refuse W9 hLx hkx   hU_36) hLx hkx (by decide) rfl v_12_241 rfl ⟨rfl, rfl⟩ ⟨Nat.le_of_ble_eq_true rfl, Nat.le_of_ble_eq_true rfl⟩ (Nat.le_of_ble_eq_true rfl) ⟨Nat.le_of_ble_eq_true rfl, Nat.le_of_ble_eq_true rfl⟩ dX12_person_205 rfl (st := []) (fun x_105 I_106 J_107 h_108 => ?_)
    obtain ⟨hUI_106, hFI_106, hGJ_107, rx_105⟩ := h_108
    have hF_109 := fq_tr hF_37 hFI_106 (by decide)
    have hG_110 := fq_tr hG hGJ_107 (by decide)
    exact g_zret (ty := .int) (r := x_105) B K rfl (rfl) ⟨hUI_106, hF_109, hG_110, rg_all _⟩ dX12_person_208
  · skip
    have r_111 := (⟨(rx_38).1, (eq_rg (h_42) rc_0).2⟩ : Rg 0 0 x_38)
    refine g_aload_n C 0 dX12_person_13 rfl rfl ?_
    refine g_callVI C K (c_X12_refuse W9 hLx hkx   hU_36) hLx hkx (by decide) rfl v_12_241 rfl ⟨rfl, rfl⟩ ⟨Nat.le_of_ble_eq_true rfl, Nat.le_of_ble_eq_true rfl⟩ (Nat.le_of_ble_eq_true rfl) ⟨Nat.le_of_ble_eq_true rfl, Nat.le_of_ble_eq_true rfl⟩ dX12_person_14 rfl (st := []) (fun x_112 I_113 J_114 h_115 => ?_)
    obtain ⟨hUI_113, hFI_113, hGJ_114, rx_112⟩ := h_115
    have hF_116 := fq_tr hF_37 hFI_113 (by decide)
    have hG_117 := fq_tr hG hGJ_114 (by decide)
    exact g_zret (ty := .int) (r := x_112) B K rfl (rfl) ⟨hUI_113, hF_116, hG_117, rg_all _⟩ dX12_person_17
set_option maxRecDepth 100000 in
set_option maxHeartbeats 8000000 in
theorem c_X12_nextTo {l : Launch} {D : va_G} {cy : Nat → ClassId} {L : List Nat} {κ ln : Nat → Nat} {R : Nat → Nat → Option Nat} {I : Nat → Nat → Int32} {J : Nat → Nat → Int64} {ow : Nat → Nat × Nat} (W9 : ∀ a ∈ L, Shp L κ ln R ow a) {x : Nat} (hLx : x ∈ L) (hkx : κ x = 12) (a0 : Int32) (a1 : Int32) (ra0 : Rg 0 6 a0) (hU : Iw L κ R ow I) : CtI l yX12_nextTo cX12_nextTo 5 (some .int) { frames := 1, cells := 0, slots := 0, locals := 21 } D cy L κ ln R I J [.ref x, .int a0, .int a1] (fun r I2 J2 => I = I2 ∧ J = J2 ∧ Rg (-1) 6 r) := by
  refine CtI.of (by decide +kernel) (Nat.le_of_ble_eq_true rfl) ?_
  intro p e s m below meth c B K
  have C := B.1
  obtain ⟨b_1, hb_1, hb_1L, hb_1k, hb_1n, hb_1o⟩ := shp_a (W9 x hLx) hkx 14 14 389 rfl (by decide)
  refine g_lo (is := [0, 1, 2]) (lo2 := [(0, .ref x), (1, .int a0), (2, .int a1)]) rfl ?_
  have l_10 : ∀ (n_10 : Nat) (v_2 : Int32) (rv_2 : Rg 0 6 v_2) (v_3 : Int32) (v_4 : Int32) (rv_4 : Rg 0 7 v_4) (v_5 : Int32) (rv_5 : Rg 1 7 v_5) (hm_6 : 7 < (v_5 : Int32).toInt + (n_10 : Int)), WG p l e { frames := 1, cells := 0, slots := 0, locals := 21 } s m ([.ref x, .int a0, .int a1] : List Value).toArray below meth c 5 0 0 (MQ below (Qi_ D cy L κ ln R (fun r I2 J2 => I = I2 ∧ J = J2 ∧ Rg (-1) 6 r)) ([.ref x, .int a0, .int a1] : List Value).toArray s 0 0 (Al_ L)) D cy (Al_ L) s.heap L κ ln R I J 10 [(0, .ref x), (1, .int v_2), (2, .int v_3), (3, .int v_4), (4, .int v_5)] [] := by
    intro n_10
    induction n_10 with
    | zero =>
      intro v_2 rv_2 v_3 v_4 rv_4 v_5 rv_5 hm_6
      exact ms_0 rv_5 hm_6
    | succ n_10 ih_10 =>
      intro v_2 rv_2 v_3 v_4 rv_4 v_5 rv_5 hm_6
      refine g_iload C 4 dX12_nextTo_10 rfl ?_
      refine g_iload_n C 3 dX12_nextTo_12 rfl rfl ?_
      refine g_icmp_ge C (tgt := 42) dX12_nextTo_13 (by decide) (fun h_7 => ?_) (fun h_7 => ?_)
      · skip
        refine g_iconst C (v := (-1)) dX12_nextTo_42 (by decide) ?_
        exact g_zret (ty := .int) (r := (-1)) B K rfl (rfl) ⟨rfl, rfl, rg_w rc_m1 (by decide) (by decide)⟩ dX12_nextTo_43
      · skip
        have r_8 := lt_l (hi := 6) (nle h_7) rv_5 rv_4 (by decide)
        have r_9 := lt_r (lo := 2) (nle h_7) rv_5 rv_4 (by decide)
        refine g_iload_n C 2 dX12_nextTo_16 rfl rfl ?_
        refine g_iload_n C 1 dX12_nextTo_17 rfl rfl ?_
        refine g_iload C 4 dX12_nextTo_18 rfl ?_
        obtain ⟨x_10, hx_10, rx_10, tx_10⟩ := ex_add 1 12 rv_2 r_8 (by decide) (by decide) (by decide) (by decide)
        refine g_iadd C (v := x_10) dX12_nextTo_20 hx_10 ?_
        refine g_iload_n C 3 dX12_nextTo_21 rfl rfl ?_
        obtain ⟨x_11, hx_11, rx_11⟩ := ex_rem (b := 12) (d := 7) 6 (rg_w rx_10 (by decide) (by decide)) (rg_w r_9 (by decide) (by decide)) (by decide)
        refine g_irem C (v := x_11) dX12_nextTo_22 (rg_ne0 r_9 (by decide)) hx_11 ?_
        refine g_callSI C K (c_X12_has W9 v_3 x_11  hU) s_12_231 rfl ⟨rfl, rfl⟩ ⟨Nat.le_of_ble_eq_true rfl, Nat.le_of_ble_eq_true rfl⟩ (Nat.le_of_ble_eq_true rfl) ⟨Nat.le_of_ble_eq_true rfl, Nat.le_of_ble_eq_true rfl⟩ dX12_nextTo_23 rfl (st := []) (fun x_12 I_13 J_14 h_15 => ?_)
        obtain ⟨rfl, rfl, rx_12⟩ := h_15
        refine g_if_ne C (tgt := 36) dX12_nextTo_26 (by decide) (fun h_16 => ?_) (fun h_16 => ?_)
        · skip
          have n_17 : ¬ x_12 = 0 := h_16
          have r_18 := ne_lo (lo := 1) n_17 rx_12 rc_0 rfl (by decide)
          obtain ⟨x_19, hx_19, rx_19, tx_19⟩ := ex_add (y := 1) 2 7 r_8 rc_1 (by decide) (by decide) (by decide) (by decide)
          refine g_iinc C dX12_nextTo_36 (k := 4) (v := x_19) rfl hx_19 (by decide) (lo2 := [(4, .int x_19), (0, .ref x), (1, .int v_2), (2, .int v_3), (3, .int v_4)]) rfl ?_
          refine g_goto C (tgt := 10) dX12_nextTo_39 (by decide) ?_
          refine g_lo (is := [1, 2, 3, 4, 0]) (lo2 := [(0, .ref x), (1, .int v_2), (2, .int v_3), (3, .int v_4), (4, .int x_19)]) rfl ?_
          exact ih_10 v_2 (rv_2) v_3 v_4 (rg_w r_9 (by decide) (by decide)) x_19 (rg_w rx_19 (by decide) (by decide)) (ms_1 hm_6 (ti_k tx_19 rc_1) (by decide))
        · skip
          have r_20 := (⟨(rx_12).1, (eq_rg (h_16) rc_0).2⟩ : Rg 0 0 x_12)
          refine g_iload_n C 1 dX12_nextTo_29 rfl rfl ?_
          refine g_iload C 4 dX12_nextTo_30 rfl ?_
          refine g_iadd C (v := x_10) dX12_nextTo_32 hx_10 ?_
          refine g_iload_n C 3 dX12_nextTo_33 rfl rfl ?_
          refine g_irem C (v := x_11) dX12_nextTo_34 (rg_ne0 r_9 (by decide)) hx_11 ?_
          exact g_zret (ty := .int) (r := x_11) B K rfl (rfl) ⟨rfl, rfl, rg_w rx_11 (by decide) (by decide)⟩ dX12_nextTo_35
  refine g_aload_n C 0 dX12_nextTo_0 rfl rfl ?_
  refine g_getR C K hLx hkx f_12_13 hb_1 dX12_nextTo_1 ?_
  refine g_iconst C (v := 0) dX12_nextTo_4 (by decide) ?_
  obtain ⟨x_21, hx_21, rx_21⟩ := ex_getw (I := I) (a := b_1) (j := 0) (lo := 0) (hi := 7) hU.1 hb_1L (ro_a hb_1k (by decide) hb_1o hkx rfl) (by decide)
  refine h_iald C K hb_1L hb_1k (v := x_21) (0) (by decide) (by decide) (by rw [hb_1n]; decide) hx_21 dX12_nextTo_5 ?_
  refine g_istore_n C dX12_nextTo_6 rfl (by decide) (lo2 := [(3, .int x_21), (0, .ref x), (1, .int a0), (2, .int a1)]) rfl ?_
  refine g_iconst C (v := 1) dX12_nextTo_7 (by decide) ?_
  refine g_istore C dX12_nextTo_8 (by decide) (lo2 := [(4, .int 1), (3, .int x_21), (0, .ref x), (1, .int a0), (2, .int a1)]) rfl ?_
  refine g_lo (is := [2, 3, 4, 1, 0]) (lo2 := [(0, .ref x), (1, .int a0), (2, .int a1), (3, .int x_21), (4, .int 1)]) rfl ?_
  exact l_10 7 a0 (ra0) a1 x_21 (rx_21) 1 (rg_w rc_1 (by decide) (by decide)) (ms_s (a := 1) (b := 7) (N := 7) (rg_w rc_1 (by decide) (by decide)) (by decide))
set_option maxRecDepth 100000 in
set_option maxHeartbeats 8000000 in
theorem c_X12_heirBy {l : Launch} {D : va_G} {cy : Nat → ClassId} {L : List Nat} {κ ln : Nat → Nat} {R : Nat → Nat → Option Nat} {I : Nat → Nat → Int32} {J : Nat → Nat → Int64} {ow : Nat → Nat × Nat} (W9 : ∀ a ∈ L, Shp L κ ln R ow a) {x : Nat} (hLx : x ∈ L) (hkx : κ x = 12) (a0 : Int32) (a1 : Int32) (ra0 : Rg 0 6 a0) (hU : Iw L κ R ow I) : CtI l yX12_heirBy cX12_heirBy 6 (some .int) { frames := 2, cells := 0, slots := 0, locals := 45 } D cy L κ ln R I J [.ref x, .int a0, .int a1] (fun r I2 J2 => I = I2 ∧ J = J2 ∧ Rg (-1) 6 r) := by
  refine CtI.of (by decide +kernel) (Nat.le_of_ble_eq_true rfl) ?_
  intro p e s m below meth c B K
  have C := B.1
  obtain ⟨b_1, hb_1, hb_1L, hb_1k, hb_1n, hb_1o⟩ := shp_a (W9 x hLx) hkx 14 14 389 rfl (by decide)
  refine g_lo (is := [0, 1, 2]) (lo2 := [(0, .ref x), (1, .int a0), (2, .int a1)]) rfl ?_
  have l_28 : ∀ (n_28 : Nat) (v_2 : Int32) (rv_2 : Rg 0 6 v_2) (v_3 : Int32) (v_4 : Int32) (rv_4 : Rg (-1) 6 v_4) (v_5 : Int32) (rv_5 : Rg (-1) 6 v_5) (hm_6 : (v_5 : Int32).toInt - (-1) < (n_28 : Int)), WG p l e { frames := 2, cells := 0, slots := 0, locals := 45 } s m ([.ref x, .int a0, .int a1] : List Value).toArray below meth c 6 0 0 (MQ below (Qi_ D cy L κ ln R (fun r I2 J2 => I = I2 ∧ J = J2 ∧ Rg (-1) 6 r)) ([.ref x, .int a0, .int a1] : List Value).toArray s 0 0 (Al_ L)) D cy (Al_ L) s.heap L κ ln R I J 28 [(0, .ref x), (1, .int v_2), (2, .int v_3), (3, .int v_4), (4, .int v_5)] [] := by
    intro n_28
    induction n_28 with
    | zero =>
      intro v_2 rv_2 v_3 v_4 rv_4 v_5 rv_5 hm_6
      exact md_0 rv_5 hm_6
    | succ n_28 ih_28 =>
      intro v_2 rv_2 v_3 v_4 rv_4 v_5 rv_5 hm_6
      have j_125 : ∀ (v_7 : Int32) (rv_7 : Rg 0 6 v_7) (v_8 : Int32) (v_9 : Int32) (rv_9 : Rg (-1) 6 v_9) (v_10 : Int32) (rv_10 : Rg 0 6 v_10) (hm_11 : (v_10 : Int32).toInt - (-1) < ((n_28 + 1 : Nat) : Int)), WG p l e { frames := 2, cells := 0, slots := 0, locals := 45 } s m ([.ref x, .int a0, .int a1] : List Value).toArray below meth c 6 0 0 (MQ below (Qi_ D cy L κ ln R (fun r I2 J2 => I = I2 ∧ J = J2 ∧ Rg (-1) 6 r)) ([.ref x, .int a0, .int a1] : List Value).toArray s 0 0 (Al_ L)) D cy (Al_ L) s.heap L κ ln R I J 125 [(0, .ref x), (1, .int v_7), (2, .int v_8), (3, .int v_9), (4, .int v_10)] [] := by
        intro v_7 rv_7 v_8 v_9 rv_9 v_10 rv_10 hm_11
        obtain ⟨x_12, hx_12, rx_12, tx_12⟩ := ex_add (y := (-1)) (-1) 5 rv_10 rc_m1 (by decide) (by decide) (by decide) (by decide)
        refine g_iinc C dX12_heirBy_125 (k := 4) (v := x_12) rfl hx_12 (by decide) (lo2 := [(4, .int x_12), (0, .ref x), (1, .int v_7), (2, .int v_8), (3, .int v_9)]) rfl ?_
        refine g_goto C (tgt := 28) dX12_heirBy_128 (by decide) ?_
        refine g_lo (is := [1, 2, 3, 4, 0]) (lo2 := [(0, .ref x), (1, .int v_7), (2, .int v_8), (3, .int v_9), (4, .int x_12)]) rfl ?_
        exact ih_28 v_7 (rv_7) v_8 v_9 (rv_9) x_12 (rg_w rx_12 (by decide) (by decide)) (md_1 hm_11 (ti_k tx_12 rc_m1) (by decide))
      have j_110 : ∀ (v_13 : Int32) (rv_13 : Rg 0 6 v_13) (v_14 : Int32) (v_15 : Int32) (rv_15 : Rg (-1) 6 v_15) (v_16 : Int32) (rv_16 : Rg 0 6 v_16) (hm_17 : (v_16 : Int32).toInt - (-1) < ((n_28 + 1 : Nat) : Int)), WG p l e { frames := 2, cells := 0, slots := 0, locals := 45 } s m ([.ref x, .int a0, .int a1] : List Value).toArray below meth c 6 0 0 (MQ below (Qi_ D cy L κ ln R (fun r I2 J2 => I = I2 ∧ J = J2 ∧ Rg (-1) 6 r)) ([.ref x, .int a0, .int a1] : List Value).toArray s 0 0 (Al_ L)) D cy (Al_ L) s.heap L κ ln R I J 110 [(0, .ref x), (1, .int v_13), (2, .int v_14), (3, .int v_15), (4, .int v_16)] [] := by
        intro v_13 rv_13 v_14 v_15 rv_15 v_16 rv_16 hm_17
        refine g_iconst C (v := 1) dX12_heirBy_110 (by decide) ?_
        refine g_goto C (tgt := 115) dX12_heirBy_111 (by decide) ?_
        refine g_istore C dX12_heirBy_115 (by decide) (lo2 := [(5, .int 1), (0, .ref x), (1, .int v_13), (2, .int v_14), (3, .int v_15), (4, .int v_16)]) rfl ?_
        refine g_iload C 0 dX12_heirBy_117 rfl ?_
        refine g_if_eq C (tgt := 125) dX12_heirBy_119 (by decide) (fun h_18 => ?_) (fun h_18 => ?_)
        · skip
          exact absurd (h_18) (by decide)
        · skip
          refine g_iload C 5 dX12_heirBy_122 rfl ?_
          refine g_istore_n C dX12_heirBy_124 rfl (by decide) (lo2 := [(3, .int v_16), (5, .int 1), (0, .ref x), (1, .int v_13), (2, .int v_14), (4, .int v_16)]) rfl ?_
          refine g_lo (is := [2, 3, 4, 0, 5]) (lo2 := [(0, .ref x), (1, .int v_13), (2, .int v_14), (3, .int v_16), (4, .int v_16)]) rfl ?_
          exact j_125 v_13 (rv_13) v_14 v_16 (rg_w rv_16 (by decide) (by decide)) v_16 (rv_16) hm_17
      refine g_iload C 4 dX12_heirBy_28 rfl ?_
      refine g_if_lt C (tgt := 131) dX12_heirBy_30 (by decide) (fun h_19 => ?_) (fun h_19 => ?_)
      · skip
        have r_20 := lt_l (hi := (-1)) (h_19) rv_5 rc_0 (by decide)
        refine g_iload_n C 3 dX12_heirBy_131 rfl rfl ?_
        refine g_iconst C (v := (-1)) dX12_heirBy_132 (by decide) ?_
        refine g_icmp_ne C (tgt := 155) dX12_heirBy_133 (by decide) (fun h_21 => ?_) (fun h_21 => ?_)
        · skip
          have n_22 : ¬ v_4 = (-1) := h_21
          have r_23 := ne_lo (lo := 0) n_22 rv_4 rc_m1 rfl (by decide)
          refine g_iload_n C 3 dX12_heirBy_155 rfl rfl ?_
          exact g_zret (ty := .int) (r := v_4) B K rfl (rfl) ⟨rfl, rfl, rg_w r_23 (by decide) (by decide)⟩ dX12_heirBy_156
        · skip
          have r_24 := (⟨(rv_4).1, (eq_rg (h_21) rc_m1).2⟩ : Rg (-1) (-1) v_4)
          refine g_aload_n C 0 dX12_heirBy_136 rfl rfl ?_
          refine g_getR C K hLx hkx f_12_13 hb_1 dX12_heirBy_137 ?_
          refine g_iconst C (v := 2) dX12_heirBy_140 (by decide) ?_
          obtain ⟨x_25, hx_25, rx_25⟩ := ex_any (z0 := I b_1 (2))
          refine h_iald C K hb_1L hb_1k (v := x_25) (2) (by decide) (by decide) (by rw [hb_1n]; decide) hx_25 dX12_heirBy_141 ?_
          refine g_iconst C (v := 1) dX12_heirBy_142 (by decide) ?_
          refine g_icmp_ne C (tgt := 155) dX12_heirBy_143 (by decide) (fun h_26 => ?_) (fun h_26 => ?_)
          · skip
            have n_27 : ¬ x_25 = 1 := h_26
            refine g_iload_n C 3 dX12_heirBy_155 rfl rfl ?_
            exact g_zret (ty := .int) (r := v_4) B K rfl (rfl) ⟨rfl, rfl, rg_w r_24 (by decide) (by decide)⟩ dX12_heirBy_156
          · skip
            have r_28 := (⟨(eq_rg (h_26) rc_1).1, (eq_rg (h_26) rc_1).2⟩ : Rg 1 1 x_25)
            refine g_aload_n C 0 dX12_heirBy_146 rfl rfl ?_
            refine g_iload_n C 1 dX12_heirBy_147 rfl rfl ?_
            refine g_iload_n C 2 dX12_heirBy_148 rfl rfl ?_
            refine g_callVI C K (c_X12_nextTo W9 hLx hkx v_2 v_3 (rv_2) hU) hLx hkx (by decide) rfl v_12_256 rfl ⟨rfl, rfl⟩ ⟨Nat.le_of_ble_eq_true rfl, Nat.le_of_ble_eq_true rfl⟩ (Nat.le_of_ble_eq_true rfl) ⟨Nat.le_of_ble_eq_true rfl, Nat.le_of_ble_eq_true rfl⟩ dX12_heirBy_149 rfl (st := []) (fun x_29 I_30 J_31 h_32 => ?_)
            obtain ⟨rfl, rfl, rx_29⟩ := h_32
            refine g_goto C (tgt := 156) dX12_heirBy_152 (by decide) ?_
            exact g_zret (ty := .int) (r := x_29) B K rfl (rfl) ⟨rfl, rfl, rx_29⟩ dX12_heirBy_156
      · skip
        have r_33 := le_r (nlt h_19) rc_0 rv_5
        refine g_iload C 4 dX12_heirBy_33 rfl ?_
        refine g_iload_n C 1 dX12_heirBy_35 rfl rfl ?_
        refine g_icmp_eq C (tgt := 125) dX12_heirBy_36 (by decide) (fun h_34 => ?_) (fun h_34 => ?_)
        · skip
          refine g_lo (is := [0, 1, 2, 3, 4]) (lo2 := [(0, .ref x), (1, .int v_2), (2, .int v_3), (3, .int v_4), (4, .int v_5)]) rfl ?_
          exact j_125 v_2 (rv_2) v_3 v_4 (rv_4) v_5 (r_33) hm_6
        · skip
          refine g_iload_n C 2 dX12_heirBy_39 rfl rfl ?_
          refine g_iload C 4 dX12_heirBy_40 rfl ?_
          refine g_callSI C K (c_X12_has W9 v_3 v_5  hU) s_12_231 rfl ⟨rfl, rfl⟩ ⟨Nat.le_of_ble_eq_true rfl, Nat.le_of_ble_eq_true rfl⟩ (Nat.le_of_ble_eq_true rfl) ⟨Nat.le_of_ble_eq_true rfl, Nat.le_of_ble_eq_true rfl⟩ dX12_heirBy_42 rfl (st := []) (fun x_35 I_36 J_37 h_38 => ?_)
          obtain ⟨rfl, rfl, rx_35⟩ := h_38
          refine g_if_eq C (tgt := 51) dX12_heirBy_45 (by decide) (fun h_39 => ?_) (fun h_39 => ?_)
          · skip
            have r_40 := (⟨(rx_35).1, (eq_rg (h_39) rc_0).2⟩ : Rg 0 0 x_35)
            refine g_aload_n C 0 dX12_heirBy_51 rfl rfl ?_
            refine g_getR C K hLx hkx f_12_13 hb_1 dX12_heirBy_52 ?_
            refine g_iconst C (v := 2) dX12_heirBy_55 (by decide) ?_
            obtain ⟨x_41, hx_41, rx_41⟩ := ex_any (z0 := I b_1 (2))
            refine h_iald C K hb_1L hb_1k (v := x_41) (2) (by decide) (by decide) (by rw [hb_1n]; decide) hx_41 dX12_heirBy_56 ?_
            refine g_iconst C (v := 1) dX12_heirBy_57 (by decide) ?_
            refine g_icmp_ne C (tgt := 83) dX12_heirBy_58 (by decide) (fun h_42 => ?_) (fun h_42 => ?_)
            · skip
              have n_43 : ¬ x_41 = 1 := h_42
              refine g_iload_n C 3 dX12_heirBy_83 rfl rfl ?_
              refine g_iconst C (v := (-1)) dX12_heirBy_84 (by decide) ?_
              refine g_icmp_eq C (tgt := 110) dX12_heirBy_85 (by decide) (fun h_44 => ?_) (fun h_44 => ?_)
              · skip
                have r_45 := (⟨(rv_4).1, (eq_rg (h_44) rc_m1).2⟩ : Rg (-1) (-1) v_4)
                refine g_lo (is := [0, 1, 2, 3, 4]) (lo2 := [(0, .ref x), (1, .int v_2), (2, .int v_3), (3, .int v_4), (4, .int v_5)]) rfl ?_
                exact j_110 v_2 (rv_2) v_3 v_4 (rg_w r_45 (by decide) (by decide)) v_5 (r_33) hm_6
              · skip
                have n_46 : ¬ v_4 = (-1) := h_44
                have r_47 := ne_lo (lo := 0) n_46 rv_4 rc_m1 rfl (by decide)
                refine g_aload_n C 0 dX12_heirBy_88 rfl rfl ?_
                refine g_getR C K hLx hkx f_12_13 hb_1 dX12_heirBy_89 ?_
                refine g_bipush C (v := 84) dX12_heirBy_92 (by decide) ?_
                refine g_iload C 4 dX12_heirBy_94 rfl ?_
                obtain ⟨x_48, hx_48, rx_48, tx_48⟩ := ex_add 84 90 rc_84 r_33 (by decide) (by decide) (by decide) (by decide)
                refine g_iadd C (v := x_48) dX12_heirBy_96 hx_48 ?_
                obtain ⟨x_49, hx_49, rx_49⟩ := ex_any (z0 := I b_1 (x_48.toNatClampNeg))
                refine h_iald C K hb_1L hb_1k (v := x_49) (x_48.toNatClampNeg) (rfl) (ix_0 rx_48 (by decide)) (ix_lt rx_48 (by decide) hb_1n (by decide)) hx_49 dX12_heirBy_97 ?_
                refine g_aload_n C 0 dX12_heirBy_98 rfl rfl ?_
                refine g_getR C K hLx hkx f_12_13 hb_1 dX12_heirBy_99 ?_
                refine g_bipush C (v := 84) dX12_heirBy_102 (by decide) ?_
                refine g_iload_n C 3 dX12_heirBy_104 rfl rfl ?_
                obtain ⟨x_50, hx_50, rx_50, tx_50⟩ := ex_add 84 90 rc_84 r_47 (by decide) (by decide) (by decide) (by decide)
                refine g_iadd C (v := x_50) dX12_heirBy_105 hx_50 ?_
                obtain ⟨x_51, hx_51, rx_51⟩ := ex_any (z0 := I b_1 (x_50.toNatClampNeg))
                refine h_iald C K hb_1L hb_1k (v := x_51) (x_50.toNatClampNeg) (rfl) (ix_0 rx_50 (by decide)) (ix_lt rx_50 (by decide) hb_1n (by decide)) hx_51 dX12_heirBy_106 ?_
                refine g_icmp_gt C (tgt := 114) dX12_heirBy_107 (by decide) (fun h_52 => ?_) (fun h_52 => ?_)
                · skip
                  have r_53 := lt_l (hi := 2147483646) (h_52) rx_51 rx_49 (by decide)
                  have r_54 := lt_r (lo := (-2147483647)) (h_52) rx_51 rx_49 (by decide)
                  refine g_iconst C (v := 0) dX12_heirBy_114 (by decide) ?_
                  refine g_istore C dX12_heirBy_115 (by decide) (lo2 := [(5, .int 0), (0, .ref x), (1, .int v_2), (2, .int v_3), (3, .int v_4), (4, .int v_5)]) rfl ?_
                  refine g_iload C 0 dX12_heirBy_117 rfl ?_
                  refine g_if_eq C (tgt := 125) dX12_heirBy_119 (by decide) (fun h_55 => ?_) (fun h_55 => ?_)
                  · skip
                    refine g_lo (is := [1, 2, 3, 4, 5]) (lo2 := [(0, .ref x), (1, .int v_2), (2, .int v_3), (3, .int v_4), (4, .int v_5)]) rfl ?_
                    exact j_125 v_2 (rv_2) v_3 v_4 (rg_w r_47 (by decide) (by decide)) v_5 (r_33) hm_6
                  · skip
                    exact absurd (h_55) (by decide)
                · skip
                  refine g_lo (is := [0, 1, 2, 3, 4]) (lo2 := [(0, .ref x), (1, .int v_2), (2, .int v_3), (3, .int v_4), (4, .int v_5)]) rfl ?_
                  exact j_110 v_2 (rv_2) v_3 v_4 (rg_w r_47 (by decide) (by decide)) v_5 (r_33) hm_6
            · skip
              have r_56 := (⟨(eq_rg (h_42) rc_1).1, (eq_rg (h_42) rc_1).2⟩ : Rg 1 1 x_41)
              refine g_aload_n C 0 dX12_heirBy_61 rfl rfl ?_
              refine g_getR C K hLx hkx f_12_13 hb_1 dX12_heirBy_62 ?_
              refine g_bipush C (v := 11) dX12_heirBy_65 (by decide) ?_
              refine g_iload C 4 dX12_heirBy_67 rfl ?_
              obtain ⟨x_57, hx_57, rx_57, tx_57⟩ := ex_add 11 17 rc_11 r_33 (by decide) (by decide) (by decide) (by decide)
              refine g_iadd C (v := x_57) dX12_heirBy_69 hx_57 ?_
              obtain ⟨x_58, hx_58, rx_58⟩ := ex_any (z0 := I b_1 (x_57.toNatClampNeg))
              refine h_iald C K hb_1L hb_1k (v := x_58) (x_57.toNatClampNeg) (rfl) (ix_0 rx_57 (by decide)) (ix_lt rx_57 (by decide) hb_1n (by decide)) hx_58 dX12_heirBy_70 ?_
              refine g_iload_n C 1 dX12_heirBy_71 rfl rfl ?_
              refine g_icmp_ne C (tgt := 79) dX12_heirBy_72 (by decide) (fun h_59 => ?_) (fun h_59 => ?_)
              · skip
                refine g_iconst C (v := 0) dX12_heirBy_79 (by decide) ?_
                refine g_goto C (tgt := 115) dX12_heirBy_80 (by decide) ?_
                refine g_istore C dX12_heirBy_115 (by decide) (lo2 := [(5, .int 0), (0, .ref x), (1, .int v_2), (2, .int v_3), (3, .int v_4), (4, .int v_5)]) rfl ?_
                refine g_iload C 0 dX12_heirBy_117 rfl ?_
                refine g_if_eq C (tgt := 125) dX12_heirBy_119 (by decide) (fun h_60 => ?_) (fun h_60 => ?_)
                · skip
                  refine g_lo (is := [1, 2, 3, 4, 5]) (lo2 := [(0, .ref x), (1, .int v_2), (2, .int v_3), (3, .int v_4), (4, .int v_5)]) rfl ?_
                  exact j_125 v_2 (rv_2) v_3 v_4 (rv_4) v_5 (r_33) hm_6
                · skip
                  exact absurd (h_60) (by decide)
              · skip
                have r_61 := (⟨(eq_rg (h_59) rv_2).1, (eq_rg (h_59) rv_2).2⟩ : Rg 0 6 x_58)
                refine g_iconst C (v := 1) dX12_heirBy_75 (by decide) ?_
                refine g_goto C (tgt := 115) dX12_heirBy_76 (by decide) ?_
                refine g_istore C dX12_heirBy_115 (by decide) (lo2 := [(5, .int 1), (0, .ref x), (1, .int v_2), (2, .int v_3), (3, .int v_4), (4, .int v_5)]) rfl ?_
                refine g_iload C 0 dX12_heirBy_117 rfl ?_
                refine g_if_eq C (tgt := 125) dX12_heirBy_119 (by decide) (fun h_62 => ?_) (fun h_62 => ?_)
                · skip
                  exact absurd (h_62) (by decide)
                · skip
                  refine g_iload C 5 dX12_heirBy_122 rfl ?_
                  refine g_istore_n C dX12_heirBy_124 rfl (by decide) (lo2 := [(3, .int v_5), (5, .int 1), (0, .ref x), (1, .int v_2), (2, .int v_3), (4, .int v_5)]) rfl ?_
                  refine g_lo (is := [2, 3, 4, 0, 5]) (lo2 := [(0, .ref x), (1, .int v_2), (2, .int v_3), (3, .int v_5), (4, .int v_5)]) rfl ?_
                  exact j_125 v_2 (rv_2) v_3 v_5 (rg_w r_33 (by decide) (by decide)) v_5 (r_33) hm_6
          · skip
            have n_63 : ¬ x_35 = 0 := h_39
            have r_64 := ne_lo (lo := 1) n_63 rx_35 rc_0 rfl (by decide)
            refine g_goto C (tgt := 125) dX12_heirBy_48 (by decide) ?_
            refine g_lo (is := [0, 1, 2, 3, 4]) (lo2 := [(0, .ref x), (1, .int v_2), (2, .int v_3), (3, .int v_4), (4, .int v_5)]) rfl ?_
            exact j_125 v_2 (rv_2) v_3 v_4 (rv_4) v_5 (r_33) hm_6
  refine g_aload_n C 0 dX12_heirBy_0 rfl rfl ?_
  refine g_getR C K hLx hkx f_12_13 hb_1 dX12_heirBy_1 ?_
  refine g_iconst C (v := 2) dX12_heirBy_4 (by decide) ?_
  obtain ⟨x_65, hx_65, rx_65⟩ := ex_any (z0 := I b_1 (2))
  refine h_iald C K hb_1L hb_1k (v := x_65) (2) (by decide) (by decide) (by rw [hb_1n]; decide) hx_65 dX12_heirBy_5 ?_
  refine g_if_ne C (tgt := 16) dX12_heirBy_6 (by decide) (fun h_66 => ?_) (fun h_66 => ?_)
  · skip
    have n_67 : ¬ x_65 = 0 := h_66
    refine g_iconst C (v := (-1)) dX12_heirBy_16 (by decide) ?_
    refine g_istore_n C dX12_heirBy_17 rfl (by decide) (lo2 := [(3, .int (-1)), (0, .ref x), (1, .int a0), (2, .int a1)]) rfl ?_
    refine g_aload_n C 1 dX12_heirBy_18 rfl rfl ?_
    refine g_getR C K hLx hkx f_12_13 hb_1 dX12_heirBy_19 ?_
    refine g_iconst C (v := 0) dX12_heirBy_22 (by decide) ?_
    obtain ⟨x_68, hx_68, rx_68⟩ := ex_getw (I := I) (a := b_1) (j := 0) (lo := 0) (hi := 7) hU.1 hb_1L (ro_a hb_1k (by decide) hb_1o hkx rfl) (by decide)
    refine h_iald C K hb_1L hb_1k (v := x_68) (0) (by decide) (by decide) (by rw [hb_1n]; decide) hx_68 dX12_heirBy_23 ?_
    refine g_iconst C (v := 1) dX12_heirBy_24 (by decide) ?_
    obtain ⟨x_69, hx_69, rx_69, tx_69⟩ := ex_sub (-1) 6 rx_68 rc_1 (by decide) (by decide) (by decide) (by decide)
    refine g_isub C (v := x_69) dX12_heirBy_25 hx_69 ?_
    refine g_istore C dX12_heirBy_26 (by decide) (lo2 := [(4, .int x_69), (3, .int (-1)), (0, .ref x), (1, .int a0), (2, .int a1)]) rfl ?_
    refine g_lo (is := [2, 3, 4, 1, 0]) (lo2 := [(0, .ref x), (1, .int a0), (2, .int a1), (3, .int (-1)), (4, .int x_69)]) rfl ?_
    exact l_28 8 a0 (ra0) a1 (-1) (rg_w rc_m1 (by decide) (by decide)) x_69 (rx_69) (md_s (a := (-1)) (b := 6) (N := 8) (rx_69) (by decide))
  · skip
    have r_70 := (⟨(eq_rg (h_66) rc_0).1, (eq_rg (h_66) rc_0).2⟩ : Rg 0 0 x_65)
    refine g_aload_n C 0 dX12_heirBy_9 rfl rfl ?_
    refine g_iload_n C 1 dX12_heirBy_10 rfl rfl ?_
    refine g_iload_n C 2 dX12_heirBy_11 rfl rfl ?_
    refine g_callVI C K (c_X12_nextTo W9 hLx hkx a0 a1 (ra0) hU) hLx hkx (by decide) rfl v_12_256 rfl ⟨rfl, rfl⟩ ⟨Nat.le_of_ble_eq_true rfl, Nat.le_of_ble_eq_true rfl⟩ (Nat.le_of_ble_eq_true rfl) ⟨Nat.le_of_ble_eq_true rfl, Nat.le_of_ble_eq_true rfl⟩ dX12_heirBy_12 rfl (st := []) (fun x_71 I_72 J_73 h_74 => ?_)
    obtain ⟨rfl, rfl, rx_71⟩ := h_74
    exact g_zret (ty := .int) (r := x_71) B K rfl (rfl) ⟨rfl, rfl, rx_71⟩ dX12_heirBy_15
set_option maxRecDepth 100000 in
set_option maxHeartbeats 8000000 in
theorem c_X12_outs {l : Launch} {D : va_G} {cy : Nat → ClassId} {L : List Nat} {κ ln : Nat → Nat} {R : Nat → Nat → Option Nat} {I : Nat → Nat → Int32} {J : Nat → Nat → Int64} {ow : Nat → Nat × Nat} (W9 : ∀ a ∈ L, Shp L κ ln R ow a) {x : Nat} (hLx : x ∈ L) (hkx : κ x = 12) (hU : Iw L κ R ow I) : CtI l yX12_outs cX12_outs 1 (some .int) { frames := 0, cells := 0, slots := 0, locals := 0 } D cy L κ ln R I J [.ref x] (fun r I2 J2 => I = I2 ∧ J = J2 ∧ Rg (-2147483648) 2147483647 r) := by
  refine CtI.of (by decide +kernel) (Nat.le_of_ble_eq_true rfl) ?_
  intro p e s m below meth c B K
  have C := B.1
  obtain ⟨b_1, hb_1, hb_1L, hb_1k, hb_1n, hb_1o⟩ := shp_a (W9 x hLx) hkx 14 14 389 rfl (by decide)
  refine g_lo (is := [0]) (lo2 := [(0, .ref x)]) rfl ?_
  refine g_aload_n C 0 dX12_outs_0 rfl rfl ?_
  refine g_getR C K hLx hkx f_12_13 hb_1 dX12_outs_1 ?_
  refine g_bipush C (v := 73) dX12_outs_4 (by decide) ?_
  obtain ⟨x_2, hx_2, rx_2⟩ := ex_any (z0 := I b_1 (73))
  refine h_iald C K hb_1L hb_1k (v := x_2) (73) (by decide) (by decide) (by rw [hb_1n]; decide) hx_2 dX12_outs_6 ?_
  refine g_aload_n C 0 dX12_outs_7 rfl rfl ?_
  refine g_getR C K hLx hkx f_12_13 hb_1 dX12_outs_8 ?_
  refine g_bipush C (v := 74) dX12_outs_11 (by decide) ?_
  obtain ⟨x_3, hx_3, rx_3⟩ := ex_any (z0 := I b_1 (74))
  refine h_iald C K hb_1L hb_1k (v := x_3) (74) (by decide) (by decide) (by rw [hb_1n]; decide) hx_3 dX12_outs_13 ?_
  obtain ⟨x_4, hx_4, rx_4⟩ := ex_any (z0 := x_2 ||| x_3)
  refine g_ior C (v := x_4) dX12_outs_14 hx_4 ?_
  exact g_zret (ty := .int) (r := x_4) B K rfl (rfl) ⟨rfl, rfl, rx_4⟩ dX12_outs_15
set_option maxRecDepth 100000 in
set_option maxHeartbeats 8000000 in
theorem c_X12_heir {l : Launch} {D : va_G} {cy : Nat → ClassId} {L : List Nat} {κ ln : Nat → Nat} {R : Nat → Nat → Option Nat} {I : Nat → Nat → Int32} {J : Nat → Nat → Int64} {ow : Nat → Nat × Nat} (W9 : ∀ a ∈ L, Shp L κ ln R ow a) {x : Nat} (hLx : x ∈ L) (hkx : κ x = 12) (a0 : Int32) (hU : Iw L κ R ow I) : CtI l yX12_heir cX12_heir 2 (some .int) { frames := 3, cells := 0, slots := 0, locals := 70 } D cy L κ ln R I J [.ref x, .int a0] (fun r I2 J2 => Iw L κ R ow I2 ∧ Fq L κ ow [1200] I I2 ∧ Fq L κ ow [] J J2 ∧ Rg (-1) 6 r) := by
  refine CtI.of (by decide +kernel) (Nat.le_of_ble_eq_true rfl) ?_
  intro p e s m below meth c B K
  have C := B.1
  have hF : Fq L κ ow [1200] I I := fq_rf
  have hG : Fq L κ ow [] J J := fq_rf
  refine g_lo (is := [0, 1]) (lo2 := [(0, .ref x), (1, .int a0)]) rfl ?_
  refine g_aload_n C 0 dX12_heir_0 rfl rfl ?_
  refine g_iconst C (v := 0) dX12_heir_1 (by decide) ?_
  refine h_putI C K hLx hkx f_12_82 p_12_0 dX12_heir_2 (fun I_1 hI_1 => ?_)
  have hU_2 := iw_put W9 hU hI_1 (ro_o hkx (by decide)) (lo := (-2147483648)) (hi := 2147483647) (rfl) (rg_all _) rfl
  have hF_3 := fq_puto hF hI_1 hkx (by decide) (by decide)
  refine g_aload_n C 0 dX12_heir_5 rfl rfl ?_
  refine g_iload_n C 1 dX12_heir_6 rfl rfl ?_
  refine g_callVI C K (c_X12_isPerson W9 hLx hkx a0  hU_2) hLx hkx (by decide) rfl v_12_238 rfl ⟨rfl, rfl⟩ ⟨Nat.le_of_ble_eq_true rfl, Nat.le_of_ble_eq_true rfl⟩ (Nat.le_of_ble_eq_true rfl) ⟨Nat.le_of_ble_eq_true rfl, Nat.le_of_ble_eq_true rfl⟩ dX12_heir_7 rfl (st := []) (fun x_4 I_5 J_6 h_7 => ?_)
  obtain ⟨rfl, rfl, rx_4, ex_4⟩ := h_7
  refine g_if_eq C (tgt := 25) dX12_heir_10 (by decide) (fun h_8 => ?_) (fun h_8 => ?_)
  · skip
    have r_9 := (⟨(rx_4).1, (eq_rg (h_8) rc_0).2⟩ : Rg 0 0 x_4)
    refine g_iconst C (v := (-1)) dX12_heir_25 (by decide) ?_
    exact g_zret (ty := .int) (r := (-1)) B K rfl (rfl) ⟨hU_2, hF_3, hG, rg_w rc_m1 (by decide) (by decide)⟩ dX12_heir_26
  · skip
    have n_10 : ¬ x_4 = 0 := h_8
    have r_11 := ne_lo (lo := 1) n_10 rx_4 rc_0 rfl (by decide)
    have r_12 := rg_i (rg_all a0) ((ex_4) n_10) (lo := 0) (hi := 6) (by decide) (by decide)
    refine g_aload_n C 0 dX12_heir_13 rfl rfl ?_
    refine g_iload_n C 1 dX12_heir_14 rfl rfl ?_
    refine g_aload_n C 0 dX12_heir_15 rfl rfl ?_
    refine g_callVI C K (c_X12_outs W9 hLx hkx   hU_2) hLx hkx (by decide) rfl v_12_259 rfl ⟨rfl, rfl⟩ ⟨Nat.le_of_ble_eq_true rfl, Nat.le_of_ble_eq_true rfl⟩ (Nat.le_of_ble_eq_true rfl) ⟨Nat.le_of_ble_eq_true rfl, Nat.le_of_ble_eq_true rfl⟩ dX12_heir_16 rfl (st := [.int a0, .ref x]) (fun x_13 I_14 J_15 h_16 => ?_)
    obtain ⟨rfl, rfl, rx_13⟩ := h_16
    refine g_callVI C K (c_X12_heirBy W9 hLx hkx a0 x_13 (r_12) hU_2) hLx hkx (by decide) rfl v_12_262 rfl ⟨rfl, rfl⟩ ⟨Nat.le_of_ble_eq_true rfl, Nat.le_of_ble_eq_true rfl⟩ (Nat.le_of_ble_eq_true rfl) ⟨Nat.le_of_ble_eq_true rfl, Nat.le_of_ble_eq_true rfl⟩ dX12_heir_19 rfl (st := []) (fun x_17 I_18 J_19 h_20 => ?_)
    obtain ⟨rfl, rfl, rx_17⟩ := h_20
    refine g_goto C (tgt := 26) dX12_heir_22 (by decide) ?_
    exact g_zret (ty := .int) (r := x_17) B K rfl (rfl) ⟨hU_2, hF_3, hG, rx_17⟩ dX12_heir_26
set_option maxRecDepth 100000 in
set_option maxHeartbeats 8000000 in
theorem c_X12_hungriest {l : Launch} {D : va_G} {cy : Nat → ClassId} {L : List Nat} {κ ln : Nat → Nat} {R : Nat → Nat → Option Nat} {I : Nat → Nat → Int32} {J : Nat → Nat → Int64} {ow : Nat → Nat × Nat} (W9 : ∀ a ∈ L, Shp L κ ln R ow a) {x : Nat} (hLx : x ∈ L) (hkx : κ x = 12) (hU : Iw L κ R ow I) : CtI l yX12_hungriest cX12_hungriest 3 (some .int) { frames := 2, cells := 0, slots := 0, locals := 42 } D cy L κ ln R I J [.ref x] (fun r I2 J2 => Iw L κ R ow I2 ∧ Fq L κ ow [1200] I I2 ∧ Fq L κ ow [] J J2 ∧ Rg (-1) 6 r) := by
  refine CtI.of (by decide +kernel) (Nat.le_of_ble_eq_true rfl) ?_
  intro p e s m below meth c B K
  have C := B.1
  have hF : Fq L κ ow [1200] I I := fq_rf
  have hG : Fq L κ ow [] J J := fq_rf
  obtain ⟨b_1, hb_1, hb_1L, hb_1k, hb_1n, hb_1o⟩ := shp_a (W9 x hLx) hkx 14 14 389 rfl (by decide)
  refine g_lo (is := [0]) (lo2 := [(0, .ref x)]) rfl ?_
  have l_9 : ∀ (n_9 : Nat) (I_2 : Nat → Nat → Int32) (J_3 : Nat → Nat → Int64) (hU_4 : Iw L κ R ow I_2) (hF_5 : Fq L κ ow [1200] I I_2) (hG_6 : Fq L κ ow [] J J_3) (v_7 : Int32) (rv_7 : Rg (-1) 6 v_7) (v_8 : Int32) (rv_8 : Rg 0 7 v_8) (q_9 : I_2 x 0 = 0) (hm_10 : 7 < (v_8 : Int32).toInt + (n_9 : Int)), WG p l e { frames := 2, cells := 0, slots := 0, locals := 42 } s m ([.ref x] : List Value).toArray below meth c 3 0 0 (MQ below (Qi_ D cy L κ ln R (fun r I2 J2 => Iw L κ R ow I2 ∧ Fq L κ ow [1200] I I2 ∧ Fq L κ ow [] J J2 ∧ Rg (-1) 6 r)) ([.ref x] : List Value).toArray s 0 0 (Al_ L)) D cy (Al_ L) s.heap L κ ln R I_2 J_3 9 [(0, .ref x), (1, .int v_7), (2, .int v_8)] [] := by
    intro n_9
    induction n_9 with
    | zero =>
      intro I_2 J_3 hU_4 hF_5 hG_6 v_7 rv_7 v_8 rv_8 q_9 hm_10
      exact ms_0 rv_8 hm_10
    | succ n_9 ih_9 =>
      intro I_2 J_3 hU_4 hF_5 hG_6 v_7 rv_7 v_8 rv_8 q_9 hm_10
      have j_55 : ∀ (I_11 : Nat → Nat → Int32) (J_12 : Nat → Nat → Int64) (hU_13 : Iw L κ R ow I_11) (hF_14 : Fq L κ ow [1200] I I_11) (hG_15 : Fq L κ ow [] J J_12) (v_16 : Int32) (rv_16 : Rg (-1) 6 v_16) (v_17 : Int32) (rv_17 : Rg 0 6 v_17) (q_18 : I_11 x 0 = 0) (hm_19 : 7 < (v_17 : Int32).toInt + ((n_9 + 1 : Nat) : Int)), WG p l e { frames := 2, cells := 0, slots := 0, locals := 42 } s m ([.ref x] : List Value).toArray below meth c 3 0 0 (MQ below (Qi_ D cy L κ ln R (fun r I2 J2 => Iw L κ R ow I2 ∧ Fq L κ ow [1200] I I2 ∧ Fq L κ ow [] J J2 ∧ Rg (-1) 6 r)) ([.ref x] : List Value).toArray s 0 0 (Al_ L)) D cy (Al_ L) s.heap L κ ln R I_11 J_12 55 [(0, .ref x), (1, .int v_16), (2, .int v_17)] [] := by
        intro I_11 J_12 hU_13 hF_14 hG_15 v_16 rv_16 v_17 rv_17 q_18 hm_19
        obtain ⟨x_20, hx_20, rx_20, tx_20⟩ := ex_add (y := 1) 1 7 rv_17 rc_1 (by decide) (by decide) (by decide) (by decide)
        refine g_iinc C dX12_hungriest_55 (k := 2) (v := x_20) rfl hx_20 (by decide) (lo2 := [(2, .int x_20), (0, .ref x), (1, .int v_16)]) rfl ?_
        refine g_goto C (tgt := 9) dX12_hungriest_58 (by decide) ?_
        refine g_lo (is := [1, 2, 0]) (lo2 := [(0, .ref x), (1, .int v_16), (2, .int x_20)]) rfl ?_
        exact ih_9 I_11 J_12 hU_13 hF_14 hG_15 v_16 (rv_16) x_20 (rg_w rx_20 (by decide) (by decide)) q_18 (ms_1 hm_19 (ti_k tx_20 rc_1) (by decide))
      have j_53 : ∀ (I_21 : Nat → Nat → Int32) (J_22 : Nat → Nat → Int64) (hU_23 : Iw L κ R ow I_21) (hF_24 : Fq L κ ow [1200] I I_21) (hG_25 : Fq L κ ow [] J J_22) (v_26 : Int32) (rv_26 : Rg (-1) 6 v_26) (v_27 : Int32) (rv_27 : Rg 0 6 v_27) (q_28 : I_21 x 0 = 0) (hm_29 : 7 < (v_27 : Int32).toInt + ((n_9 + 1 : Nat) : Int)), WG p l e { frames := 2, cells := 0, slots := 0, locals := 42 } s m ([.ref x] : List Value).toArray below meth c 3 0 0 (MQ below (Qi_ D cy L κ ln R (fun r I2 J2 => Iw L κ R ow I2 ∧ Fq L κ ow [1200] I I2 ∧ Fq L κ ow [] J J2 ∧ Rg (-1) 6 r)) ([.ref x] : List Value).toArray s 0 0 (Al_ L)) D cy (Al_ L) s.heap L κ ln R I_21 J_22 53 [(0, .ref x), (1, .int v_26), (2, .int v_27)] [] := by
        intro I_21 J_22 hU_23 hF_24 hG_25 v_26 rv_26 v_27 rv_27 q_28 hm_29
        refine g_iload_n C 2 dX12_hungriest_53 rfl rfl ?_
        refine g_istore_n C dX12_hungriest_54 rfl (by decide) (lo2 := [(1, .int v_27), (0, .ref x), (2, .int v_27)]) rfl ?_
        refine g_lo (is := [1, 0, 2]) (lo2 := [(0, .ref x), (1, .int v_27), (2, .int v_27)]) rfl ?_
        exact j_55 I_21 J_22 hU_23 hF_24 hG_25 v_27 (rg_w rv_27 (by decide) (by decide)) v_27 (rv_27) q_28 hm_29
      refine g_iload_n C 2 dX12_hungriest_9 rfl rfl ?_
      refine g_aload_n C 0 dX12_hungriest_10 rfl rfl ?_
      refine g_getR C K hLx hkx f_12_13 hb_1 dX12_hungriest_11 ?_
      refine g_iconst C (v := 0) dX12_hungriest_14 (by decide) ?_
      obtain ⟨x_30, hx_30, rx_30⟩ := ex_getw (I := I_2) (a := b_1) (j := 0) (lo := 0) (hi := 7) hU_4.1 hb_1L (ro_a hb_1k (by decide) hb_1o hkx rfl) (by decide)
      refine h_iald C K hb_1L hb_1k (v := x_30) (0) (by decide) (by decide) (by rw [hb_1n]; decide) hx_30 dX12_hungriest_15 ?_
      refine g_icmp_ge C (tgt := 61) dX12_hungriest_16 (by decide) (fun h_31 => ?_) (fun h_31 => ?_)
      · skip
        refine g_iload_n C 1 dX12_hungriest_61 rfl rfl ?_
        exact g_zret (ty := .int) (r := v_7) B K rfl (rfl) ⟨hU_4, hF_5, hG_6, rv_7⟩ dX12_hungriest_62
      · skip
        have r_32 := lt_l (hi := 6) (nle h_31) rv_8 rx_30 (by decide)
        have r_33 := lt_r (lo := 1) (nle h_31) rv_8 rx_30 (by decide)
        refine g_aload_n C 0 dX12_hungriest_19 rfl rfl ?_
        refine g_iload_n C 2 dX12_hungriest_20 rfl rfl ?_
        refine g_callVI C K (c_X12_isDead W9 hLx hkx v_8 (r_32) hU_4) hLx hkx (by decide) rfl v_12_244 rfl ⟨rfl, rfl⟩ ⟨Nat.le_of_ble_eq_true rfl, Nat.le_of_ble_eq_true rfl⟩ (Nat.le_of_ble_eq_true rfl) ⟨Nat.le_of_ble_eq_true rfl, Nat.le_of_ble_eq_true rfl⟩ dX12_hungriest_21 rfl (st := []) (fun x_34 I_35 J_36 h_37 => ?_)
        obtain ⟨rfl, rfl, rx_34⟩ := h_37
        refine g_if_ne C (tgt := 55) dX12_hungriest_24 (by decide) (fun h_38 => ?_) (fun h_38 => ?_)
        · skip
          have n_39 : ¬ x_34 = 0 := h_38
          have r_40 := ne_lo (lo := 1) n_39 rx_34 rc_0 rfl (by decide)
          refine g_lo (is := [0, 1, 2]) (lo2 := [(0, .ref x), (1, .int v_7), (2, .int v_8)]) rfl ?_
          exact j_55 I_2 J_3 hU_4 hF_5 hG_6 v_7 (rv_7) v_8 (r_32) q_9 hm_10
        · skip
          have r_41 := (⟨(rx_34).1, (eq_rg (h_38) rc_0).2⟩ : Rg 0 0 x_34)
          refine g_iload_n C 1 dX12_hungriest_27 rfl rfl ?_
          refine g_iconst C (v := (-1)) dX12_hungriest_28 (by decide) ?_
          refine g_icmp_eq C (tgt := 53) dX12_hungriest_29 (by decide) (fun h_42 => ?_) (fun h_42 => ?_)
          · skip
            have r_43 := (⟨(rv_7).1, (eq_rg (h_42) rc_m1).2⟩ : Rg (-1) (-1) v_7)
            refine g_lo (is := [0, 1, 2]) (lo2 := [(0, .ref x), (1, .int v_7), (2, .int v_8)]) rfl ?_
            exact j_53 I_2 J_3 hU_4 hF_5 hG_6 v_7 (rg_w r_43 (by decide) (by decide)) v_8 (r_32) q_9 hm_10
          · skip
            have n_44 : ¬ v_7 = (-1) := h_42
            have r_45 := ne_lo (lo := 0) n_44 rv_7 rc_m1 rfl (by decide)
            refine g_aload_n C 0 dX12_hungriest_32 rfl rfl ?_
            refine g_getR C K hLx hkx f_12_13 hb_1 dX12_hungriest_33 ?_
            refine g_bipush C (v := 98) dX12_hungriest_36 (by decide) ?_
            refine g_iload_n C 2 dX12_hungriest_38 rfl rfl ?_
            obtain ⟨x_46, hx_46, rx_46, tx_46⟩ := ex_add 98 104 rc_98 r_32 (by decide) (by decide) (by decide) (by decide)
            refine g_iadd C (v := x_46) dX12_hungriest_39 hx_46 ?_
            obtain ⟨x_47, hx_47, rx_47⟩ := ex_any (z0 := I_2 b_1 (x_46.toNatClampNeg))
            refine h_iald C K hb_1L hb_1k (v := x_47) (x_46.toNatClampNeg) (rfl) (ix_0 rx_46 (by decide)) (ix_lt rx_46 (by decide) hb_1n (by decide)) hx_47 dX12_hungriest_40 ?_
            refine g_aload_n C 0 dX12_hungriest_41 rfl rfl ?_
            refine g_getR C K hLx hkx f_12_13 hb_1 dX12_hungriest_42 ?_
            refine g_bipush C (v := 98) dX12_hungriest_45 (by decide) ?_
            refine g_iload_n C 1 dX12_hungriest_47 rfl rfl ?_
            obtain ⟨x_48, hx_48, rx_48, tx_48⟩ := ex_add 98 104 rc_98 r_45 (by decide) (by decide) (by decide) (by decide)
            refine g_iadd C (v := x_48) dX12_hungriest_48 hx_48 ?_
            obtain ⟨x_49, hx_49, rx_49⟩ := ex_any (z0 := I_2 b_1 (x_48.toNatClampNeg))
            refine h_iald C K hb_1L hb_1k (v := x_49) (x_48.toNatClampNeg) (rfl) (ix_0 rx_48 (by decide)) (ix_lt rx_48 (by decide) hb_1n (by decide)) hx_49 dX12_hungriest_49 ?_
            refine g_icmp_le C (tgt := 55) dX12_hungriest_50 (by decide) (fun h_50 => ?_) (fun h_50 => ?_)
            · skip
              refine g_lo (is := [0, 1, 2]) (lo2 := [(0, .ref x), (1, .int v_7), (2, .int v_8)]) rfl ?_
              exact j_55 I_2 J_3 hU_4 hF_5 hG_6 v_7 (rg_w r_45 (by decide) (by decide)) v_8 (r_32) q_9 hm_10
            · skip
              have r_51 := lt_l (hi := 2147483646) (nle h_50) rx_49 rx_47 (by decide)
              have r_52 := lt_r (lo := (-2147483647)) (nle h_50) rx_49 rx_47 (by decide)
              refine g_lo (is := [0, 1, 2]) (lo2 := [(0, .ref x), (1, .int v_7), (2, .int v_8)]) rfl ?_
              exact j_53 I_2 J_3 hU_4 hF_5 hG_6 v_7 (rg_w r_45 (by decide) (by decide)) v_8 (r_32) q_9 hm_10
  refine g_aload_n C 0 dX12_hungriest_0 rfl rfl ?_
  refine g_iconst C (v := 0) dX12_hungriest_1 (by decide) ?_
  refine h_putI C K hLx hkx f_12_82 p_12_0 dX12_hungriest_2 (fun I_53 hI_53 => ?_)
  have hU_54 := iw_put W9 hU hI_53 (ro_o hkx (by decide)) (lo := (-2147483648)) (hi := 2147483647) (rfl) (rg_all _) rfl
  have hF_55 := fq_puto hF hI_53 hkx (by decide) (by decide)
  refine g_iconst C (v := (-1)) dX12_hungriest_5 (by decide) ?_
  refine g_istore_n C dX12_hungriest_6 rfl (by decide) (lo2 := [(1, .int (-1)), (0, .ref x)]) rfl ?_
  refine g_iconst C (v := 0) dX12_hungriest_7 (by decide) ?_
  refine g_istore_n C dX12_hungriest_8 rfl (by decide) (lo2 := [(2, .int 0), (1, .int (-1)), (0, .ref x)]) rfl ?_
  refine g_lo (is := [2, 1, 0]) (lo2 := [(0, .ref x), (1, .int (-1)), (2, .int 0)]) rfl ?_
  exact l_9 8 I_53 J hU_54 hF_55 hG (-1) (rg_w rc_m1 (by decide) (by decide)) 0 (rg_w rc_0 (by decide) (by decide)) (kp_s hI_53) (ms_s (a := 0) (b := 7) (N := 8) (rg_w rc_0 (by decide) (by decide)) (by decide))
set_option maxRecDepth 100000 in
set_option maxHeartbeats 8000000 in
theorem c_X12_kin {l : Launch} {D : va_G} {cy : Nat → ClassId} {L : List Nat} {κ ln : Nat → Nat} {R : Nat → Nat → Option Nat} {I : Nat → Nat → Int32} {J : Nat → Nat → Int64} {ow : Nat → Nat × Nat} (W9 : ∀ a ∈ L, Shp L κ ln R ow a) {x : Nat} (hLx : x ∈ L) (hkx : κ x = 12) (a0 : Int32) (a1 : Int32) (hU : Iw L κ R ow I) : CtI l yX12_kin cX12_kin 8 (some .int) { frames := 2, cells := 0, slots := 0, locals := 43 } D cy L κ ln R I J [.ref x, .int a0, .int a1] (fun r I2 J2 => Iw L κ R ow I2 ∧ Fq L κ ow [1200] I I2 ∧ Fq L κ ow [] J J2 ∧ Rg (-1) 6 r) := by
  refine CtI.of (by decide +kernel) (Nat.le_of_ble_eq_true rfl) ?_
  intro p e s m below meth c B K
  have C := B.1
  have hF : Fq L κ ow [1200] I I := fq_rf
  have hG : Fq L κ ow [] J J := fq_rf
  obtain ⟨b_1, hb_1, hb_1L, hb_1k, hb_1n, hb_1o⟩ := shp_a (W9 x hLx) hkx 14 14 389 rfl (by decide)
  refine g_lo (is := [0, 1, 2]) (lo2 := [(0, .ref x), (1, .int a0), (2, .int a1)]) rfl ?_
  have l_30 : ∀ (n_30 : Nat) (I_2 : Nat → Nat → Int32) (J_3 : Nat → Nat → Int64) (hU_4 : Iw L κ R ow I_2) (hF_5 : Fq L κ ow [1200] I I_2) (hG_6 : Fq L κ ow [] J J_3) (v_7 : Int32) (rv_7 : Rg 0 6 v_7) (v_8 : Int32) (rv_8 : Rg 0 6 v_8) (v_9 : Int32) (v_10 : Int32) (rv_10 : Rg 0 7 v_10) (q_11 : I_2 x 0 = 0) (hm_12 : 7 < (v_10 : Int32).toInt + (n_30 : Int)), WG p l e { frames := 2, cells := 0, slots := 0, locals := 43 } s m ([.ref x, .int a0, .int a1] : List Value).toArray below meth c 8 0 0 (MQ below (Qi_ D cy L κ ln R (fun r I2 J2 => Iw L κ R ow I2 ∧ Fq L κ ow [1200] I I2 ∧ Fq L κ ow [] J J2 ∧ Rg (-1) 6 r)) ([.ref x, .int a0, .int a1] : List Value).toArray s 0 0 (Al_ L)) D cy (Al_ L) s.heap L κ ln R I_2 J_3 30 [(0, .ref x), (1, .int v_7), (2, .int v_8), (3, .int v_9), (4, .int v_10)] [] := by
    intro n_30
    induction n_30 with
    | zero =>
      intro I_2 J_3 hU_4 hF_5 hG_6 v_7 rv_7 v_8 rv_8 v_9 v_10 rv_10 q_11 hm_12
      exact ms_0 rv_10 hm_12
    | succ n_30 ih_30 =>
      intro I_2 J_3 hU_4 hF_5 hG_6 v_7 rv_7 v_8 rv_8 v_9 v_10 rv_10 q_11 hm_12
      have l_54 : ∀ (n_54 : Nat) (I_13 : Nat → Nat → Int32) (J_14 : Nat → Nat → Int64) (hU_15 : Iw L κ R ow I_13) (hF_16 : Fq L κ ow [1200] I I_13) (hG_17 : Fq L κ ow [] J J_14) (v_18 : Int32) (rv_18 : Rg 0 6 v_18) (v_19 : Int32) (rv_19 : Rg 0 6 v_19) (v_20 : Int32) (v_21 : Int32) (rv_21 : Rg 0 6 v_21) (v_22 : Int32) (v_23 : Int32) (rv_23 : Rg 0 7 v_23) (q_24 : I_13 x 0 = 0) (hm_25 : 7 < (v_21 : Int32).toInt + ((n_30 + 1 : Nat) : Int)) (hm_26 : 7 < (v_23 : Int32).toInt + (n_54 : Int)), WG p l e { frames := 2, cells := 0, slots := 0, locals := 43 } s m ([.ref x, .int a0, .int a1] : List Value).toArray below meth c 8 0 0 (MQ below (Qi_ D cy L κ ln R (fun r I2 J2 => Iw L κ R ow I2 ∧ Fq L κ ow [1200] I I2 ∧ Fq L κ ow [] J J2 ∧ Rg (-1) 6 r)) ([.ref x, .int a0, .int a1] : List Value).toArray s 0 0 (Al_ L)) D cy (Al_ L) s.heap L κ ln R I_13 J_14 54 [(0, .ref x), (1, .int v_18), (2, .int v_19), (3, .int v_20), (4, .int v_21), (5, .int v_22), (6, .int v_23)] [] := by
        intro n_54
        induction n_54 with
        | zero =>
          intro I_13 J_14 hU_15 hF_16 hG_17 v_18 rv_18 v_19 rv_19 v_20 v_21 rv_21 v_22 v_23 rv_23 q_24 hm_25 hm_26
          exact ms_0 rv_23 hm_26
        | succ n_54 ih_54 =>
          intro I_13 J_14 hU_15 hF_16 hG_17 v_18 rv_18 v_19 rv_19 v_20 v_21 rv_21 v_22 v_23 rv_23 q_24 hm_25 hm_26
          have j_122 : ∀ (I_27 : Nat → Nat → Int32) (J_28 : Nat → Nat → Int64) (hU_29 : Iw L κ R ow I_27) (hF_30 : Fq L κ ow [1200] I I_27) (hG_31 : Fq L κ ow [] J J_28) (v_32 : Int32) (rv_32 : Rg 0 6 v_32) (v_33 : Int32) (rv_33 : Rg 0 6 v_33) (v_34 : Int32) (v_35 : Int32) (rv_35 : Rg 0 6 v_35) (v_36 : Int32) (v_37 : Int32) (rv_37 : Rg 0 6 v_37) (v_38 : Int32) (q_39 : I_27 x 0 = 0) (hm_40 : 7 < (v_35 : Int32).toInt + ((n_30 + 1 : Nat) : Int)) (hm_41 : 7 < (v_37 : Int32).toInt + ((n_54 + 1 : Nat) : Int)), WG p l e { frames := 2, cells := 0, slots := 0, locals := 43 } s m ([.ref x, .int a0, .int a1] : List Value).toArray below meth c 8 0 0 (MQ below (Qi_ D cy L κ ln R (fun r I2 J2 => Iw L κ R ow I2 ∧ Fq L κ ow [1200] I I2 ∧ Fq L κ ow [] J J2 ∧ Rg (-1) 6 r)) ([.ref x, .int a0, .int a1] : List Value).toArray s 0 0 (Al_ L)) D cy (Al_ L) s.heap L κ ln R I_27 J_28 122 [(0, .ref x), (1, .int v_32), (2, .int v_33), (3, .int v_34), (4, .int v_35), (5, .int v_36), (6, .int v_37), (7, .int v_38)] [] := by
            intro I_27 J_28 hU_29 hF_30 hG_31 v_32 rv_32 v_33 rv_33 v_34 v_35 rv_35 v_36 v_37 rv_37 v_38 q_39 hm_40 hm_41
            obtain ⟨x_42, hx_42, rx_42, tx_42⟩ := ex_add (y := 1) 1 7 rv_37 rc_1 (by decide) (by decide) (by decide) (by decide)
            refine g_iinc C dX12_kin_122 (k := 6) (v := x_42) rfl hx_42 (by decide) (lo2 := [(6, .int x_42), (0, .ref x), (1, .int v_32), (2, .int v_33), (3, .int v_34), (4, .int v_35), (5, .int v_36), (7, .int v_38)]) rfl ?_
            refine g_goto C (tgt := 54) dX12_kin_125 (by decide) ?_
            refine g_lo (is := [1, 2, 3, 4, 5, 6, 0]) (lo2 := [(0, .ref x), (1, .int v_32), (2, .int v_33), (3, .int v_34), (4, .int v_35), (5, .int v_36), (6, .int x_42)]) rfl ?_
            exact ih_54 I_27 J_28 hU_29 hF_30 hG_31 v_32 (rv_32) v_33 (rv_33) v_34 v_35 (rv_35) v_36 x_42 (rg_w rx_42 (by decide) (by decide)) q_39 hm_40 (ms_1 hm_41 (ti_k tx_42 rc_1) (by decide))
          have j_104 : ∀ (I_43 : Nat → Nat → Int32) (J_44 : Nat → Nat → Int64) (hU_45 : Iw L κ R ow I_43) (hF_46 : Fq L κ ow [1200] I I_43) (hG_47 : Fq L κ ow [] J J_44) (v_48 : Int32) (rv_48 : Rg 0 6 v_48) (v_49 : Int32) (rv_49 : Rg 0 6 v_49) (v_50 : Int32) (v_51 : Int32) (rv_51 : Rg 0 6 v_51) (v_52 : Int32) (v_53 : Int32) (rv_53 : Rg 0 6 v_53) (v_54 : Int32) (nv_54_m1 : ¬ v_54 = (-1)) (q_55 : I_43 x 0 = 0) (hm_56 : 7 < (v_51 : Int32).toInt + ((n_30 + 1 : Nat) : Int)) (hm_57 : 7 < (v_53 : Int32).toInt + ((n_54 + 1 : Nat) : Int)), WG p l e { frames := 2, cells := 0, slots := 0, locals := 43 } s m ([.ref x, .int a0, .int a1] : List Value).toArray below meth c 8 0 0 (MQ below (Qi_ D cy L κ ln R (fun r I2 J2 => Iw L κ R ow I2 ∧ Fq L κ ow [1200] I I2 ∧ Fq L κ ow [] J J2 ∧ Rg (-1) 6 r)) ([.ref x, .int a0, .int a1] : List Value).toArray s 0 0 (Al_ L)) D cy (Al_ L) s.heap L κ ln R I_43 J_44 104 [(0, .ref x), (1, .int v_48), (2, .int v_49), (3, .int v_50), (4, .int v_51), (5, .int v_52), (6, .int v_53), (7, .int v_54)] [] := by
            intro I_43 J_44 hU_45 hF_46 hG_47 v_48 rv_48 v_49 rv_49 v_50 v_51 rv_51 v_52 v_53 rv_53 v_54 nv_54_m1 q_55 hm_56 hm_57
            refine g_iload_n C 3 dX12_kin_104 rfl rfl ?_
            refine g_iload C 7 dX12_kin_105 rfl ?_
            refine g_callSI C K (c_X12_has W9 v_50 v_54  hU_45) s_12_231 rfl ⟨rfl, rfl⟩ ⟨Nat.le_of_ble_eq_true rfl, Nat.le_of_ble_eq_true rfl⟩ (Nat.le_of_ble_eq_true rfl) ⟨Nat.le_of_ble_eq_true rfl, Nat.le_of_ble_eq_true rfl⟩ dX12_kin_107 rfl (st := []) (fun x_58 I_59 J_60 h_61 => ?_)
            obtain ⟨rfl, rfl, rx_58⟩ := h_61
            refine g_if_eq C (tgt := 122) dX12_kin_110 (by decide) (fun h_62 => ?_) (fun h_62 => ?_)
            · skip
              have r_63 := (⟨(rx_58).1, (eq_rg (h_62) rc_0).2⟩ : Rg 0 0 x_58)
              refine g_lo (is := [0, 1, 2, 3, 4, 5, 6, 7]) (lo2 := [(0, .ref x), (1, .int v_48), (2, .int v_49), (3, .int v_50), (4, .int v_51), (5, .int v_52), (6, .int v_53), (7, .int v_54)]) rfl ?_
              exact j_122 I_43 J_44 hU_45 hF_46 hG_47 v_48 (rv_48) v_49 (rv_49) v_50 v_51 (rv_51) v_52 v_53 (rv_53) v_54 q_55 hm_56 hm_57
            · skip
              have n_64 : ¬ x_58 = 0 := h_62
              have r_65 := ne_lo (lo := 1) n_64 rx_58 rc_0 rfl (by decide)
              refine g_iload C 5 dX12_kin_113 rfl ?_
              refine g_iconst C (v := 1) dX12_kin_115 (by decide) ?_
              refine g_iload C 6 dX12_kin_116 rfl ?_
              obtain ⟨x_66, hx_66, rx_66⟩ := ex_shl (x := 1) (y := v_53) 6 64 rfl (rv_53) (by decide)
              refine g_ishl C (v := x_66) dX12_kin_118 hx_66 ?_
              obtain ⟨x_67, hx_67, rx_67⟩ := ex_any (z0 := v_52 ||| x_66)
              refine g_ior C (v := x_67) dX12_kin_119 hx_67 ?_
              refine g_istore C dX12_kin_120 (by decide) (lo2 := [(5, .int x_67), (0, .ref x), (1, .int v_48), (2, .int v_49), (3, .int v_50), (4, .int v_51), (6, .int v_53), (7, .int v_54)]) rfl ?_
              refine g_lo (is := [1, 2, 3, 4, 5, 0, 6, 7]) (lo2 := [(0, .ref x), (1, .int v_48), (2, .int v_49), (3, .int v_50), (4, .int v_51), (5, .int x_67), (6, .int v_53), (7, .int v_54)]) rfl ?_
              exact j_122 I_43 J_44 hU_45 hF_46 hG_47 v_48 (rv_48) v_49 (rv_49) v_50 v_51 (rv_51) x_67 v_53 (rv_53) v_54 q_55 hm_56 hm_57
          refine g_iload C 6 dX12_kin_54 rfl ?_
          refine g_aload_n C 0 dX12_kin_56 rfl rfl ?_
          refine g_getR C K hLx hkx f_12_13 hb_1 dX12_kin_57 ?_
          refine g_iconst C (v := 0) dX12_kin_60 (by decide) ?_
          obtain ⟨x_68, hx_68, rx_68⟩ := ex_getw (I := I_13) (a := b_1) (j := 0) (lo := 0) (hi := 7) hU_15.1 hb_1L (ro_a hb_1k (by decide) hb_1o hkx rfl) (by decide)
          refine h_iald C K hb_1L hb_1k (v := x_68) (0) (by decide) (by decide) (by rw [hb_1n]; decide) hx_68 dX12_kin_61 ?_
          refine g_icmp_ge C (tgt := 128) dX12_kin_62 (by decide) (fun h_69 => ?_) (fun h_69 => ?_)
          · skip
            refine g_iload C 5 dX12_kin_128 rfl ?_
            refine g_istore_n C dX12_kin_130 rfl (by decide) (lo2 := [(3, .int v_22), (0, .ref x), (1, .int v_18), (2, .int v_19), (4, .int v_21), (5, .int v_22), (6, .int v_23)]) rfl ?_
            obtain ⟨x_70, hx_70, rx_70, tx_70⟩ := ex_add (y := 1) 1 7 rv_21 rc_1 (by decide) (by decide) (by decide) (by decide)
            refine g_iinc C dX12_kin_131 (k := 4) (v := x_70) rfl hx_70 (by decide) (lo2 := [(4, .int x_70), (3, .int v_22), (0, .ref x), (1, .int v_18), (2, .int v_19), (5, .int v_22), (6, .int v_23)]) rfl ?_
            refine g_goto C (tgt := 30) dX12_kin_134 (by decide) ?_
            refine g_lo (is := [2, 3, 4, 1, 0]) (lo2 := [(0, .ref x), (1, .int v_18), (2, .int v_19), (3, .int v_22), (4, .int x_70)]) rfl ?_
            exact ih_30 I_13 J_14 hU_15 hF_16 hG_17 v_18 (rv_18) v_19 (rv_19) v_22 x_70 (rg_w rx_70 (by decide) (by decide)) q_24 (ms_1 hm_25 (ti_k tx_70 rc_1) (by decide))
          · skip
            have r_71 := lt_l (hi := 6) (nle h_69) rv_23 rx_68 (by decide)
            have r_72 := lt_r (lo := 1) (nle h_69) rv_23 rx_68 (by decide)
            refine g_aload_n C 0 dX12_kin_65 rfl rfl ?_
            refine g_getR C K hLx hkx f_12_13 hb_1 dX12_kin_66 ?_
            refine g_bipush C (v := 11) dX12_kin_69 (by decide) ?_
            refine g_iload C 6 dX12_kin_71 rfl ?_
            obtain ⟨x_73, hx_73, rx_73, tx_73⟩ := ex_add 11 17 rc_11 r_71 (by decide) (by decide) (by decide) (by decide)
            refine g_iadd C (v := x_73) dX12_kin_73 hx_73 ?_
            obtain ⟨x_74, hx_74, rx_74⟩ := ex_any (z0 := I_13 b_1 (x_73.toNatClampNeg))
            refine h_iald C K hb_1L hb_1k (v := x_74) (x_73.toNatClampNeg) (rfl) (ix_0 rx_73 (by decide)) (ix_lt rx_73 (by decide) hb_1n (by decide)) hx_74 dX12_kin_74 ?_
            refine g_istore C dX12_kin_75 (by decide) (lo2 := [(7, .int x_74), (0, .ref x), (1, .int v_18), (2, .int v_19), (3, .int v_20), (4, .int v_21), (5, .int v_22), (6, .int v_23)]) rfl ?_
            refine g_iload C 0 dX12_kin_77 rfl ?_
            refine g_iconst C (v := (-1)) dX12_kin_79 (by decide) ?_
            refine g_icmp_ne C (tgt := 86) dX12_kin_80 (by decide) (fun h_75 => ?_) (fun h_75 => ?_)
            · skip
              have n_76 : ¬ x_74 = (-1) := h_75
              refine g_iload_n C 4 dX12_kin_86 rfl rfl ?_
              refine g_iload C 7 dX12_kin_87 rfl ?_
              refine g_callSI C K (c_X12_has W9 v_20 v_23  hU_15) s_12_231 rfl ⟨rfl, rfl⟩ ⟨Nat.le_of_ble_eq_true rfl, Nat.le_of_ble_eq_true rfl⟩ (Nat.le_of_ble_eq_true rfl) ⟨Nat.le_of_ble_eq_true rfl, Nat.le_of_ble_eq_true rfl⟩ dX12_kin_89 rfl (st := []) (fun x_77 I_78 J_79 h_80 => ?_)
              obtain ⟨rfl, rfl, rx_77⟩ := h_80
              refine g_if_eq C (tgt := 104) dX12_kin_92 (by decide) (fun h_81 => ?_) (fun h_81 => ?_)
              · skip
                have r_82 := (⟨(rx_77).1, (eq_rg (h_81) rc_0).2⟩ : Rg 0 0 x_77)
                refine g_lo (is := [1, 2, 3, 4, 5, 6, 7, 0]) (lo2 := [(0, .ref x), (1, .int v_18), (2, .int v_19), (3, .int v_20), (4, .int v_21), (5, .int v_22), (6, .int v_23), (7, .int x_74)]) rfl ?_
                exact j_104 I_13 J_14 hU_15 hF_16 hG_17 v_18 (rv_18) v_19 (rv_19) v_20 v_21 (rv_21) v_22 v_23 (r_71) x_74 (n_76) q_24 hm_25 hm_26
              · skip
                have n_83 : ¬ x_77 = 0 := h_81
                have r_84 := ne_lo (lo := 1) n_83 rx_77 rc_0 rfl (by decide)
                refine g_iload C 6 dX12_kin_95 rfl ?_
                refine g_iconst C (v := 1) dX12_kin_97 (by decide) ?_
                refine g_iload C 0 dX12_kin_98 rfl ?_
                obtain ⟨x_85, hx_85, rx_85⟩ := ex_any (z0 := 1 <<< (x_74 &&& 31))
                refine g_ishl C (v := x_85) dX12_kin_100 hx_85 ?_
                obtain ⟨x_86, hx_86, rx_86⟩ := ex_any (z0 := v_22 ||| x_85)
                refine g_ior C (v := x_86) dX12_kin_101 hx_86 ?_
                refine g_istore C dX12_kin_102 (by decide) (lo2 := [(5, .int x_86), (7, .int x_74), (0, .ref x), (1, .int v_18), (2, .int v_19), (3, .int v_20), (4, .int v_21), (6, .int v_23)]) rfl ?_
                refine g_lo (is := [2, 3, 4, 5, 6, 0, 7, 1]) (lo2 := [(0, .ref x), (1, .int v_18), (2, .int v_19), (3, .int v_20), (4, .int v_21), (5, .int x_86), (6, .int v_23), (7, .int x_74)]) rfl ?_
                exact j_104 I_13 J_14 hU_15 hF_16 hG_17 v_18 (rv_18) v_19 (rv_19) v_20 v_21 (rv_21) x_86 v_23 (r_71) x_74 (n_76) q_24 hm_25 hm_26
            · skip
              have r_87 := (⟨(eq_rg (h_75) rc_m1).1, (eq_rg (h_75) rc_m1).2⟩ : Rg (-1) (-1) x_74)
              refine g_goto C (tgt := 122) dX12_kin_83 (by decide) ?_
              refine g_lo (is := [1, 2, 3, 4, 5, 6, 7, 0]) (lo2 := [(0, .ref x), (1, .int v_18), (2, .int v_19), (3, .int v_20), (4, .int v_21), (5, .int v_22), (6, .int v_23), (7, .int x_74)]) rfl ?_
              exact j_122 I_13 J_14 hU_15 hF_16 hG_17 v_18 (rv_18) v_19 (rv_19) v_20 v_21 (rv_21) v_22 v_23 (r_71) x_74 q_24 hm_25 hm_26
      refine g_iload C 4 dX12_kin_30 rfl ?_
      refine g_bipush C (v := 7) dX12_kin_32 (by decide) ?_
      refine g_icmp_ge C (tgt := 137) dX12_kin_34 (by decide) (fun h_88 => ?_) (fun h_88 => ?_)
      · skip
        have r_89 := le_r (h_88) rc_7 rv_10
        refine g_iconst C (v := (-1)) dX12_kin_137 (by decide) ?_
        exact g_zret (ty := .int) (r := (-1)) B K rfl (rfl) ⟨hU_4, hF_5, hG_6, rg_w rc_m1 (by decide) (by decide)⟩ dX12_kin_138
      · skip
        have r_90 := lt_l (hi := 6) (nle h_88) rv_10 rc_7 (by decide)
        refine g_iload_n C 3 dX12_kin_37 rfl rfl ?_
        refine g_iload_n C 2 dX12_kin_38 rfl rfl ?_
        refine g_callSI C K (c_X12_has W9 v_9 v_8  hU_4) s_12_231 rfl ⟨rfl, rfl⟩ ⟨Nat.le_of_ble_eq_true rfl, Nat.le_of_ble_eq_true rfl⟩ (Nat.le_of_ble_eq_true rfl) ⟨Nat.le_of_ble_eq_true rfl, Nat.le_of_ble_eq_true rfl⟩ dX12_kin_39 rfl (st := []) (fun x_91 I_92 J_93 h_94 => ?_)
        obtain ⟨rfl, rfl, rx_91⟩ := h_94
        refine g_if_eq C (tgt := 48) dX12_kin_42 (by decide) (fun h_95 => ?_) (fun h_95 => ?_)
        · skip
          have r_96 := (⟨(rx_91).1, (eq_rg (h_95) rc_0).2⟩ : Rg 0 0 x_91)
          refine g_iload_n C 3 dX12_kin_48 rfl rfl ?_
          refine g_istore C dX12_kin_49 (by decide) (lo2 := [(5, .int v_9), (0, .ref x), (1, .int v_7), (2, .int v_8), (3, .int v_9), (4, .int v_10)]) rfl ?_
          refine g_iconst C (v := 0) dX12_kin_51 (by decide) ?_
          refine g_istore C dX12_kin_52 (by decide) (lo2 := [(6, .int 0), (5, .int v_9), (0, .ref x), (1, .int v_7), (2, .int v_8), (3, .int v_9), (4, .int v_10)]) rfl ?_
          refine g_lo (is := [2, 3, 4, 5, 6, 1, 0]) (lo2 := [(0, .ref x), (1, .int v_7), (2, .int v_8), (3, .int v_9), (4, .int v_10), (5, .int v_9), (6, .int 0)]) rfl ?_
          exact l_54 8 I_2 J_3 hU_4 hF_5 hG_6 v_7 (rv_7) v_8 (rv_8) v_9 v_10 (r_90) v_9 0 (rg_w rc_0 (by decide) (by decide)) q_11 hm_12 (ms_s (a := 0) (b := 7) (N := 8) (rg_w rc_0 (by decide) (by decide)) (by decide))
        · skip
          have n_97 : ¬ x_91 = 0 := h_95
          have r_98 := ne_lo (lo := 1) n_97 rx_91 rc_0 rfl (by decide)
          refine g_iload C 4 dX12_kin_45 rfl ?_
          exact g_zret (ty := .int) (r := v_10) B K rfl (rfl) ⟨hU_4, hF_5, hG_6, rg_w r_90 (by decide) (by decide)⟩ dX12_kin_47
  refine g_aload_n C 0 dX12_kin_0 rfl rfl ?_
  refine g_iconst C (v := 0) dX12_kin_1 (by decide) ?_
  refine h_putI C K hLx hkx f_12_82 p_12_0 dX12_kin_2 (fun I_99 hI_99 => ?_)
  have hU_100 := iw_put W9 hU hI_99 (ro_o hkx (by decide)) (lo := (-2147483648)) (hi := 2147483647) (rfl) (rg_all _) rfl
  have hF_101 := fq_puto hF hI_99 hkx (by decide) (by decide)
  refine g_aload_n C 0 dX12_kin_5 rfl rfl ?_
  refine g_iload_n C 1 dX12_kin_6 rfl rfl ?_
  refine g_callVI C K (c_X12_isPerson W9 hLx hkx a0  hU_100) hLx hkx (by decide) rfl v_12_238 rfl ⟨rfl, rfl⟩ ⟨Nat.le_of_ble_eq_true rfl, Nat.le_of_ble_eq_true rfl⟩ (Nat.le_of_ble_eq_true rfl) ⟨Nat.le_of_ble_eq_true rfl, Nat.le_of_ble_eq_true rfl⟩ dX12_kin_7 rfl (st := []) (fun x_102 I_103 J_104 h_105 => ?_)
  obtain ⟨rfl, rfl, rx_102, ex_102⟩ := h_105
  refine g_if_eq C (tgt := 21) dX12_kin_10 (by decide) (fun h_106 => ?_) (fun h_106 => ?_)
  · skip
    have r_107 := (⟨(rx_102).1, (eq_rg (h_106) rc_0).2⟩ : Rg 0 0 x_102)
    refine g_iconst C (v := (-1)) dX12_kin_21 (by decide) ?_
    exact g_zret (ty := .int) (r := (-1)) B K rfl (rfl) ⟨hU_100, hF_101, hG, rg_w rc_m1 (by decide) (by decide)⟩ dX12_kin_22
  · skip
    have n_108 : ¬ x_102 = 0 := h_106
    have r_109 := ne_lo (lo := 1) n_108 rx_102 rc_0 rfl (by decide)
    have r_110 := rg_i (rg_all a0) ((ex_102) n_108) (lo := 0) (hi := 6) (by decide) (by decide)
    refine g_aload_n C 0 dX12_kin_13 rfl rfl ?_
    refine g_iload_n C 2 dX12_kin_14 rfl rfl ?_
    refine g_callVI C K (c_X12_isPerson W9 hLx hkx a1  hU_100) hLx hkx (by decide) rfl v_12_238 rfl ⟨rfl, rfl⟩ ⟨Nat.le_of_ble_eq_true rfl, Nat.le_of_ble_eq_true rfl⟩ (Nat.le_of_ble_eq_true rfl) ⟨Nat.le_of_ble_eq_true rfl, Nat.le_of_ble_eq_true rfl⟩ dX12_kin_15 rfl (st := []) (fun x_111 I_112 J_113 h_114 => ?_)
    obtain ⟨rfl, rfl, rx_111, ex_111⟩ := h_114
    refine g_if_ne C (tgt := 23) dX12_kin_18 (by decide) (fun h_115 => ?_) (fun h_115 => ?_)
    · skip
      have n_116 : ¬ x_111 = 0 := h_115
      have r_117 := ne_lo (lo := 1) n_116 rx_111 rc_0 rfl (by decide)
      have r_118 := rg_i (rg_all a1) ((ex_111) n_116) (lo := 0) (hi := 6) (by decide) (by decide)
      refine g_iconst C (v := 1) dX12_kin_23 (by decide) ?_
      refine g_iload_n C 1 dX12_kin_24 rfl rfl ?_
      obtain ⟨x_119, hx_119, rx_119⟩ := ex_shl (x := 1) (y := a0) 6 64 rfl (r_110) (by decide)
      refine g_ishl C (v := x_119) dX12_kin_25 hx_119 ?_
      refine g_istore_n C dX12_kin_26 rfl (by decide) (lo2 := [(3, .int x_119), (0, .ref x), (1, .int a0), (2, .int a1)]) rfl ?_
      refine g_iconst C (v := 0) dX12_kin_27 (by decide) ?_
      refine g_istore C dX12_kin_28 (by decide) (lo2 := [(4, .int 0), (3, .int x_119), (0, .ref x), (1, .int a0), (2, .int a1)]) rfl ?_
      refine g_lo (is := [2, 3, 4, 1, 0]) (lo2 := [(0, .ref x), (1, .int a0), (2, .int a1), (3, .int x_119), (4, .int 0)]) rfl ?_
      exact l_30 8 I_99 J hU_100 hF_101 hG a0 (r_110) a1 (r_118) x_119 0 (rg_w rc_0 (by decide) (by decide)) (kp_s hI_99) (ms_s (a := 0) (b := 7) (N := 8) (rg_w rc_0 (by decide) (by decide)) (by decide))
    · skip
      have r_120 := (⟨(rx_111).1, (eq_rg (h_115) rc_0).2⟩ : Rg 0 0 x_111)
      refine g_iconst C (v := (-1)) dX12_kin_21 (by decide) ?_
      exact g_zret (ty := .int) (r := (-1)) B K rfl (rfl) ⟨hU_100, hF_101, hG, rg_w rc_m1 (by decide) (by decide)⟩ dX12_kin_22
