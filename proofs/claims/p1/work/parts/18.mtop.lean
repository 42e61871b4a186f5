theorem dX12_accept_0 : decode cX12_accept 0 = .ok (.aload_n 0, 1) := by decide +kernel
theorem dX12_accept_1 : decode cX12_accept 1 = .ok (.iconst 0, 1) := by decide +kernel
theorem dX12_accept_2 : decode cX12_accept 2 = .ok (.putfield 82, 3) := by decide +kernel
theorem dX12_accept_5 : decode cX12_accept 5 = .ok (.aload_n 0, 1) := by decide +kernel
theorem dX12_accept_6 : decode cX12_accept 6 = .ok (.iload_n 1, 1) := by decide +kernel
theorem dX12_accept_7 : decode cX12_accept 7 = .ok (.invokevirtual 238, 3) := by decide +kernel
theorem dX12_accept_10 : decode cX12_accept 10 = .ok (.ifCond .eq 14, 3) := by decide +kernel
theorem dX12_accept_24 : decode cX12_accept 24 = .ok (.iconst (-1), 1) := by decide +kernel
theorem dX12_accept_25 : decode cX12_accept 25 = .ok (.ireturn, 1) := by decide +kernel
theorem dX12_ask_0 : decode cX12_ask 0 = .ok (.aload_n 0, 1) := by decide +kernel
theorem dX12_ask_1 : decode cX12_ask 1 = .ok (.iconst 0, 1) := by decide +kernel
theorem dX12_ask_2 : decode cX12_ask 2 = .ok (.putfield 82, 3) := by decide +kernel
theorem dX12_ask_5 : decode cX12_ask 5 = .ok (.aload_n 0, 1) := by decide +kernel
theorem dX12_ask_6 : decode cX12_ask 6 = .ok (.getfield 58, 3) := by decide +kernel
theorem dX12_ask_9 : decode cX12_ask 9 = .ok (.ireturn, 1) := by decide +kernel
theorem dX12_book_0 : decode cX12_book 0 = .ok (.aload_n 0, 1) := by decide +kernel
theorem dX12_book_1 : decode cX12_book 1 = .ok (.iconst 0, 1) := by decide +kernel
theorem dX12_book_2 : decode cX12_book 2 = .ok (.putfield 82, 3) := by decide +kernel
theorem dX12_book_5 : decode cX12_book 5 = .ok (.iload_n 1, 1) := by decide +kernel
theorem dX12_book_6 : decode cX12_book 6 = .ok (.iconst 0, 1) := by decide +kernel
theorem dX12_book_7 : decode cX12_book 7 = .ok (.iconst 1, 1) := by decide +kernel
theorem dX12_book_8 : decode cX12_book 8 = .ok (.invokestatic 149, 3) := by decide +kernel
theorem dX12_book_11 : decode cX12_book 11 = .ok (.ifCond .ne 7, 3) := by decide +kernel
theorem dX12_book_14 : decode cX12_book 14 = .ok (.sipush (-1000), 3) := by decide +kernel
theorem dX12_book_17 : decode cX12_book 17 = .ok (.ireturn, 1) := by decide +kernel
theorem dX12_book_18 : decode cX12_book 18 = .ok (.aload_n 0, 1) := by decide +kernel
theorem dX12_book_19 : decode cX12_book 19 = .ok (.sipush 400, 3) := by decide +kernel
theorem dX12_book_22 : decode cX12_book 22 = .ok (.invokevirtual 216, 3) := by decide +kernel
theorem dX12_book_25 : decode cX12_book 25 = .ok (.aload_n 0, 1) := by decide +kernel
theorem dX12_book_26 : decode cX12_book 26 = .ok (.iconst 0, 1) := by decide +kernel
theorem dX12_book_27 : decode cX12_book 27 = .ok (.putfield 361, 3) := by decide +kernel
theorem dX12_book_30 : decode cX12_book 30 = .ok (.aload_n 0, 1) := by decide +kernel
theorem dX12_book_31 : decode cX12_book 31 = .ok (.getfield 104, 3) := by decide +kernel
theorem dX12_book_34 : decode cX12_book 34 = .ok (.ifCond .eq 31, 3) := by decide +kernel
theorem dX12_book_65 : decode cX12_book 65 = .ok (.aload_n 0, 1) := by decide +kernel
theorem dX12_book_66 : decode cX12_book 66 = .ok (.invokevirtual 329, 3) := by decide +kernel
theorem dX12_book_69 : decode cX12_book 69 = .ok (.iconst 0, 1) := by decide +kernel
theorem dX12_book_70 : decode cX12_book 70 = .ok (.istore_n 2, 1) := by decide +kernel
theorem dX12_book_71 : decode cX12_book 71 = .ok (.iconst 0, 1) := by decide +kernel
theorem dX12_book_72 : decode cX12_book 72 = .ok (.istore_n 3, 1) := by decide +kernel
theorem dX12_book_73 : decode cX12_book 73 = .ok (.iload_n 2, 1) := by decide +kernel
theorem dX12_book_74 : decode cX12_book 74 = .ok (.aload_n 0, 1) := by decide +kernel
theorem dX12_book_75 : decode cX12_book 75 = .ok (.getfield 361, 3) := by decide +kernel
theorem dX12_book_78 : decode cX12_book 78 = .ok (.if_icmp .ge 25, 3) := by decide +kernel
theorem dX12_book_103 : decode cX12_book 103 = .ok (.aload_n 0, 1) := by decide +kernel
theorem dX12_book_104 : decode cX12_book 104 = .ok (.getfield 76, 3) := by decide +kernel
theorem dX12_book_107 : decode cX12_book 107 = .ok (.iconst 0, 1) := by decide +kernel
theorem dX12_book_108 : decode cX12_book 108 = .ok (.iload_n 3, 1) := by decide +kernel
theorem dX12_book_109 : decode cX12_book 109 = .ok (.iastore, 1) := by decide +kernel
theorem dX12_book_110 : decode cX12_book 110 = .ok (.aload_n 0, 1) := by decide +kernel
theorem dX12_book_111 : decode cX12_book 111 = .ok (.getfield 76, 3) := by decide +kernel
theorem dX12_book_114 : decode cX12_book 114 = .ok (.iconst 1, 1) := by decide +kernel
theorem dX12_book_115 : decode cX12_book 115 = .ok (.iload_n 2, 1) := by decide +kernel
theorem dX12_book_116 : decode cX12_book 116 = .ok (.iastore, 1) := by decide +kernel
theorem dX12_book_117 : decode cX12_book 117 = .ok (.aload_n 0, 1) := by decide +kernel
theorem dX12_book_118 : decode cX12_book 118 = .ok (.getfield 76, 3) := by decide +kernel
theorem dX12_book_121 : decode cX12_book 121 = .ok (.iconst 2, 1) := by decide +kernel
theorem dX12_book_122 : decode cX12_book 122 = .ok (.aload_n 0, 1) := by decide +kernel
theorem dX12_book_123 : decode cX12_book 123 = .ok (.getfield 13, 3) := by decide +kernel
theorem dX12_book_126 : decode cX12_book 126 = .ok (.bipush 72, 2) := by decide +kernel
theorem dX12_book_128 : decode cX12_book 128 = .ok (.iaload, 1) := by decide +kernel
theorem dX12_book_129 : decode cX12_book 129 = .ok (.iastore, 1) := by decide +kernel
theorem dX12_book_130 : decode cX12_book 130 = .ok (.aload_n 0, 1) := by decide +kernel
theorem dX12_book_131 : decode cX12_book 131 = .ok (.getfield 76, 3) := by decide +kernel
theorem dX12_book_134 : decode cX12_book 134 = .ok (.iconst 3, 1) := by decide +kernel
theorem dX12_book_135 : decode cX12_book 135 = .ok (.aload_n 0, 1) := by decide +kernel
theorem dX12_book_136 : decode cX12_book 136 = .ok (.getfield 13, 3) := by decide +kernel
theorem dX12_book_139 : decode cX12_book 139 = .ok (.bipush 73, 2) := by decide +kernel
theorem dX12_book_141 : decode cX12_book 141 = .ok (.iaload, 1) := by decide +kernel
theorem dX12_book_142 : decode cX12_book 142 = .ok (.iastore, 1) := by decide +kernel
theorem dX12_book_143 : decode cX12_book 143 = .ok (.aload_n 0, 1) := by decide +kernel
theorem dX12_book_144 : decode cX12_book 144 = .ok (.iconst 1, 1) := by decide +kernel
theorem dX12_book_145 : decode cX12_book 145 = .ok (.putfield 373, 3) := by decide +kernel
theorem dX12_book_148 : decode cX12_book 148 = .ok (.aload_n 0, 1) := by decide +kernel
theorem dX12_book_149 : decode cX12_book 149 = .ok (.iload_n 1, 1) := by decide +kernel
theorem dX12_book_150 : decode cX12_book 150 = .ok (.iconst 1, 1) := by decide +kernel
theorem dX12_book_151 : decode cX12_book 151 = .ok (.if_icmp .ne 11, 3) := by decide +kernel
theorem dX12_book_154 : decode cX12_book 154 = .ok (.iload_n 2, 1) := by decide +kernel
theorem dX12_book_155 : decode cX12_book 155 = .ok (.ifCond .le 7, 3) := by decide +kernel
theorem dX12_book_162 : decode cX12_book 162 = .ok (.iconst 0, 1) := by decide +kernel
theorem dX12_book_163 : decode cX12_book 163 = .ok (.invokevirtual 376, 3) := by decide +kernel
theorem dX12_book_166 : decode cX12_book 166 = .ok (.iload_n 3, 1) := by decide +kernel
theorem dX12_book_167 : decode cX12_book 167 = .ok (.ifCond .ne 7, 3) := by decide +kernel
theorem dX12_book_170 : decode cX12_book 170 = .ok (.iconst (-1), 1) := by decide +kernel
theorem dX12_book_171 : decode cX12_book 171 = .ok (.goto 4, 3) := by decide +kernel
theorem dX12_book_175 : decode cX12_book 175 = .ok (.ireturn, 1) := by decide +kernel
theorem dX12_byteAt_0 : decode cX12_byteAt 0 = .ok (.aload_n 0, 1) := by decide +kernel
theorem dX12_byteAt_1 : decode cX12_byteAt 1 = .ok (.iconst 0, 1) := by decide +kernel
theorem dX12_byteAt_2 : decode cX12_byteAt 2 = .ok (.putfield 82, 3) := by decide +kernel
theorem dX12_byteAt_5 : decode cX12_byteAt 5 = .ok (.iload_n 1, 1) := by decide +kernel
theorem dX12_byteAt_6 : decode cX12_byteAt 6 = .ok (.iconst 0, 1) := by decide +kernel
theorem dX12_byteAt_7 : decode cX12_byteAt 7 = .ok (.aload_n 0, 1) := by decide +kernel
theorem dX12_byteAt_8 : decode cX12_byteAt 8 = .ok (.getfield 335, 3) := by decide +kernel
theorem dX12_byteAt_11 : decode cX12_byteAt 11 = .ok (.iconst 1, 1) := by decide +kernel
theorem dX12_byteAt_12 : decode cX12_byteAt 12 = .ok (.isub, 1) := by decide +kernel
theorem dX12_byteAt_13 : decode cX12_byteAt 13 = .ok (.invokestatic 149, 3) := by decide +kernel
theorem dX12_byteAt_16 : decode cX12_byteAt 16 = .ok (.ifCond .eq 12, 3) := by decide +kernel
theorem dX12_byteAt_28 : decode cX12_byteAt 28 = .ok (.iconst (-1), 1) := by decide +kernel
theorem dX12_byteAt_29 : decode cX12_byteAt 29 = .ok (.ireturn, 1) := by decide +kernel
theorem dX12_count_0 : decode cX12_count 0 = .ok (.aload_n 0, 1) := by decide +kernel
theorem dX12_count_1 : decode cX12_count 1 = .ok (.iconst 0, 1) := by decide +kernel
theorem dX12_count_2 : decode cX12_count 2 = .ok (.putfield 82, 3) := by decide +kernel
theorem dX12_count_5 : decode cX12_count 5 = .ok (.iload_n 1, 1) := by decide +kernel
theorem dX12_count_6 : decode cX12_count 6 = .ok (.tableswitch 67 0 4 #[34, 41, 48, 55, 62], 34) := by decide +kernel
theorem dX12_count_40 : decode cX12_count 40 = .ok (.aload_n 0, 1) := by decide +kernel
theorem dX12_count_41 : decode cX12_count 41 = .ok (.getfield 13, 3) := by decide +kernel
theorem dX12_count_44 : decode cX12_count 44 = .ok (.iconst 0, 1) := by decide +kernel
theorem dX12_count_45 : decode cX12_count 45 = .ok (.iaload, 1) := by decide +kernel
theorem dX12_count_46 : decode cX12_count 46 = .ok (.ireturn, 1) := by decide +kernel
theorem dX12_count_47 : decode cX12_count 47 = .ok (.aload_n 0, 1) := by decide +kernel
theorem dX12_count_48 : decode cX12_count 48 = .ok (.getfield 13, 3) := by decide +kernel
theorem dX12_count_51 : decode cX12_count 51 = .ok (.iconst 1, 1) := by decide +kernel
theorem dX12_count_52 : decode cX12_count 52 = .ok (.iaload, 1) := by decide +kernel
theorem dX12_count_53 : decode cX12_count 53 = .ok (.ireturn, 1) := by decide +kernel
theorem dX12_count_54 : decode cX12_count 54 = .ok (.aload_n 0, 1) := by decide +kernel
theorem dX12_count_55 : decode cX12_count 55 = .ok (.getfield 13, 3) := by decide +kernel
theorem dX12_count_58 : decode cX12_count 58 = .ok (.iconst 2, 1) := by decide +kernel
theorem dX12_count_59 : decode cX12_count 59 = .ok (.iaload, 1) := by decide +kernel
theorem dX12_count_60 : decode cX12_count 60 = .ok (.ireturn, 1) := by decide +kernel
theorem dX12_count_61 : decode cX12_count 61 = .ok (.aload_n 0, 1) := by decide +kernel
theorem dX12_count_62 : decode cX12_count 62 = .ok (.getfield 13, 3) := by decide +kernel
theorem dX12_count_65 : decode cX12_count 65 = .ok (.iconst 3, 1) := by decide +kernel
theorem dX12_count_66 : decode cX12_count 66 = .ok (.iaload, 1) := by decide +kernel
theorem dX12_count_67 : decode cX12_count 67 = .ok (.ireturn, 1) := by decide +kernel
theorem dX12_count_68 : decode cX12_count 68 = .ok (.aload_n 0, 1) := by decide +kernel
theorem dX12_count_69 : decode cX12_count 69 = .ok (.getfield 85, 3) := by decide +kernel
theorem dX12_count_72 : decode cX12_count 72 = .ok (.ireturn, 1) := by decide +kernel
theorem dX12_count_73 : decode cX12_count 73 = .ok (.iconst (-1), 1) := by decide +kernel
theorem dX12_count_74 : decode cX12_count 74 = .ok (.ireturn, 1) := by decide +kernel
theorem dX12_die_0 : decode cX12_die 0 = .ok (.aload_n 0, 1) := by decide +kernel
theorem dX12_die_1 : decode cX12_die 1 = .ok (.iconst 0, 1) := by decide +kernel
theorem dX12_die_2 : decode cX12_die 2 = .ok (.putfield 82, 3) := by decide +kernel
theorem dX12_die_5 : decode cX12_die 5 = .ok (.aload_n 0, 1) := by decide +kernel
theorem dX12_die_6 : decode cX12_die 6 = .ok (.iload_n 1, 1) := by decide +kernel
theorem dX12_die_7 : decode cX12_die 7 = .ok (.invokevirtual 238, 3) := by decide +kernel
theorem dX12_die_10 : decode cX12_die 10 = .ok (.ifCond .eq 14, 3) := by decide +kernel
theorem dX12_die_24 : decode cX12_die 24 = .ok (.iconst (-1), 1) := by decide +kernel
theorem dX12_die_25 : decode cX12_die 25 = .ok (.ireturn, 1) := by decide +kernel
theorem dX12_dish_0 : decode cX12_dish 0 = .ok (.aload_n 0, 1) := by decide +kernel
theorem dX12_dish_1 : decode cX12_dish 1 = .ok (.iconst 0, 1) := by decide +kernel
theorem dX12_dish_2 : decode cX12_dish 2 = .ok (.putfield 82, 3) := by decide +kernel
theorem dX12_dish_5 : decode cX12_dish 5 = .ok (.aload_n 0, 1) := by decide +kernel
theorem dX12_dish_6 : decode cX12_dish 6 = .ok (.iload_n 1, 1) := by decide +kernel
theorem dX12_dish_7 : decode cX12_dish 7 = .ok (.invokevirtual 250, 3) := by decide +kernel
theorem dX12_dish_10 : decode cX12_dish 10 = .ok (.ifCond .ne 5, 3) := by decide +kernel
theorem dX12_dish_13 : decode cX12_dish 13 = .ok (.iconst (-1), 1) := by decide +kernel
theorem dX12_dish_14 : decode cX12_dish 14 = .ok (.ireturn, 1) := by decide +kernel
theorem dX12_drawn_0 : decode cX12_drawn 0 = .ok (.aload_n 0, 1) := by decide +kernel
theorem dX12_drawn_1 : decode cX12_drawn 1 = .ok (.iconst 0, 1) := by decide +kernel
theorem dX12_drawn_2 : decode cX12_drawn 2 = .ok (.putfield 82, 3) := by decide +kernel
theorem dX12_drawn_5 : decode cX12_drawn 5 = .ok (.iload_n 1, 1) := by decide +kernel
theorem dX12_drawn_6 : decode cX12_drawn 6 = .ok (.iconst 1, 1) := by decide +kernel
theorem dX12_drawn_7 : decode cX12_drawn 7 = .ok (.bipush 60, 2) := by decide +kernel
theorem dX12_drawn_9 : decode cX12_drawn 9 = .ok (.invokestatic 149, 3) := by decide +kernel
theorem dX12_drawn_12 : decode cX12_drawn 12 = .ok (.ifCond .eq 12, 3) := by decide +kernel
theorem dX12_drawn_15 : decode cX12_drawn 15 = .ok (.aload_n 0, 1) := by decide +kernel
theorem dX12_drawn_16 : decode cX12_drawn 16 = .ok (.getfield 13, 3) := by decide +kernel
theorem dX12_drawn_19 : decode cX12_drawn 19 = .ok (.iconst 0, 1) := by decide +kernel
theorem dX12_drawn_20 : decode cX12_drawn 20 = .ok (.iaload, 1) := by decide +kernel
theorem dX12_drawn_21 : decode cX12_drawn 21 = .ok (.ifCond .ne 5, 3) := by decide +kernel
theorem dX12_drawn_24 : decode cX12_drawn 24 = .ok (.iconst (-1), 1) := by decide +kernel
theorem dX12_drawn_25 : decode cX12_drawn 25 = .ok (.ireturn, 1) := by decide +kernel
theorem dX12_eat_0 : decode cX12_eat 0 = .ok (.aload_n 0, 1) := by decide +kernel
theorem dX12_eat_1 : decode cX12_eat 1 = .ok (.iconst 0, 1) := by decide +kernel
theorem dX12_eat_2 : decode cX12_eat 2 = .ok (.putfield 82, 3) := by decide +kernel
theorem dX12_eat_5 : decode cX12_eat 5 = .ok (.aload_n 0, 1) := by decide +kernel
theorem dX12_eat_6 : decode cX12_eat 6 = .ok (.iload_n 1, 1) := by decide +kernel
theorem dX12_eat_7 : decode cX12_eat 7 = .ok (.invokevirtual 238, 3) := by decide +kernel
theorem dX12_eat_10 : decode cX12_eat 10 = .ok (.ifCond .eq 32, 3) := by decide +kernel
theorem dX12_eat_42 : decode cX12_eat 42 = .ok (.iconst (-1), 1) := by decide +kernel
theorem dX12_eat_43 : decode cX12_eat 43 = .ok (.ireturn, 1) := by decide +kernel
theorem dX12_eaters_0 : decode cX12_eaters 0 = .ok (.aload_n 0, 1) := by decide +kernel
theorem dX12_eaters_1 : decode cX12_eaters 1 = .ok (.iconst 0, 1) := by decide +kernel
theorem dX12_eaters_2 : decode cX12_eaters 2 = .ok (.putfield 82, 3) := by decide +kernel
theorem dX12_eaters_5 : decode cX12_eaters 5 = .ok (.aload_n 0, 1) := by decide +kernel
theorem dX12_eaters_6 : decode cX12_eaters 6 = .ok (.invokevirtual 162, 3) := by decide +kernel
theorem dX12_eaters_9 : decode cX12_eaters 9 = .ok (.iconst 2, 1) := by decide +kernel
theorem dX12_eaters_10 : decode cX12_eaters 10 = .ok (.if_icmp .ne 16, 3) := by decide +kernel
theorem dX12_eaters_26 : decode cX12_eaters 26 = .ok (.iconst (-1), 1) := by decide +kernel
theorem dX12_eaters_27 : decode cX12_eaters 27 = .ok (.ireturn, 1) := by decide +kernel
theorem dX12_end_0 : decode cX12_end 0 = .ok (.aload_n 0, 1) := by decide +kernel
theorem dX12_end_1 : decode cX12_end 1 = .ok (.iconst 0, 1) := by decide +kernel
theorem dX12_end_2 : decode cX12_end 2 = .ok (.putfield 82, 3) := by decide +kernel
theorem dX12_end_5 : decode cX12_end 5 = .ok (.iload_n 1, 1) := by decide +kernel
theorem dX12_end_6 : decode cX12_end 6 = .ok (.ifCond .lt 11, 3) := by decide +kernel
theorem dX12_end_9 : decode cX12_end 9 = .ok (.iload_n 1, 1) := by decide +kernel
theorem dX12_end_10 : decode cX12_end 10 = .ok (.aload_n 0, 1) := by decide +kernel
theorem dX12_end_11 : decode cX12_end 11 = .ok (.getfield 85, 3) := by decide +kernel
theorem dX12_end_14 : decode cX12_end 14 = .ok (.if_icmp .le 5, 3) := by decide +kernel
theorem dX12_end_17 : decode cX12_end 17 = .ok (.iconst 0, 1) := by decide +kernel
theorem dX12_end_18 : decode cX12_end 18 = .ok (.ireturn, 1) := by decide +kernel
theorem dX12_end_19 : decode cX12_end 19 = .ok (.aload_n 0, 1) := by decide +kernel
theorem dX12_end_20 : decode cX12_end 20 = .ok (.iload_n 1, 1) := by decide +kernel
theorem dX12_end_21 : decode cX12_end 21 = .ok (.putfield 85, 3) := by decide +kernel
theorem dX12_end_24 : decode cX12_end 24 = .ok (.iconst 1, 1) := by decide +kernel
theorem dX12_end_25 : decode cX12_end 25 = .ok (.ireturn, 1) := by decide +kernel
theorem dX12_fault_0 : decode cX12_fault 0 = .ok (.aload_n 0, 1) := by decide +kernel
theorem dX12_fault_1 : decode cX12_fault 1 = .ok (.iconst 0, 1) := by decide +kernel
theorem dX12_fault_2 : decode cX12_fault 2 = .ok (.putfield 82, 3) := by decide +kernel
theorem dX12_fault_5 : decode cX12_fault 5 = .ok (.aload_n 0, 1) := by decide +kernel
theorem dX12_fault_6 : decode cX12_fault 6 = .ok (.getfield 140, 3) := by decide +kernel
theorem dX12_fault_9 : decode cX12_fault 9 = .ok (.ireturn, 1) := by decide +kernel
theorem dX12_feed_0 : decode cX12_feed 0 = .ok (.aload_n 0, 1) := by decide +kernel
theorem dX12_feed_1 : decode cX12_feed 1 = .ok (.iconst 0, 1) := by decide +kernel
theorem dX12_feed_2 : decode cX12_feed 2 = .ok (.putfield 82, 3) := by decide +kernel
theorem dX12_feed_5 : decode cX12_feed 5 = .ok (.aload_n 0, 1) := by decide +kernel
theorem dX12_feed_6 : decode cX12_feed 6 = .ok (.getfield 85, 3) := by decide +kernel
theorem dX12_feed_9 : decode cX12_feed 9 = .ok (.bipush 20, 2) := by decide +kernel
theorem dX12_feed_11 : decode cX12_feed 11 = .ok (.iadd, 1) := by decide +kernel
theorem dX12_feed_12 : decode cX12_feed 12 = .ok (.sipush 940, 3) := by decide +kernel
theorem dX12_feed_15 : decode cX12_feed 15 = .ok (.if_icmp .le 5, 3) := by decide +kernel
theorem dX12_feed_20 : decode cX12_feed 20 = .ok (.aload_n 0, 1) := by decide +kernel
theorem dX12_feed_21 : decode cX12_feed 21 = .ok (.iload_n 1, 1) := by decide +kernel
theorem dX12_feed_22 : decode cX12_feed 22 = .ok (.invokevirtual 88, 3) := by decide +kernel
theorem dX12_feed_25 : decode cX12_feed 25 = .ok (.aload_n 0, 1) := by decide +kernel
theorem dX12_feed_26 : decode cX12_feed 26 = .ok (.iload_n 2, 1) := by decide +kernel
theorem dX12_feed_27 : decode cX12_feed 27 = .ok (.invokevirtual 88, 3) := by decide +kernel
theorem dX12_feed_30 : decode cX12_feed 30 = .ok (.aload_n 0, 1) := by decide +kernel
theorem dX12_feed_31 : decode cX12_feed 31 = .ok (.iload_n 3, 1) := by decide +kernel
theorem dX12_feed_32 : decode cX12_feed 32 = .ok (.invokevirtual 88, 3) := by decide +kernel
theorem dX12_feed_35 : decode cX12_feed 35 = .ok (.aload_n 0, 1) := by decide +kernel
theorem dX12_feed_36 : decode cX12_feed 36 = .ok (.iload 4, 2) := by decide +kernel
theorem dX12_feed_38 : decode cX12_feed 38 = .ok (.invokevirtual 88, 3) := by decide +kernel
theorem dX12_feed_41 : decode cX12_feed 41 = .ok (.aload_n 0, 1) := by decide +kernel
theorem dX12_feed_42 : decode cX12_feed 42 = .ok (.iload 5, 2) := by decide +kernel
theorem dX12_feed_44 : decode cX12_feed 44 = .ok (.invokevirtual 88, 3) := by decide +kernel
theorem dX12_feed_47 : decode cX12_feed 47 = .ok (.aload_n 0, 1) := by decide +kernel
theorem dX12_feed_48 : decode cX12_feed 48 = .ok (.getfield 85, 3) := by decide +kernel
theorem dX12_feed_51 : decode cX12_feed 51 = .ok (.ireturn, 1) := by decide +kernel
theorem dX12_heir_0 : decode cX12_heir 0 = .ok (.aload_n 0, 1) := by decide +kernel
theorem dX12_heir_1 : decode cX12_heir 1 = .ok (.iconst 0, 1) := by decide +kernel
theorem dX12_heir_2 : decode cX12_heir 2 = .ok (.putfield 82, 3) := by decide +kernel
theorem dX12_heir_5 : decode cX12_heir 5 = .ok (.aload_n 0, 1) := by decide +kernel
theorem dX12_heir_6 : decode cX12_heir 6 = .ok (.iload_n 1, 1) := by decide +kernel
theorem dX12_heir_7 : decode cX12_heir 7 = .ok (.invokevirtual 238, 3) := by decide +kernel
theorem dX12_heir_10 : decode cX12_heir 10 = .ok (.ifCond .eq 15, 3) := by decide +kernel
theorem dX12_heir_25 : decode cX12_heir 25 = .ok (.iconst (-1), 1) := by decide +kernel
theorem dX12_heir_26 : decode cX12_heir 26 = .ok (.ireturn, 1) := by decide +kernel
theorem dX12_hungriest_0 : decode cX12_hungriest 0 = .ok (.aload_n 0, 1) := by decide +kernel
theorem dX12_hungriest_1 : decode cX12_hungriest 1 = .ok (.iconst 0, 1) := by decide +kernel
theorem dX12_hungriest_2 : decode cX12_hungriest 2 = .ok (.putfield 82, 3) := by decide +kernel
theorem dX12_hungriest_5 : decode cX12_hungriest 5 = .ok (.iconst (-1), 1) := by decide +kernel
theorem dX12_hungriest_6 : decode cX12_hungriest 6 = .ok (.istore_n 1, 1) := by decide +kernel
theorem dX12_hungriest_7 : decode cX12_hungriest 7 = .ok (.iconst 0, 1) := by decide +kernel
theorem dX12_hungriest_8 : decode cX12_hungriest 8 = .ok (.istore_n 2, 1) := by decide +kernel
theorem dX12_hungriest_9 : decode cX12_hungriest 9 = .ok (.iload_n 2, 1) := by decide +kernel
theorem dX12_hungriest_10 : decode cX12_hungriest 10 = .ok (.aload_n 0, 1) := by decide +kernel
theorem dX12_hungriest_11 : decode cX12_hungriest 11 = .ok (.getfield 13, 3) := by decide +kernel
theorem dX12_hungriest_14 : decode cX12_hungriest 14 = .ok (.iconst 0, 1) := by decide +kernel
theorem dX12_hungriest_15 : decode cX12_hungriest 15 = .ok (.iaload, 1) := by decide +kernel
theorem dX12_hungriest_16 : decode cX12_hungriest 16 = .ok (.if_icmp .ge 45, 3) := by decide +kernel
theorem dX12_hungriest_61 : decode cX12_hungriest 61 = .ok (.iload_n 1, 1) := by decide +kernel
theorem dX12_hungriest_62 : decode cX12_hungriest 62 = .ok (.ireturn, 1) := by decide +kernel
theorem dX12_image_0 : decode cX12_image 0 = .ok (.aload_n 0, 1) := by decide +kernel
theorem dX12_image_1 : decode cX12_image 1 = .ok (.iconst 0, 1) := by decide +kernel
theorem dX12_image_2 : decode cX12_image 2 = .ok (.putfield 82, 3) := by decide +kernel
theorem dX12_image_5 : decode cX12_image 5 = .ok (.iload_n 1, 1) := by decide +kernel
theorem dX12_image_6 : decode cX12_image 6 = .ok (.iconst 0, 1) := by decide +kernel
theorem dX12_image_7 : decode cX12_image 7 = .ok (.iconst 1, 1) := by decide +kernel
theorem dX12_image_8 : decode cX12_image 8 = .ok (.invokestatic 149, 3) := by decide +kernel
theorem dX12_image_11 : decode cX12_image 11 = .ok (.ifCond .ne 5, 3) := by decide +kernel
theorem dX12_image_14 : decode cX12_image 14 = .ok (.iconst 0, 1) := by decide +kernel
theorem dX12_image_15 : decode cX12_image 15 = .ok (.ireturn, 1) := by decide +kernel
theorem dX12_image_16 : decode cX12_image 16 = .ok (.iconst 0, 1) := by decide +kernel
theorem dX12_image_17 : decode cX12_image 17 = .ok (.istore_n 2, 1) := by decide +kernel
theorem dX12_image_18 : decode cX12_image 18 = .ok (.iload_n 2, 1) := by decide +kernel
theorem dX12_image_19 : decode cX12_image 19 = .ok (.sipush 389, 3) := by decide +kernel
theorem dX12_image_22 : decode cX12_image 22 = .ok (.if_icmp .ge 27, 3) := by decide +kernel
theorem dX12_image_25 : decode cX12_image 25 = .ok (.aload_n 0, 1) := by decide +kernel
theorem dX12_image_26 : decode cX12_image 26 = .ok (.getfield 19, 3) := by decide +kernel
theorem dX12_image_29 : decode cX12_image 29 = .ok (.sipush 389, 3) := by decide +kernel
theorem dX12_image_32 : decode cX12_image 32 = .ok (.iload_n 1, 1) := by decide +kernel
theorem dX12_image_33 : decode cX12_image 33 = .ok (.imul, 1) := by decide +kernel
theorem dX12_image_34 : decode cX12_image 34 = .ok (.iload_n 2, 1) := by decide +kernel
theorem dX12_image_35 : decode cX12_image 35 = .ok (.iadd, 1) := by decide +kernel
theorem dX12_image_36 : decode cX12_image 36 = .ok (.aload_n 0, 1) := by decide +kernel
theorem dX12_image_37 : decode cX12_image 37 = .ok (.getfield 13, 3) := by decide +kernel
theorem dX12_image_40 : decode cX12_image 40 = .ok (.iload_n 2, 1) := by decide +kernel
theorem dX12_image_41 : decode cX12_image 41 = .ok (.iaload, 1) := by decide +kernel
theorem dX12_image_42 : decode cX12_image 42 = .ok (.iastore, 1) := by decide +kernel
theorem dX12_image_43 : decode cX12_image 43 = .ok (.iinc 2 1, 3) := by decide +kernel
theorem dX12_image_46 : decode cX12_image 46 = .ok (.goto (-28), 3) := by decide +kernel
theorem dX12_image_49 : decode cX12_image 49 = .ok (.iconst 0, 1) := by decide +kernel
theorem dX12_image_50 : decode cX12_image 50 = .ok (.istore_n 2, 1) := by decide +kernel
theorem dX12_image_51 : decode cX12_image 51 = .ok (.iload_n 2, 1) := by decide +kernel
theorem dX12_image_52 : decode cX12_image 52 = .ok (.bipush 13, 2) := by decide +kernel
theorem dX12_image_54 : decode cX12_image 54 = .ok (.if_icmp .ge 26, 3) := by decide +kernel
theorem dX12_image_57 : decode cX12_image 57 = .ok (.aload_n 0, 1) := by decide +kernel
theorem dX12_image_58 : decode cX12_image 58 = .ok (.getfield 35, 3) := by decide +kernel
theorem dX12_image_61 : decode cX12_image 61 = .ok (.bipush 13, 2) := by decide +kernel
theorem dX12_image_63 : decode cX12_image 63 = .ok (.iload_n 1, 1) := by decide +kernel
theorem dX12_image_64 : decode cX12_image 64 = .ok (.imul, 1) := by decide +kernel
theorem dX12_image_65 : decode cX12_image 65 = .ok (.iload_n 2, 1) := by decide +kernel
theorem dX12_image_66 : decode cX12_image 66 = .ok (.iadd, 1) := by decide +kernel
theorem dX12_image_67 : decode cX12_image 67 = .ok (.aload_n 0, 1) := by decide +kernel
theorem dX12_image_68 : decode cX12_image 68 = .ok (.getfield 28, 3) := by decide +kernel
theorem dX12_image_71 : decode cX12_image 71 = .ok (.iload_n 2, 1) := by decide +kernel
theorem dX12_image_72 : decode cX12_image 72 = .ok (.laload, 1) := by decide +kernel
theorem dX12_image_73 : decode cX12_image 73 = .ok (.lastore, 1) := by decide +kernel
theorem dX12_image_74 : decode cX12_image 74 = .ok (.iinc 2 1, 3) := by decide +kernel
theorem dX12_image_77 : decode cX12_image 77 = .ok (.goto (-26), 3) := by decide +kernel
theorem dX12_image_80 : decode cX12_image 80 = .ok (.aload_n 0, 1) := by decide +kernel
theorem dX12_image_81 : decode cX12_image 81 = .ok (.getfield 38, 3) := by decide +kernel
theorem dX12_image_84 : decode cX12_image 84 = .ok (.iload_n 1, 1) := by decide +kernel
theorem dX12_image_85 : decode cX12_image 85 = .ok (.iconst 1, 1) := by decide +kernel
theorem dX12_image_86 : decode cX12_image 86 = .ok (.bastore, 1) := by decide +kernel
theorem dX12_image_87 : decode cX12_image 87 = .ok (.iconst 1, 1) := by decide +kernel
theorem dX12_image_88 : decode cX12_image 88 = .ok (.ireturn, 1) := by decide +kernel
theorem dX12_kin_0 : decode cX12_kin 0 = .ok (.aload_n 0, 1) := by decide +kernel
theorem dX12_kin_1 : decode cX12_kin 1 = .ok (.iconst 0, 1) := by decide +kernel
theorem dX12_kin_2 : decode cX12_kin 2 = .ok (.putfield 82, 3) := by decide +kernel
theorem dX12_kin_5 : decode cX12_kin 5 = .ok (.aload_n 0, 1) := by decide +kernel
theorem dX12_kin_6 : decode cX12_kin 6 = .ok (.iload_n 1, 1) := by decide +kernel
theorem dX12_kin_7 : decode cX12_kin 7 = .ok (.invokevirtual 238, 3) := by decide +kernel
theorem dX12_kin_10 : decode cX12_kin 10 = .ok (.ifCond .eq 11, 3) := by decide +kernel
theorem dX12_kin_21 : decode cX12_kin 21 = .ok (.iconst (-1), 1) := by decide +kernel
theorem dX12_kin_22 : decode cX12_kin 22 = .ok (.ireturn, 1) := by decide +kernel
theorem dX12_last_0 : decode cX12_last 0 = .ok (.aload_n 0, 1) := by decide +kernel
theorem dX12_last_1 : decode cX12_last 1 = .ok (.iconst 0, 1) := by decide +kernel
theorem dX12_last_2 : decode cX12_last 2 = .ok (.putfield 82, 3) := by decide +kernel
theorem dX12_last_5 : decode cX12_last 5 = .ok (.aload_n 0, 1) := by decide +kernel
theorem dX12_last_6 : decode cX12_last 6 = .ok (.iload_n 1, 1) := by decide +kernel
theorem dX12_last_7 : decode cX12_last 7 = .ok (.invokevirtual 250, 3) := by decide +kernel
theorem dX12_last_10 : decode cX12_last 10 = .ok (.ifCond .ne 5, 3) := by decide +kernel
theorem dX12_last_13 : decode cX12_last 13 = .ok (.iconst (-1), 1) := by decide +kernel
theorem dX12_last_14 : decode cX12_last 14 = .ok (.ireturn, 1) := by decide +kernel
theorem dX12_left_0 : decode cX12_left 0 = .ok (.aload_n 0, 1) := by decide +kernel
theorem dX12_left_1 : decode cX12_left 1 = .ok (.iconst 0, 1) := by decide +kernel
theorem dX12_left_2 : decode cX12_left 2 = .ok (.putfield 82, 3) := by decide +kernel
theorem dX12_left_5 : decode cX12_left 5 = .ok (.aload_n 0, 1) := by decide +kernel
theorem dX12_left_6 : decode cX12_left 6 = .ok (.invokevirtual 162, 3) := by decide +kernel
theorem dX12_left_9 : decode cX12_left 9 = .ok (.istore_n 2, 1) := by decide +kernel
theorem dX12_left_10 : decode cX12_left 10 = .ok (.aload_n 0, 1) := by decide +kernel
theorem dX12_left_11 : decode cX12_left 11 = .ok (.iload_n 1, 1) := by decide +kernel
theorem dX12_left_12 : decode cX12_left 12 = .ok (.invokevirtual 238, 3) := by decide +kernel
theorem dX12_left_15 : decode cX12_left 15 = .ok (.ifCond .eq 13, 3) := by decide +kernel
theorem dX12_left_28 : decode cX12_left 28 = .ok (.iconst (-1), 1) := by decide +kernel
theorem dX12_left_29 : decode cX12_left 29 = .ok (.ireturn, 1) := by decide +kernel
theorem dX12_line_0 : decode cX12_line 0 = .ok (.aload_n 0, 1) := by decide +kernel
theorem dX12_line_1 : decode cX12_line 1 = .ok (.iconst 0, 1) := by decide +kernel
theorem dX12_line_2 : decode cX12_line 2 = .ok (.putfield 82, 3) := by decide +kernel
theorem dX12_line_5 : decode cX12_line 5 = .ok (.aload_n 0, 1) := by decide +kernel
theorem dX12_line_6 : decode cX12_line 6 = .ok (.iload_n 1, 1) := by decide +kernel
theorem dX12_line_7 : decode cX12_line 7 = .ok (.invokevirtual 238, 3) := by decide +kernel
theorem dX12_line_10 : decode cX12_line 10 = .ok (.ifCond .eq 7, 3) := by decide +kernel
theorem dX12_line_17 : decode cX12_line 17 = .ok (.iconst (-1), 1) := by decide +kernel
theorem dX12_line_18 : decode cX12_line 18 = .ok (.ireturn, 1) := by decide +kernel
theorem dX12_meals_0 : decode cX12_meals 0 = .ok (.aload_n 0, 1) := by decide +kernel
theorem dX12_meals_1 : decode cX12_meals 1 = .ok (.iconst 0, 1) := by decide +kernel
theorem dX12_meals_2 : decode cX12_meals 2 = .ok (.putfield 82, 3) := by decide +kernel
theorem dX12_meals_5 : decode cX12_meals 5 = .ok (.iload_n 1, 1) := by decide +kernel
theorem dX12_meals_6 : decode cX12_meals 6 = .ok (.iconst 1, 1) := by decide +kernel
theorem dX12_meals_7 : decode cX12_meals 7 = .ok (.bipush 60, 2) := by decide +kernel
theorem dX12_meals_9 : decode cX12_meals 9 = .ok (.invokestatic 149, 3) := by decide +kernel
theorem dX12_meals_12 : decode cX12_meals 12 = .ok (.ifCond .ne 5, 3) := by decide +kernel
theorem dX12_meals_15 : decode cX12_meals 15 = .ok (.iconst (-1), 1) := by decide +kernel
theorem dX12_meals_16 : decode cX12_meals 16 = .ok (.ireturn, 1) := by decide +kernel
theorem dX12_meals_17 : decode cX12_meals 17 = .ok (.aload_n 0, 1) := by decide +kernel
theorem dX12_meals_18 : decode cX12_meals 18 = .ok (.getfield 13, 3) := by decide +kernel
theorem dX12_meals_21 : decode cX12_meals 21 = .ok (.bipush 72, 2) := by decide +kernel
theorem dX12_meals_23 : decode cX12_meals 23 = .ok (.iaload, 1) := by decide +kernel
theorem dX12_meals_24 : decode cX12_meals 24 = .ok (.sipush 200, 3) := by decide +kernel
theorem dX12_meals_27 : decode cX12_meals 27 = .ok (.if_icmp .ne 5, 3) := by decide +kernel
theorem dX12_meals_32 : decode cX12_meals 32 = .ok (.aload_n 0, 1) := by decide +kernel
theorem dX12_meals_33 : decode cX12_meals 33 = .ok (.invokevirtual 282, 3) := by decide +kernel
theorem dX12_meals_36 : decode cX12_meals 36 = .ok (.aload_n 0, 1) := by decide +kernel
theorem dX12_meals_37 : decode cX12_meals 37 = .ok (.iload_n 1, 1) := by decide +kernel
theorem dX12_meals_38 : decode cX12_meals 38 = .ok (.invokevirtual 295, 3) := by decide +kernel
theorem dX12_meals_41 : decode cX12_meals 41 = .ok (.ireturn, 1) := by decide +kernel
theorem dX12_now_0 : decode cX12_now 0 = .ok (.aload_n 0, 1) := by decide +kernel
theorem dX12_now_1 : decode cX12_now 1 = .ok (.iconst 0, 1) := by decide +kernel
theorem dX12_now_2 : decode cX12_now 2 = .ok (.putfield 82, 3) := by decide +kernel
theorem dX12_now_5 : decode cX12_now 5 = .ok (.iload_n 1, 1) := by decide +kernel
theorem dX12_now_6 : decode cX12_now 6 = .ok (.tableswitch 108 0 7 #[46, 54, 62, 70, 78, 86, 93, 100], 46) := by decide +kernel
theorem dX12_now_52 : decode cX12_now 52 = .ok (.aload_n 0, 1) := by decide +kernel
theorem dX12_now_53 : decode cX12_now 53 = .ok (.getfield 13, 3) := by decide +kernel
theorem dX12_now_56 : decode cX12_now 56 = .ok (.bipush 72, 2) := by decide +kernel
theorem dX12_now_58 : decode cX12_now 58 = .ok (.iaload, 1) := by decide +kernel
theorem dX12_now_59 : decode cX12_now 59 = .ok (.ireturn, 1) := by decide +kernel
theorem dX12_now_60 : decode cX12_now 60 = .ok (.aload_n 0, 1) := by decide +kernel
theorem dX12_now_61 : decode cX12_now 61 = .ok (.getfield 13, 3) := by decide +kernel
theorem dX12_now_64 : decode cX12_now 64 = .ok (.bipush 73, 2) := by decide +kernel
theorem dX12_now_66 : decode cX12_now 66 = .ok (.iaload, 1) := by decide +kernel
theorem dX12_now_67 : decode cX12_now 67 = .ok (.ireturn, 1) := by decide +kernel
theorem dX12_now_68 : decode cX12_now 68 = .ok (.aload_n 0, 1) := by decide +kernel
theorem dX12_now_69 : decode cX12_now 69 = .ok (.getfield 13, 3) := by decide +kernel
theorem dX12_now_72 : decode cX12_now 72 = .ok (.bipush 74, 2) := by decide +kernel
theorem dX12_now_74 : decode cX12_now 74 = .ok (.iaload, 1) := by decide +kernel
theorem dX12_now_75 : decode cX12_now 75 = .ok (.ireturn, 1) := by decide +kernel
theorem dX12_now_76 : decode cX12_now 76 = .ok (.aload_n 0, 1) := by decide +kernel
theorem dX12_now_77 : decode cX12_now 77 = .ok (.getfield 13, 3) := by decide +kernel
theorem dX12_now_80 : decode cX12_now 80 = .ok (.bipush 75, 2) := by decide +kernel
theorem dX12_now_82 : decode cX12_now 82 = .ok (.iaload, 1) := by decide +kernel
theorem dX12_now_83 : decode cX12_now 83 = .ok (.ireturn, 1) := by decide +kernel
theorem dX12_now_84 : decode cX12_now 84 = .ok (.aload_n 0, 1) := by decide +kernel
theorem dX12_now_85 : decode cX12_now 85 = .ok (.getfield 13, 3) := by decide +kernel
theorem dX12_now_88 : decode cX12_now 88 = .ok (.bipush 76, 2) := by decide +kernel
theorem dX12_now_90 : decode cX12_now 90 = .ok (.iaload, 1) := by decide +kernel
theorem dX12_now_91 : decode cX12_now 91 = .ok (.ireturn, 1) := by decide +kernel
theorem dX12_now_92 : decode cX12_now 92 = .ok (.aload_n 0, 1) := by decide +kernel
theorem dX12_now_93 : decode cX12_now 93 = .ok (.bipush 84, 2) := by decide +kernel
theorem dX12_now_95 : decode cX12_now 95 = .ok (.invokevirtual 253, 3) := by decide +kernel
theorem dX12_now_98 : decode cX12_now 98 = .ok (.ireturn, 1) := by decide +kernel
theorem dX12_now_99 : decode cX12_now 99 = .ok (.aload_n 0, 1) := by decide +kernel
theorem dX12_now_100 : decode cX12_now 100 = .ok (.bipush 98, 2) := by decide +kernel
theorem dX12_now_102 : decode cX12_now 102 = .ok (.invokevirtual 253, 3) := by decide +kernel
theorem dX12_now_105 : decode cX12_now 105 = .ok (.ireturn, 1) := by decide +kernel
theorem dX12_now_106 : decode cX12_now 106 = .ok (.aload_n 0, 1) := by decide +kernel
theorem dX12_now_107 : decode cX12_now 107 = .ok (.getfield 13, 3) := by decide +kernel
theorem dX12_now_110 : decode cX12_now 110 = .ok (.bipush 77, 2) := by decide +kernel
theorem dX12_now_112 : decode cX12_now 112 = .ok (.iaload, 1) := by decide +kernel
theorem dX12_now_113 : decode cX12_now 113 = .ok (.ireturn, 1) := by decide +kernel
theorem dX12_now_114 : decode cX12_now 114 = .ok (.iconst (-1), 1) := by decide +kernel
theorem dX12_now_115 : decode cX12_now 115 = .ok (.ireturn, 1) := by decide +kernel
theorem dX12_odds_0 : decode cX12_odds 0 = .ok (.aload_n 0, 1) := by decide +kernel
theorem dX12_odds_1 : decode cX12_odds 1 = .ok (.iconst 0, 1) := by decide +kernel
theorem dX12_odds_2 : decode cX12_odds 2 = .ok (.putfield 82, 3) := by decide +kernel
theorem dX12_odds_5 : decode cX12_odds 5 = .ok (.aload_n 0, 1) := by decide +kernel
theorem dX12_odds_6 : decode cX12_odds 6 = .ok (.iload_n 1, 1) := by decide +kernel
theorem dX12_odds_7 : decode cX12_odds 7 = .ok (.invokevirtual 238, 3) := by decide +kernel
theorem dX12_odds_10 : decode cX12_odds 10 = .ok (.ifCond .eq 13, 3) := by decide +kernel
theorem dX12_odds_23 : decode cX12_odds 23 = .ok (.iconst (-1), 1) := by decide +kernel
theorem dX12_odds_24 : decode cX12_odds 24 = .ok (.ireturn, 1) := by decide +kernel
theorem dX12_order_0 : decode cX12_order 0 = .ok (.aload_n 0, 1) := by decide +kernel
theorem dX12_order_1 : decode cX12_order 1 = .ok (.iconst 0, 1) := by decide +kernel
theorem dX12_order_2 : decode cX12_order 2 = .ok (.putfield 82, 3) := by decide +kernel
theorem dX12_order_5 : decode cX12_order 5 = .ok (.aload_n 0, 1) := by decide +kernel
theorem dX12_order_6 : decode cX12_order 6 = .ok (.ldc_w 308, 3) := by decide +kernel
theorem dX12_order_9 : decode cX12_order 9 = .ok (.putfield 298, 3) := by decide +kernel
theorem dX12_order_12 : decode cX12_order 12 = .ok (.aload_n 0, 1) := by decide +kernel
theorem dX12_order_13 : decode cX12_order 13 = .ok (.aload_n 0, 1) := by decide +kernel
theorem dX12_order_14 : decode cX12_order 14 = .ok (.invokevirtual 309, 3) := by decide +kernel
theorem dX12_order_17 : decode cX12_order 17 = .ok (.invokestatic 312, 3) := by decide +kernel
theorem dX12_order_20 : decode cX12_order 20 = .ok (.putfield 315, 3) := by decide +kernel
theorem dX12_order_23 : decode cX12_order 23 = .ok (.aload_n 0, 1) := by decide +kernel
theorem dX12_order_24 : decode cX12_order 24 = .ok (.iconst 0, 1) := by decide +kernel
theorem dX12_order_25 : decode cX12_order 25 = .ok (.aload_n 0, 1) := by decide +kernel
theorem dX12_order_26 : decode cX12_order 26 = .ok (.invokevirtual 309, 3) := by decide +kernel
theorem dX12_order_29 : decode cX12_order 29 = .ok (.invokevirtual 304, 3) := by decide +kernel
theorem dX12_order_32 : decode cX12_order 32 = .ok (.aload_n 0, 1) := by decide +kernel
theorem dX12_order_33 : decode cX12_order 33 = .ok (.getfield 298, 3) := by decide +kernel
theorem dX12_order_36 : decode cX12_order 36 = .ok (.ireturn, 1) := by decide +kernel
theorem dX12_orderAt_0 : decode cX12_orderAt 0 = .ok (.aload_n 0, 1) := by decide +kernel
theorem dX12_orderAt_1 : decode cX12_orderAt 1 = .ok (.iconst 0, 1) := by decide +kernel
theorem dX12_orderAt_2 : decode cX12_orderAt 2 = .ok (.putfield 82, 3) := by decide +kernel
theorem dX12_orderAt_5 : decode cX12_orderAt 5 = .ok (.iload_n 1, 1) := by decide +kernel
theorem dX12_orderAt_6 : decode cX12_orderAt 6 = .ok (.iconst 0, 1) := by decide +kernel
theorem dX12_orderAt_7 : decode cX12_orderAt 7 = .ok (.aload_n 0, 1) := by decide +kernel
theorem dX12_orderAt_8 : decode cX12_orderAt 8 = .ok (.getfield 315, 3) := by decide +kernel
theorem dX12_orderAt_11 : decode cX12_orderAt 11 = .ok (.iconst 1, 1) := by decide +kernel
theorem dX12_orderAt_12 : decode cX12_orderAt 12 = .ok (.isub, 1) := by decide +kernel
theorem dX12_orderAt_13 : decode cX12_orderAt 13 = .ok (.invokestatic 149, 3) := by decide +kernel
theorem dX12_orderAt_16 : decode cX12_orderAt 16 = .ok (.ifCond .eq 12, 3) := by decide +kernel
theorem dX12_orderAt_28 : decode cX12_orderAt 28 = .ok (.iconst (-1), 1) := by decide +kernel
theorem dX12_orderAt_29 : decode cX12_orderAt 29 = .ok (.ireturn, 1) := by decide +kernel
theorem dX12_person_0 : decode cX12_person 0 = .ok (.aload_n 0, 1) := by decide +kernel
theorem dX12_person_1 : decode cX12_person 1 = .ok (.iconst 0, 1) := by decide +kernel
theorem dX12_person_2 : decode cX12_person 2 = .ok (.putfield 82, 3) := by decide +kernel
theorem dX12_person_5 : decode cX12_person 5 = .ok (.aload_n 0, 1) := by decide +kernel
theorem dX12_person_6 : decode cX12_person 6 = .ok (.iload_n 1, 1) := by decide +kernel
theorem dX12_person_7 : decode cX12_person 7 = .ok (.invokevirtual 238, 3) := by decide +kernel
theorem dX12_person_10 : decode cX12_person 10 = .ok (.ifCond .ne 8, 3) := by decide +kernel
theorem dX12_person_13 : decode cX12_person 13 = .ok (.aload_n 0, 1) := by decide +kernel
theorem dX12_person_14 : decode cX12_person 14 = .ok (.invokevirtual 241, 3) := by decide +kernel
theorem dX12_person_17 : decode cX12_person 17 = .ok (.ireturn, 1) := by decide +kernel
theorem dX12_plate_0 : decode cX12_plate 0 = .ok (.aload_n 0, 1) := by decide +kernel
theorem dX12_plate_1 : decode cX12_plate 1 = .ok (.iconst 0, 1) := by decide +kernel
theorem dX12_plate_2 : decode cX12_plate 2 = .ok (.putfield 82, 3) := by decide +kernel
theorem dX12_plate_5 : decode cX12_plate 5 = .ok (.aload_n 0, 1) := by decide +kernel
theorem dX12_plate_6 : decode cX12_plate 6 = .ok (.iload_n 1, 1) := by decide +kernel
theorem dX12_plate_7 : decode cX12_plate 7 = .ok (.invokevirtual 238, 3) := by decide +kernel
theorem dX12_plate_10 : decode cX12_plate 10 = .ok (.ifCond .eq 20, 3) := by decide +kernel
theorem dX12_plate_30 : decode cX12_plate 30 = .ok (.iconst (-1), 1) := by decide +kernel
theorem dX12_plate_31 : decode cX12_plate 31 = .ok (.ireturn, 1) := by decide +kernel
theorem dX12_refuse__0 : decode cX12_refuse_ 0 = .ok (.aload_n 0, 1) := by decide +kernel
theorem dX12_refuse__1 : decode cX12_refuse_ 1 = .ok (.iconst 0, 1) := by decide +kernel
theorem dX12_refuse__2 : decode cX12_refuse_ 2 = .ok (.putfield 82, 3) := by decide +kernel
theorem dX12_refuse__5 : decode cX12_refuse_ 5 = .ok (.aload_n 0, 1) := by decide +kernel
theorem dX12_refuse__6 : decode cX12_refuse_ 6 = .ok (.iload_n 1, 1) := by decide +kernel
theorem dX12_refuse__7 : decode cX12_refuse_ 7 = .ok (.invokevirtual 238, 3) := by decide +kernel
theorem dX12_refuse__10 : decode cX12_refuse_ 10 = .ok (.ifCond .eq 14, 3) := by decide +kernel
theorem dX12_refuse__24 : decode cX12_refuse_ 24 = .ok (.iconst (-1), 1) := by decide +kernel
theorem dX12_refuse__25 : decode cX12_refuse_ 25 = .ok (.ireturn, 1) := by decide +kernel
theorem dX12_restore_0 : decode cX12_restore 0 = .ok (.aload_n 0, 1) := by decide +kernel
theorem dX12_restore_1 : decode cX12_restore 1 = .ok (.iconst 0, 1) := by decide +kernel
theorem dX12_restore_2 : decode cX12_restore 2 = .ok (.putfield 82, 3) := by decide +kernel
theorem dX12_restore_5 : decode cX12_restore 5 = .ok (.iload_n 1, 1) := by decide +kernel
theorem dX12_restore_6 : decode cX12_restore 6 = .ok (.iconst 0, 1) := by decide +kernel
theorem dX12_restore_7 : decode cX12_restore 7 = .ok (.iconst 1, 1) := by decide +kernel
theorem dX12_restore_8 : decode cX12_restore 8 = .ok (.invokestatic 149, 3) := by decide +kernel
theorem dX12_restore_11 : decode cX12_restore 11 = .ok (.ifCond .eq 12, 3) := by decide +kernel
theorem dX12_restore_14 : decode cX12_restore 14 = .ok (.aload_n 0, 1) := by decide +kernel
theorem dX12_restore_15 : decode cX12_restore 15 = .ok (.getfield 38, 3) := by decide +kernel
theorem dX12_restore_18 : decode cX12_restore 18 = .ok (.iload_n 1, 1) := by decide +kernel
theorem dX12_restore_19 : decode cX12_restore 19 = .ok (.baload, 1) := by decide +kernel
theorem dX12_restore_20 : decode cX12_restore 20 = .ok (.ifCond .ne 5, 3) := by decide +kernel
theorem dX12_restore_23 : decode cX12_restore 23 = .ok (.iconst 0, 1) := by decide +kernel
theorem dX12_restore_24 : decode cX12_restore 24 = .ok (.ireturn, 1) := by decide +kernel
theorem dX12_rise_0 : decode cX12_rise 0 = .ok (.aload_n 0, 1) := by decide +kernel
theorem dX12_rise_1 : decode cX12_rise 1 = .ok (.iconst 0, 1) := by decide +kernel
theorem dX12_rise_2 : decode cX12_rise 2 = .ok (.putfield 82, 3) := by decide +kernel
theorem dX12_rise_5 : decode cX12_rise 5 = .ok (.aload_n 0, 1) := by decide +kernel
theorem dX12_rise_6 : decode cX12_rise 6 = .ok (.iload_n 1, 1) := by decide +kernel
theorem dX12_rise_7 : decode cX12_rise 7 = .ok (.invokevirtual 238, 3) := by decide +kernel
theorem dX12_rise_10 : decode cX12_rise 10 = .ok (.ifCond .eq 14, 3) := by decide +kernel
theorem dX12_rise_24 : decode cX12_rise 24 = .ok (.iconst (-1), 1) := by decide +kernel
theorem dX12_rise_25 : decode cX12_rise 25 = .ok (.ireturn, 1) := by decide +kernel
theorem dX12_said_0 : decode cX12_said 0 = .ok (.aload_n 0, 1) := by decide +kernel
theorem dX12_said_1 : decode cX12_said 1 = .ok (.iconst 0, 1) := by decide +kernel
theorem dX12_said_2 : decode cX12_said 2 = .ok (.putfield 82, 3) := by decide +kernel
theorem dX12_said_5 : decode cX12_said 5 = .ok (.aload_n 0, 1) := by decide +kernel
theorem dX12_said_6 : decode cX12_said 6 = .ok (.getfield 13, 3) := by decide +kernel
theorem dX12_said_9 : decode cX12_said 9 = .ok (.sipush 147, 3) := by decide +kernel
theorem dX12_said_12 : decode cX12_said 12 = .ok (.iaload, 1) := by decide +kernel
theorem dX12_said_13 : decode cX12_said 13 = .ok (.ifCond .ne 5, 3) := by decide +kernel
theorem dX12_said_16 : decode cX12_said 16 = .ok (.iconst (-1), 1) := by decide +kernel
theorem dX12_said_17 : decode cX12_said 17 = .ok (.ireturn, 1) := by decide +kernel
theorem dX12_seatAt_0 : decode cX12_seatAt 0 = .ok (.aload_n 0, 1) := by decide +kernel
theorem dX12_seatAt_1 : decode cX12_seatAt 1 = .ok (.iconst 0, 1) := by decide +kernel
theorem dX12_seatAt_2 : decode cX12_seatAt 2 = .ok (.putfield 82, 3) := by decide +kernel
theorem dX12_seatAt_5 : decode cX12_seatAt 5 = .ok (.iload_n 1, 1) := by decide +kernel
theorem dX12_seatAt_6 : decode cX12_seatAt 6 = .ok (.iconst 0, 1) := by decide +kernel
theorem dX12_seatAt_7 : decode cX12_seatAt 7 = .ok (.aload_n 0, 1) := by decide +kernel
theorem dX12_seatAt_8 : decode cX12_seatAt 8 = .ok (.getfield 326, 3) := by decide +kernel
theorem dX12_seatAt_11 : decode cX12_seatAt 11 = .ok (.iconst 1, 1) := by decide +kernel
theorem dX12_seatAt_12 : decode cX12_seatAt 12 = .ok (.isub, 1) := by decide +kernel
theorem dX12_seatAt_13 : decode cX12_seatAt 13 = .ok (.invokestatic 149, 3) := by decide +kernel
theorem dX12_seatAt_16 : decode cX12_seatAt 16 = .ok (.ifCond .eq 12, 3) := by decide +kernel
theorem dX12_seatAt_28 : decode cX12_seatAt 28 = .ok (.iconst (-1), 1) := by decide +kernel
theorem dX12_seatAt_29 : decode cX12_seatAt 29 = .ok (.ireturn, 1) := by decide +kernel
theorem dX12_seats_0 : decode cX12_seats 0 = .ok (.aload_n 0, 1) := by decide +kernel
theorem dX12_seats_1 : decode cX12_seats 1 = .ok (.iconst 0, 1) := by decide +kernel
theorem dX12_seats_2 : decode cX12_seats 2 = .ok (.putfield 82, 3) := by decide +kernel
theorem dX12_seats_5 : decode cX12_seats 5 = .ok (.aload_n 0, 1) := by decide +kernel
theorem dX12_seats_6 : decode cX12_seats 6 = .ok (.iconst (-1), 1) := by decide +kernel
theorem dX12_seats_7 : decode cX12_seats 7 = .ok (.putfield 320, 3) := by decide +kernel
theorem dX12_seats_10 : decode cX12_seats 10 = .ok (.aload_n 0, 1) := by decide +kernel
theorem dX12_seats_11 : decode cX12_seats 11 = .ok (.aload_n 0, 1) := by decide +kernel
theorem dX12_seats_12 : decode cX12_seats 12 = .ok (.invokevirtual 309, 3) := by decide +kernel
theorem dX12_seats_15 : decode cX12_seats 15 = .ok (.invokestatic 312, 3) := by decide +kernel
theorem dX12_seats_18 : decode cX12_seats 18 = .ok (.putfield 326, 3) := by decide +kernel
theorem dX12_seats_21 : decode cX12_seats 21 = .ok (.aload_n 0, 1) := by decide +kernel
theorem dX12_seats_22 : decode cX12_seats 22 = .ok (.iconst 0, 1) := by decide +kernel
theorem dX12_seats_23 : decode cX12_seats 23 = .ok (.aload_n 0, 1) := by decide +kernel
theorem dX12_seats_24 : decode cX12_seats 24 = .ok (.invokevirtual 309, 3) := by decide +kernel
theorem dX12_seats_27 : decode cX12_seats 27 = .ok (.iconst 0, 1) := by decide +kernel
theorem dX12_seats_28 : decode cX12_seats 28 = .ok (.invokevirtual 323, 3) := by decide +kernel
theorem dX12_seats_31 : decode cX12_seats 31 = .ok (.aload_n 0, 1) := by decide +kernel
theorem dX12_seats_32 : decode cX12_seats 32 = .ok (.getfield 320, 3) := by decide +kernel
theorem dX12_seats_35 : decode cX12_seats 35 = .ok (.ireturn, 1) := by decide +kernel
theorem dX12_sentence_0 : decode cX12_sentence 0 = .ok (.aload_n 0, 1) := by decide +kernel
theorem dX12_sentence_1 : decode cX12_sentence 1 = .ok (.sipush 200, 3) := by decide +kernel
theorem dX12_sentence_4 : decode cX12_sentence 4 = .ok (.invokevirtual 216, 3) := by decide +kernel
theorem dX12_sentence_7 : decode cX12_sentence 7 = .ok (.aload_n 0, 1) := by decide +kernel
theorem dX12_sentence_8 : decode cX12_sentence 8 = .ok (.iconst 0, 1) := by decide +kernel
theorem dX12_sentence_9 : decode cX12_sentence 9 = .ok (.putfield 380, 3) := by decide +kernel
theorem dX12_sentence_12 : decode cX12_sentence 12 = .ok (.aload_n 0, 1) := by decide +kernel
theorem dX12_sentence_13 : decode cX12_sentence 13 = .ok (.iconst 0, 1) := by decide +kernel
theorem dX12_sentence_14 : decode cX12_sentence 14 = .ok (.putfield 395, 3) := by decide +kernel
theorem dX12_sentence_17 : decode cX12_sentence 17 = .ok (.aload_n 0, 1) := by decide +kernel
theorem dX12_sentence_18 : decode cX12_sentence 18 = .ok (.iconst 0, 1) := by decide +kernel
theorem dX12_sentence_19 : decode cX12_sentence 19 = .ok (.putfield 398, 3) := by decide +kernel
theorem dX12_sentence_22 : decode cX12_sentence 22 = .ok (.aload_n 0, 1) := by decide +kernel
theorem dX12_sentence_23 : decode cX12_sentence 23 = .ok (.invokevirtual 413, 3) := by decide +kernel
theorem dX12_sentence_26 : decode cX12_sentence 26 = .ok (.ifCond .ne 10, 3) := by decide +kernel
theorem dX12_sentence_29 : decode cX12_sentence 29 = .ok (.iconst (-1), 1) := by decide +kernel
theorem dX12_sentence_30 : decode cX12_sentence 30 = .ok (.aload_n 0, 1) := by decide +kernel
theorem dX12_sentence_31 : decode cX12_sentence 31 = .ok (.getfield 143, 3) := by decide +kernel
theorem dX12_sentence_34 : decode cX12_sentence 34 = .ok (.isub, 1) := by decide +kernel
theorem dX12_sentence_35 : decode cX12_sentence 35 = .ok (.ireturn, 1) := by decide +kernel
theorem dX12_serve_0 : decode cX12_serve 0 = .ok (.aload_n 0, 1) := by decide +kernel
theorem dX12_serve_1 : decode cX12_serve 1 = .ok (.iconst 0, 1) := by decide +kernel
theorem dX12_serve_2 : decode cX12_serve 2 = .ok (.putfield 82, 3) := by decide +kernel
theorem dX12_serve_5 : decode cX12_serve 5 = .ok (.aload_n 0, 1) := by decide +kernel
theorem dX12_serve_6 : decode cX12_serve 6 = .ok (.iload_n 1, 1) := by decide +kernel
theorem dX12_serve_7 : decode cX12_serve 7 = .ok (.invokevirtual 238, 3) := by decide +kernel
theorem dX12_serve_10 : decode cX12_serve 10 = .ok (.ifCond .eq 32, 3) := by decide +kernel
theorem dX12_serve_42 : decode cX12_serve 42 = .ok (.iconst (-1), 1) := by decide +kernel
theorem dX12_serve_43 : decode cX12_serve 43 = .ok (.ireturn, 1) := by decide +kernel
theorem dX12_share_0 : decode cX12_share 0 = .ok (.aload_n 0, 1) := by decide +kernel
theorem dX12_share_1 : decode cX12_share 1 = .ok (.iconst 0, 1) := by decide +kernel
theorem dX12_share_2 : decode cX12_share 2 = .ok (.putfield 82, 3) := by decide +kernel
theorem dX12_share_5 : decode cX12_share 5 = .ok (.aload_n 0, 1) := by decide +kernel
theorem dX12_share_6 : decode cX12_share 6 = .ok (.iload_n 1, 1) := by decide +kernel
theorem dX12_share_7 : decode cX12_share 7 = .ok (.invokevirtual 250, 3) := by decide +kernel
theorem dX12_share_10 : decode cX12_share 10 = .ok (.ifCond .eq 35, 3) := by decide +kernel
theorem dX12_share_45 : decode cX12_share 45 = .ok (.iconst (-1), 1) := by decide +kernel
theorem dX12_share_46 : decode cX12_share 46 = .ok (.ireturn, 1) := by decide +kernel
theorem dX12_surely_0 : decode cX12_surely 0 = .ok (.aload_n 0, 1) := by decide +kernel
theorem dX12_surely_1 : decode cX12_surely 1 = .ok (.iconst 0, 1) := by decide +kernel
theorem dX12_surely_2 : decode cX12_surely 2 = .ok (.putfield 82, 3) := by decide +kernel
theorem dX12_surely_5 : decode cX12_surely 5 = .ok (.aload_n 0, 1) := by decide +kernel
theorem dX12_surely_6 : decode cX12_surely 6 = .ok (.getfield 54, 3) := by decide +kernel
theorem dX12_surely_9 : decode cX12_surely 9 = .ok (.ireturn, 1) := by decide +kernel
theorem dX12_table_0 : decode cX12_table 0 = .ok (.aload_n 0, 1) := by decide +kernel
theorem dX12_table_1 : decode cX12_table 1 = .ok (.sipush 900, 3) := by decide +kernel
theorem dX12_table_4 : decode cX12_table 4 = .ok (.invokevirtual 216, 3) := by decide +kernel
theorem dX12_table_7 : decode cX12_table 7 = .ok (.iconst 0, 1) := by decide +kernel
theorem dX12_table_8 : decode cX12_table 8 = .ok (.istore_n 1, 1) := by decide +kernel
theorem dX12_table_9 : decode cX12_table 9 = .ok (.iload_n 1, 1) := by decide +kernel
theorem dX12_table_10 : decode cX12_table 10 = .ok (.bipush 72, 2) := by decide +kernel
theorem dX12_table_12 : decode cX12_table 12 = .ok (.if_icmp .ge 16, 3) := by decide +kernel
theorem dX12_table_15 : decode cX12_table 15 = .ok (.aload_n 0, 1) := by decide +kernel
theorem dX12_table_16 : decode cX12_table 16 = .ok (.getfield 16, 3) := by decide +kernel
theorem dX12_table_19 : decode cX12_table 19 = .ok (.iload_n 1, 1) := by decide +kernel
theorem dX12_table_20 : decode cX12_table 20 = .ok (.iconst 0, 1) := by decide +kernel
theorem dX12_table_21 : decode cX12_table 21 = .ok (.iastore, 1) := by decide +kernel
theorem dX12_table_22 : decode cX12_table 22 = .ok (.iinc 1 1, 3) := by decide +kernel
theorem dX12_table_25 : decode cX12_table 25 = .ok (.goto (-16), 3) := by decide +kernel
theorem dX12_table_28 : decode cX12_table 28 = .ok (.aload_n 0, 1) := by decide +kernel
theorem dX12_table_29 : decode cX12_table 29 = .ok (.iconst 0, 1) := by decide +kernel
theorem dX12_table_30 : decode cX12_table 30 = .ok (.putfield 197, 3) := by decide +kernel
theorem dX12_table_33 : decode cX12_table 33 = .ok (.aload_n 0, 1) := by decide +kernel
theorem dX12_table_34 : decode cX12_table 34 = .ok (.iconst 0, 1) := by decide +kernel
theorem dX12_table_35 : decode cX12_table 35 = .ok (.putfield 213, 3) := by decide +kernel
theorem dX12_table_38 : decode cX12_table 38 = .ok (.iconst 0, 1) := by decide +kernel
theorem dX12_table_39 : decode cX12_table 39 = .ok (.istore_n 1, 1) := by decide +kernel
theorem dX12_table_40 : decode cX12_table 40 = .ok (.aload_n 0, 1) := by decide +kernel
theorem dX12_table_41 : decode cX12_table 41 = .ok (.getfield 104, 3) := by decide +kernel
theorem dX12_table_44 : decode cX12_table 44 = .ok (.ifCond .eq 30, 3) := by decide +kernel
theorem dX12_table_74 : decode cX12_table 74 = .ok (.iconst 0, 1) := by decide +kernel
theorem dX12_table_75 : decode cX12_table 75 = .ok (.istore_n 2, 1) := by decide +kernel
theorem dX12_table_76 : decode cX12_table 76 = .ok (.iload_n 2, 1) := by decide +kernel
theorem dX12_table_77 : decode cX12_table 77 = .ok (.bipush 72, 2) := by decide +kernel
theorem dX12_table_79 : decode cX12_table 79 = .ok (.if_icmp .ge 21, 3) := by decide +kernel
theorem dX12_table_82 : decode cX12_table 82 = .ok (.aload_n 0, 1) := by decide +kernel
theorem dX12_table_83 : decode cX12_table 83 = .ok (.getfield 13, 3) := by decide +kernel
theorem dX12_table_86 : decode cX12_table 86 = .ok (.iload_n 2, 1) := by decide +kernel
theorem dX12_table_87 : decode cX12_table 87 = .ok (.aload_n 0, 1) := by decide +kernel
theorem dX12_table_88 : decode cX12_table 88 = .ok (.getfield 16, 3) := by decide +kernel
theorem dX12_table_91 : decode cX12_table 91 = .ok (.iload_n 2, 1) := by decide +kernel
theorem dX12_table_92 : decode cX12_table 92 = .ok (.iaload, 1) := by decide +kernel
theorem dX12_table_93 : decode cX12_table 93 = .ok (.iastore, 1) := by decide +kernel
theorem dX12_table_94 : decode cX12_table 94 = .ok (.iinc 2 1, 3) := by decide +kernel
theorem dX12_table_97 : decode cX12_table 97 = .ok (.goto (-21), 3) := by decide +kernel
theorem dX12_table_100 : decode cX12_table 100 = .ok (.iconst 0, 1) := by decide +kernel
theorem dX12_table_101 : decode cX12_table 101 = .ok (.istore_n 2, 1) := by decide +kernel
theorem dX12_table_102 : decode cX12_table 102 = .ok (.iload_n 2, 1) := by decide +kernel
theorem dX12_table_103 : decode cX12_table 103 = .ok (.bipush 13, 2) := by decide +kernel
theorem dX12_table_105 : decode cX12_table 105 = .ok (.if_icmp .ge 21, 3) := by decide +kernel
theorem dX12_table_108 : decode cX12_table 108 = .ok (.aload_n 0, 1) := by decide +kernel
theorem dX12_table_109 : decode cX12_table 109 = .ok (.getfield 28, 3) := by decide +kernel
theorem dX12_table_112 : decode cX12_table 112 = .ok (.iload_n 2, 1) := by decide +kernel
theorem dX12_table_113 : decode cX12_table 113 = .ok (.aload_n 0, 1) := by decide +kernel
theorem dX12_table_114 : decode cX12_table 114 = .ok (.getfield 32, 3) := by decide +kernel
theorem dX12_table_117 : decode cX12_table 117 = .ok (.iload_n 2, 1) := by decide +kernel
theorem dX12_table_118 : decode cX12_table 118 = .ok (.laload, 1) := by decide +kernel
theorem dX12_table_119 : decode cX12_table 119 = .ok (.lastore, 1) := by decide +kernel
theorem dX12_table_120 : decode cX12_table 120 = .ok (.iinc 2 1, 3) := by decide +kernel
theorem dX12_table_123 : decode cX12_table 123 = .ok (.goto (-21), 3) := by decide +kernel
theorem dX12_table_126 : decode cX12_table 126 = .ok (.aload_n 0, 1) := by decide +kernel
theorem dX12_table_127 : decode cX12_table 127 = .ok (.invokevirtual 225, 3) := by decide +kernel
theorem dX12_table_130 : decode cX12_table 130 = .ok (.aload_n 0, 1) := by decide +kernel
theorem dX12_table_131 : decode cX12_table 131 = .ok (.iconst 0, 1) := by decide +kernel
theorem dX12_table_132 : decode cX12_table 132 = .ok (.putfield 228, 3) := by decide +kernel
theorem dX12_table_135 : decode cX12_table 135 = .ok (.iload_n 1, 1) := by decide +kernel
theorem dX12_table_136 : decode cX12_table 136 = .ok (.ireturn, 1) := by decide +kernel
theorem dX12_told_0 : decode cX12_told 0 = .ok (.aload_n 0, 1) := by decide +kernel
theorem dX12_told_1 : decode cX12_told 1 = .ok (.iconst 0, 1) := by decide +kernel
theorem dX12_told_2 : decode cX12_told 2 = .ok (.putfield 82, 3) := by decide +kernel
theorem dX12_told_5 : decode cX12_told 5 = .ok (.aload_n 0, 1) := by decide +kernel
theorem dX12_told_6 : decode cX12_told 6 = .ok (.getfield 373, 3) := by decide +kernel
theorem dX12_told_9 : decode cX12_told 9 = .ok (.ifCond .eq 21, 3) := by decide +kernel
theorem dX12_told_30 : decode cX12_told 30 = .ok (.iconst (-1), 1) := by decide +kernel
theorem dX12_told_31 : decode cX12_told 31 = .ok (.ireturn, 1) := by decide +kernel
theorem dX12_undo_0 : decode cX12_undo 0 = .ok (.aload_n 0, 1) := by decide +kernel
theorem dX12_undo_1 : decode cX12_undo 1 = .ok (.iconst 0, 1) := by decide +kernel
theorem dX12_undo_2 : decode cX12_undo 2 = .ok (.putfield 82, 3) := by decide +kernel
theorem dX12_undo_5 : decode cX12_undo 5 = .ok (.aload_n 0, 1) := by decide +kernel
theorem dX12_undo_6 : decode cX12_undo 6 = .ok (.getfield 228, 3) := by decide +kernel
theorem dX12_undo_9 : decode cX12_undo 9 = .ok (.ifCond .ne 5, 3) := by decide +kernel
theorem dX12_undo_12 : decode cX12_undo 12 = .ok (.iconst (-1), 1) := by decide +kernel
theorem dX12_undo_13 : decode cX12_undo 13 = .ok (.ireturn, 1) := by decide +kernel
theorem dX12_will_0 : decode cX12_will 0 = .ok (.aload_n 0, 1) := by decide +kernel
theorem dX12_will_1 : decode cX12_will 1 = .ok (.iconst 0, 1) := by decide +kernel
theorem dX12_will_2 : decode cX12_will 2 = .ok (.putfield 82, 3) := by decide +kernel
theorem dX12_will_5 : decode cX12_will 5 = .ok (.aload_n 0, 1) := by decide +kernel
theorem dX12_will_6 : decode cX12_will 6 = .ok (.iload_n 1, 1) := by decide +kernel
theorem dX12_will_7 : decode cX12_will 7 = .ok (.invokevirtual 238, 3) := by decide +kernel
theorem dX12_will_10 : decode cX12_will 10 = .ok (.ifCond .ne 5, 3) := by decide +kernel
theorem dX12_will_13 : decode cX12_will 13 = .ok (.iconst (-1), 1) := by decide +kernel
theorem dX12_will_14 : decode cX12_will 14 = .ok (.ireturn, 1) := by decide +kernel
set_option maxRecDepth 100000 in
set_option maxHeartbeats 4000000 in
theorem u_feed {l : Launch} {D : va_G} {cy : Nat → ClassId} {L : List Nat} {κ ln : Nat → Nat} {R : Nat → Nat → Option Nat} {I : Nat → Nat → Int32} {J : Nat → Nat → Int64} {ow : Nat → Nat × Nat} (W9 : ∀ a ∈ L, Shp L κ ln R ow a) {x : Nat} (hLx : x ∈ L) (hkx : κ x = 12) (FZ : Fz_ L κ I) (a : Int32) (b : Int32) (c1 : Int32) (d : Int32) (e1 : Int32) : CtI l yX12_feed cX12_feed 6 (some .int) { frames := 5, cells := 0, slots := 0, locals := 320 } D cy L κ ln R I J [.ref x, .int a, .int b, .int c1, .int d, .int e1] (fun r _ _ => r = 20) := by
  refine CtI.of (by decide +kernel) (Nat.le_of_ble_eq_true rfl) ?_
  intro p e s m below meth c B K
  have C := B.1
  have Z14 := fz_Z FZ 14 (by decide) (by decide) (by decide)
  refine g_lo (is := [0, 1, 2, 3, 4, 5]) (lo2 := [(0, .ref x), (1, .int a), (2, .int b), (3, .int c1), (4, .int d), (5, .int e1)]) rfl ?_
  refine g_aload_n C 0 dX12_feed_0 rfl rfl ?_
  refine g_iconst C (v := 0) dX12_feed_1 (by decide) ?_
  refine h_putI C K hLx hkx f_12_82 p_12_0 dX12_feed_2 (fun I_1059 hI_1059 => ?_)
  refine g_aload_n C 0 dX12_feed_5 rfl rfl ?_
  refine g_getI C K hLx hkx f_12_85 (v := 0) (by rw [hI_1059, u2_j (by decide)]; exact (by rw [FZ x hLx 2, hkx]; rfl)) dX12_feed_6 ?_
  refine g_bipush C (v := 20) dX12_feed_9 (by decide) ?_
  refine g_iadd C (v := 20) dX12_feed_11 (by decide) ?_
  refine g_sipush C (v := 940) dX12_feed_12 (by decide) ?_
  refine t_icmp_le C (tgt := 20) (by decide) dX12_feed_15 (by decide) ?_
  refine g_aload_n C 0 dX12_feed_20 rfl rfl ?_
  refine g_iload_n C 1 dX12_feed_21 rfl rfl ?_
  refine g_callVV C K (c_Mod_come W9 hLx hkx (0) (by omega) (by rw [hI_1059, u2_j (by decide)]; exact (by rw [FZ x hLx 2, hkx]; rfl)) a) hLx hkx (by decide) rfl v_12_88 rfl ⟨rfl, rfl⟩ ⟨Nat.le_of_ble_eq_true rfl, Nat.le_of_ble_eq_true rfl⟩ (Nat.le_of_ble_eq_true rfl) ⟨Nat.le_of_ble_eq_true rfl, Nat.le_of_ble_eq_true rfl⟩ dX12_feed_22 rfl (st := []) (fun I_1060 J_1061 h_1062 => ?_)
  obtain ⟨rfl, v_1064⟩ := h_1062
  refine g_aload_n C 0 dX12_feed_25 rfl rfl ?_
  refine g_iload_n C 2 dX12_feed_26 rfl rfl ?_
  refine g_callVV C K (c_Mod_come W9 hLx hkx (0 + 4) (by omega) (v_1064) b) hLx hkx (by decide) rfl v_12_88 rfl ⟨rfl, rfl⟩ ⟨Nat.le_of_ble_eq_true rfl, Nat.le_of_ble_eq_true rfl⟩ (Nat.le_of_ble_eq_true rfl) ⟨Nat.le_of_ble_eq_true rfl, Nat.le_of_ble_eq_true rfl⟩ dX12_feed_27 rfl (st := []) (fun I_1065 J_1066 h_1067 => ?_)
  obtain ⟨rfl, v_1069⟩ := h_1067
  refine g_aload_n C 0 dX12_feed_30 rfl rfl ?_
  refine g_iload_n C 3 dX12_feed_31 rfl rfl ?_
  refine g_callVV C K (c_Mod_come W9 hLx hkx (0 + 4 + 4) (by omega) (v_1069) c1) hLx hkx (by decide) rfl v_12_88 rfl ⟨rfl, rfl⟩ ⟨Nat.le_of_ble_eq_true rfl, Nat.le_of_ble_eq_true rfl⟩ (Nat.le_of_ble_eq_true rfl) ⟨Nat.le_of_ble_eq_true rfl, Nat.le_of_ble_eq_true rfl⟩ dX12_feed_32 rfl (st := []) (fun I_1070 J_1071 h_1072 => ?_)
  obtain ⟨rfl, v_1074⟩ := h_1072
  refine g_aload_n C 0 dX12_feed_35 rfl rfl ?_
  refine g_iload C 4 dX12_feed_36 rfl ?_
  refine g_callVV C K (c_Mod_come W9 hLx hkx (0 + 4 + 4 + 4) (by omega) (v_1074) d) hLx hkx (by decide) rfl v_12_88 rfl ⟨rfl, rfl⟩ ⟨Nat.le_of_ble_eq_true rfl, Nat.le_of_ble_eq_true rfl⟩ (Nat.le_of_ble_eq_true rfl) ⟨Nat.le_of_ble_eq_true rfl, Nat.le_of_ble_eq_true rfl⟩ dX12_feed_38 rfl (st := []) (fun I_1075 J_1076 h_1077 => ?_)
  obtain ⟨rfl, v_1079⟩ := h_1077
  refine g_aload_n C 0 dX12_feed_41 rfl rfl ?_
  refine g_iload C 5 dX12_feed_42 rfl ?_
  refine g_callVV C K (c_Mod_come W9 hLx hkx (0 + 4 + 4 + 4 + 4) (by omega) (v_1079) e1) hLx hkx (by decide) rfl v_12_88 rfl ⟨rfl, rfl⟩ ⟨Nat.le_of_ble_eq_true rfl, Nat.le_of_ble_eq_true rfl⟩ (Nat.le_of_ble_eq_true rfl) ⟨Nat.le_of_ble_eq_true rfl, Nat.le_of_ble_eq_true rfl⟩ dX12_feed_44 rfl (st := []) (fun I_1080 J_1081 h_1082 => ?_)
  obtain ⟨rfl, v_1084⟩ := h_1082
  refine g_aload_n C 0 dX12_feed_47 rfl rfl ?_
  refine g_getI C K hLx hkx f_12_85 (v := nI (0 + 4 + 4 + 4 + 4 + 4)) (v_1084) dX12_feed_48 ?_
  exact g_zret (ty := .int) (r := nI (0 + 4 + 4 + 4 + 4 + 4)) B K rfl rfl (rfl) dX12_feed_51
set_option maxRecDepth 100000 in
set_option maxHeartbeats 4000000 in
theorem u_end {l : Launch} {D : va_G} {cy : Nat → ClassId} {L : List Nat} {κ ln : Nat → Nat} {R : Nat → Nat → Option Nat} {I : Nat → Nat → Int32} {J : Nat → Nat → Int64} {ow : Nat → Nat × Nat} (W9 : ∀ a ∈ L, Shp L κ ln R ow a) {x : Nat} (hLx : x ∈ L) (hkx : κ x = 12) (FZ : Fz_ L κ I) (n : Int32) : CtI l yX12_end cX12_end 2 (some .boolean) { frames := 5, cells := 0, slots := 0, locals := 320 } D cy L κ ln R I J [.ref x, .int n] (fun r _ _ => r = if 0 ≤ n ∧ n ≤ 0 then 1 else 0) := by
  refine CtI.of (by decide +kernel) (Nat.le_of_ble_eq_true rfl) ?_
  intro p e s m below meth c B K
  have C := B.1
  have Z14 := fz_Z FZ 14 (by decide) (by decide) (by decide)
  refine g_lo (is := [0, 1]) (lo2 := [(0, .ref x), (1, .int n)]) rfl ?_
  refine g_aload_n C 0 dX12_end_0 rfl rfl ?_
  refine g_iconst C (v := 0) dX12_end_1 (by decide) ?_
  refine h_putI C K hLx hkx f_12_82 p_12_0 dX12_end_2 (fun I_1085 hI_1085 => ?_)
  refine g_iload_n C 1 dX12_end_5 rfl rfl ?_
  refine g_if_lt C (tgt := 17) dX12_end_6 (by decide) (fun h_1086 => ?_) (fun h_1086 => ?_)
  · skip
    refine g_iconst C (v := 0) dX12_end_17 (by decide) ?_
    exact g_zret (ty := .boolean) (r := 0) B K rfl (by decide) (by first | exact p_in ⟨i32_lt_le (by assumption), by assumption⟩ | exact p_hi (Int32.not_le.mp (by assumption)) | exact p_lo (by assumption)) dX12_end_18
  · skip
    refine g_iload_n C 1 dX12_end_9 rfl rfl ?_
    refine g_aload_n C 0 dX12_end_10 rfl rfl ?_
    refine g_getI C K hLx hkx f_12_85 (v := 0) (by rw [hI_1085, u2_j (by decide)]; exact (by rw [FZ x hLx 2, hkx]; rfl)) dX12_end_11 ?_
    refine g_icmp_le C (tgt := 19) dX12_end_14 (by decide) (fun h_1087 => ?_) (fun h_1087 => ?_)
    · skip
      refine g_aload_n C 0 dX12_end_19 rfl rfl ?_
      refine g_iload_n C 1 dX12_end_20 rfl rfl ?_
      refine h_putI C K hLx hkx f_12_85 p_12_2 dX12_end_21 (fun I_1088 hI_1088 => ?_)
      refine g_iconst C (v := 1) dX12_end_24 (by decide) ?_
      exact g_zret (ty := .boolean) (r := 1) B K rfl (by decide) (by first | exact p_in ⟨i32_lt_le (by assumption), by assumption⟩ | exact p_hi (Int32.not_le.mp (by assumption)) | exact p_lo (by assumption)) dX12_end_25
    · skip
      refine g_iconst C (v := 0) dX12_end_17 (by decide) ?_
      exact g_zret (ty := .boolean) (r := 0) B K rfl (by decide) (by first | exact p_in ⟨i32_lt_le (by assumption), by assumption⟩ | exact p_hi (Int32.not_le.mp (by assumption)) | exact p_lo (by assumption)) dX12_end_18
set_option maxRecDepth 100000 in
set_option maxHeartbeats 4000000 in
theorem u_table {l : Launch} {D : va_G} {cy : Nat → ClassId} {L : List Nat} {κ ln : Nat → Nat} {R : Nat → Nat → Option Nat} {I : Nat → Nat → Int32} {J : Nat → Nat → Int64} {ow : Nat → Nat × Nat} (W9 : ∀ a ∈ L, Shp L κ ln R ow a) {x : Nat} (hLx : x ∈ L) (hkx : κ x = 12) (FZ : Fz_ L κ I) : CtI l yX12_table cX12_table 3 (some .int) { frames := 5, cells := 0, slots := 0, locals := 320 } D cy L κ ln R I J [.ref x] (fun r _ _ => r = 0) := by
  refine CtI.of (by decide +kernel) (Nat.le_of_ble_eq_true rfl) ?_
  intro p e s m below meth c B K
  have C := B.1
  have Z14 := fz_Z FZ 14 (by decide) (by decide) (by decide)
  refine g_lo (is := [0]) (lo2 := [(0, .ref x)]) rfl ?_
  refine g_aload_n C 0 dX12_table_0 rfl rfl ?_
  refine g_sipush C (v := 900) dX12_table_1 (by decide) ?_
  refine g_callVV C K (m_begin0_900 hLx hkx ((by rw [FZ x hLx 2, hkx]; rfl))) hLx hkx (by decide) rfl v_12_216 rfl ⟨rfl, rfl⟩ ⟨Nat.le_of_ble_eq_true rfl, Nat.le_of_ble_eq_true rfl⟩ (Nat.le_of_ble_eq_true rfl) ⟨Nat.le_of_ble_eq_true rfl, Nat.le_of_ble_eq_true rfl⟩ dX12_table_4 rfl (st := []) (fun I_1089 J_1090 h_1091 => ?_)
  obtain ⟨rfl, f_1093, v_1095, v_1096, v_1097⟩ := h_1091
  refine g_iconst C (v := 0) dX12_table_7 (by decide) ?_
  refine g_istore_n C dX12_table_8 rfl (by decide) (lo2 := [(1, .int 0), (0, .ref x)]) rfl ?_
  have lp_1105 : ∀ (n_1101 i_1100 : Nat) (I_1098 : Nat → Nat → Int32) (J_1099 : Nat → Nat → Int64), i_1100 + n_1101 = 72 → J = J_1099 → Fk κ [14] I_1089 I_1098 → WG p l e { frames := 5, cells := 0, slots := 0, locals := 320 } s m ([.ref x] : List Value).toArray below meth c 3 0 0 (MQ below (Qi_ D cy L κ ln R (fun r _ _ => r = 0)) ([.ref x] : List Value).toArray s 0 0 (Al_ L)) D cy (Al_ L) s.heap L κ ln R I_1098 J_1099 9 [(1, .int (nI i_1100)), (0, .ref x)] [] := by
    intro n_1101
    induction n_1101 with
    | zero =>
      intro i_1100 I_1098 J_1099 hi_1104 e9 F_1102
      subst e9
      refine g_iload_n C 0 dX12_table_9 rfl rfl ?_
      refine g_bipush C (v := 72) dX12_table_10 (by decide) ?_
      refine t_icmp_ge C (tgt := 28) (lt_ge (n := i_1100) (k := 72) (by omega) (by omega)) dX12_table_12 (by decide) ?_
      refine g_aload_n C 1 dX12_table_28 rfl rfl ?_
      refine g_iconst C (v := 0) dX12_table_29 (by decide) ?_
      refine h_putZ C K hLx hkx f_12_197 p_12_24 (Or.inl rfl) dX12_table_30 (fun I_1106 hI_1106 => ?_)
      refine g_aload_n C 1 dX12_table_33 rfl rfl ?_
      refine g_iconst C (v := 0) dX12_table_34 (by decide) ?_
      refine h_putZ C K hLx hkx f_12_213 p_12_25 (Or.inl rfl) dX12_table_35 (fun I_1107 hI_1107 => ?_)
      refine g_iconst C (v := 0) dX12_table_38 (by decide) ?_
      refine g_istore_n C dX12_table_39 rfl (by decide) (lo2 := [(1, .int 0), (0, .ref x)]) rfl ?_
      refine g_aload_n C 1 dX12_table_40 rfl rfl ?_
      refine g_getI C K hLx hkx f_12_104 (v := 0) (by rw [hI_1107, u2_j (by decide), hI_1106, u2_j (by decide), F_1102 x 7 (by rw [hkx]; decide)]; exact v_1096) dX12_table_41 ?_
      refine t_if_eq C (tgt := 74) (by decide) dX12_table_44 (by decide) ?_
      refine g_iconst C (v := 0) dX12_table_74 (by decide) ?_
      refine g_istore_n C dX12_table_75 rfl (by decide) (lo2 := [(2, .int 0), (1, .int 0), (0, .ref x)]) rfl ?_
      have lp_1115 : ∀ (n_1111 i_1110 : Nat) (I_1108 : Nat → Nat → Int32) (J_1109 : Nat → Nat → Int64), i_1110 + n_1111 = 72 → J = J_1109 → Fk κ [14] I_1107 I_1108 → WG p l e { frames := 5, cells := 0, slots := 0, locals := 320 } s m ([.ref x] : List Value).toArray below meth c 3 0 0 (MQ below (Qi_ D cy L κ ln R (fun r _ _ => r = 0)) ([.ref x] : List Value).toArray s 0 0 (Al_ L)) D cy (Al_ L) s.heap L κ ln R I_1108 J_1109 76 [(2, .int (nI i_1110)), (1, .int 0), (0, .ref x)] [] := by
        intro n_1111
        induction n_1111 with
        | zero =>
          intro i_1110 I_1108 J_1109 hi_1114 e9 F_1112
          subst e9
          refine g_iload_n C 0 dX12_table_76 rfl rfl ?_
          refine g_bipush C (v := 72) dX12_table_77 (by decide) ?_
          refine t_icmp_ge C (tgt := 100) (lt_ge (n := i_1110) (k := 72) (by omega) (by omega)) dX12_table_79 (by decide) ?_
          refine g_iconst C (v := 0) dX12_table_100 (by decide) ?_
          refine g_istore_n C dX12_table_101 rfl (by decide) (lo2 := [(2, .int 0), (1, .int 0), (0, .ref x)]) rfl ?_
          have lp_1123 : ∀ (n_1119 i_1118 : Nat) (I_1116 : Nat → Nat → Int32) (J_1117 : Nat → Nat → Int64), i_1118 + n_1119 = 13 → Fj κ [15] J J_1117 → Fk κ [] I_1108 I_1116 → WG p l e { frames := 5, cells := 0, slots := 0, locals := 320 } s m ([.ref x] : List Value).toArray below meth c 3 0 0 (MQ below (Qi_ D cy L κ ln R (fun r _ _ => r = 0)) ([.ref x] : List Value).toArray s 0 0 (Al_ L)) D cy (Al_ L) s.heap L κ ln R I_1116 J_1117 102 [(2, .int (nI i_1118)), (1, .int 0), (0, .ref x)] [] := by
            intro n_1119
            induction n_1119 with
            | zero =>
              intro i_1118 I_1116 J_1117 hi_1122 G_1121 F_1120
              refine g_iload_n C 0 dX12_table_102 rfl rfl ?_
              refine g_bipush C (v := 13) dX12_table_103 (by decide) ?_
              refine t_icmp_ge C (tgt := 126) (lt_ge (n := i_1118) (k := 13) (by omega) (by omega)) dX12_table_105 (by decide) ?_
              refine g_aload_n C 2 dX12_table_126 rfl rfl ?_
              refine g_callVV C K (m_startSo W9 hLx hkx) hLx hkx (by decide) rfl v_12_225 rfl ⟨rfl, rfl⟩ ⟨Nat.le_of_ble_eq_true rfl, Nat.le_of_ble_eq_true rfl⟩ (Nat.le_of_ble_eq_true rfl) ⟨Nat.le_of_ble_eq_true rfl, Nat.le_of_ble_eq_true rfl⟩ dX12_table_127 rfl (st := []) (fun I_1124 J_1125 h_1126 => ?_)
              obtain ⟨rfl, f_1128⟩ := h_1126
              refine g_aload_n C 2 dX12_table_130 rfl rfl ?_
              refine g_iconst C (v := 0) dX12_table_131 (by decide) ?_
              refine h_putI C K hLx hkx f_12_228 p_12_23 dX12_table_132 (fun I_1130 hI_1130 => ?_)
              refine g_iload_n C 1 dX12_table_135 rfl rfl ?_
              exact g_zret (ty := .int) (r := 0) B K rfl rfl (rfl) dX12_table_136
            | succ n_1119 ihn_1119 =>
              intro i_1118 I_1116 J_1117 hi_1122 G_1121 F_1120
              refine g_iload_n C 0 dX12_table_102 rfl rfl ?_
              refine g_bipush C (v := 13) dX12_table_103 (by decide) ?_
              refine n_icmp_ge C (tgt := 126) (ln_ge (n := i_1118) (k := 13) (by omega) (by omega)) dX12_table_105 (by decide) ?_
              refine g_aload_n C 2 dX12_table_108 rfl rfl ?_
              obtain ⟨b_1131, hb_1131, hb_1131L, hb_1131k, hb_1131n, hb_1131o⟩ := shp_a (W9 x hLx) hkx 19 15 13 rfl (by decide)
              refine g_getR C K hLx hkx f_12_28 hb_1131 dX12_table_109 ?_
              refine g_iload_n C 0 dX12_table_112 rfl rfl ?_
              refine g_aload_n C 2 dX12_table_113 rfl rfl ?_
              obtain ⟨b_1132, hb_1132, hb_1132L, hb_1132k, hb_1132n, hb_1132o⟩ := shp_a (W9 x hLx) hkx 20 15 13 rfl (by decide)
              refine g_getR C K hLx hkx f_12_32 hb_1132 dX12_table_114 ?_
              refine g_iload_n C 0 dX12_table_117 rfl rfl ?_
              obtain ⟨x_1133, hx_1133⟩ : ∃ z, J_1117 b_1132 (i_1118) = z := ⟨_, rfl⟩
              refine h_lald C K hb_1132L hb_1132k (v := x_1133) (i_1118) (nI_clamp (by omega)) (nI_pos (by omega)) (by rw [hb_1132n]; omega) (hx_1133) dX12_table_118 ?_
              refine h_last C K hb_1131L hb_1131k (i_1118) (nI_clamp (by omega)) (nI_pos (by omega)) (by rw [hb_1131n]; omega) dX12_table_119 (fun J_1134 hJ_1134 => ?_)
              refine g_iinc C dX12_table_120 (k := 0) (v := nI (i_1118 + 1)) rfl (nI_1 (i_1118)) (by decide) (lo2 := [(2, .int (nI (i_1118 + 1))), (1, .int 0), (0, .ref x)]) rfl ?_
              refine g_goto C (tgt := 102) dX12_table_123 (by decide) ?_
              refine g_lo (is := [0, 1, 2]) (lo2 := [(2, .int (nI (i_1118 + 1))), (1, .int 0), (0, .ref x)]) rfl ?_
              exact ihn_1119 (i_1118 + 1) I_1116 J_1134 (by omega) ((G_1121).u2 hJ_1134 hb_1131k (by decide)) (F_1120)
          exact lp_1123 (13 - 0) 0 I_1108 J (by omega) Fj.rf Fk.rf
        | succ n_1111 ihn_1111 =>
          intro i_1110 I_1108 J_1109 hi_1114 e9 F_1112
          subst e9
          refine g_iload_n C 0 dX12_table_76 rfl rfl ?_
          refine g_bipush C (v := 72) dX12_table_77 (by decide) ?_
          refine n_icmp_ge C (tgt := 100) (ln_ge (n := i_1110) (k := 72) (by omega) (by omega)) dX12_table_79 (by decide) ?_
          refine g_aload_n C 2 dX12_table_82 rfl rfl ?_
          obtain ⟨b_1135, hb_1135, hb_1135L, hb_1135k, hb_1135n, hb_1135o⟩ := shp_a (W9 x hLx) hkx 14 14 389 rfl (by decide)
          refine g_getR C K hLx hkx f_12_13 hb_1135 dX12_table_83 ?_
          refine g_iload_n C 0 dX12_table_86 rfl rfl ?_
          refine g_aload_n C 2 dX12_table_87 rfl rfl ?_
          obtain ⟨b_1136, hb_1136, hb_1136L, hb_1136k, hb_1136n, hb_1136o⟩ := shp_a (W9 x hLx) hkx 15 14 72 rfl (by decide)
          refine g_getR C K hLx hkx f_12_16 hb_1136 dX12_table_88 ?_
          refine g_iload_n C 0 dX12_table_91 rfl rfl ?_
          obtain ⟨x_1137, hx_1137⟩ : ∃ z, I_1108 b_1136 (i_1110) = z := ⟨_, rfl⟩
          refine h_iald C K hb_1136L hb_1136k (v := x_1137) (i_1110) (nI_clamp (by omega)) (nI_pos (by omega)) (by rw [hb_1136n]; omega) (hx_1137) dX12_table_92 ?_
          refine h_iast C K hb_1135L hb_1135k (i_1110) (nI_clamp (by omega)) (nI_pos (by omega)) (by rw [hb_1135n]; omega) dX12_table_93 (fun I_1138 hI_1138 => ?_)
          refine g_iinc C dX12_table_94 (k := 0) (v := nI (i_1110 + 1)) rfl (nI_1 (i_1110)) (by decide) (lo2 := [(2, .int (nI (i_1110 + 1))), (1, .int 0), (0, .ref x)]) rfl ?_
          refine g_goto C (tgt := 76) dX12_table_97 (by decide) ?_
          refine g_lo (is := [0, 1, 2]) (lo2 := [(2, .int (nI (i_1110 + 1))), (1, .int 0), (0, .ref x)]) rfl ?_
          exact ihn_1111 (i_1110 + 1) I_1138 J (by omega) rfl ((F_1112).u2 hI_1138 hb_1135k (by decide))
      exact lp_1115 (72 - 0) 0 I_1107 J (by omega) rfl Fk.rf
    | succ n_1101 ihn_1101 =>
      intro i_1100 I_1098 J_1099 hi_1104 e9 F_1102
      subst e9
      refine g_iload_n C 0 dX12_table_9 rfl rfl ?_
      refine g_bipush C (v := 72) dX12_table_10 (by decide) ?_
      refine n_icmp_ge C (tgt := 28) (ln_ge (n := i_1100) (k := 72) (by omega) (by omega)) dX12_table_12 (by decide) ?_
      refine g_aload_n C 1 dX12_table_15 rfl rfl ?_
      obtain ⟨b_1139, hb_1139, hb_1139L, hb_1139k, hb_1139n, hb_1139o⟩ := shp_a (W9 x hLx) hkx 15 14 72 rfl (by decide)
      refine g_getR C K hLx hkx f_12_16 hb_1139 dX12_table_16 ?_
      refine g_iload_n C 0 dX12_table_19 rfl rfl ?_
      refine g_iconst C (v := 0) dX12_table_20 (by decide) ?_
      refine h_iast C K hb_1139L hb_1139k (i_1100) (nI_clamp (by omega)) (nI_pos (by omega)) (by rw [hb_1139n]; omega) dX12_table_21 (fun I_1140 hI_1140 => ?_)
      refine g_iinc C dX12_table_22 (k := 0) (v := nI (i_1100 + 1)) rfl (nI_1 (i_1100)) (by decide) (lo2 := [(1, .int (nI (i_1100 + 1))), (0, .ref x)]) rfl ?_
      refine g_goto C (tgt := 9) dX12_table_25 (by decide) ?_
      refine g_lo (is := [0, 1]) (lo2 := [(1, .int (nI (i_1100 + 1))), (0, .ref x)]) rfl ?_
      exact ihn_1101 (i_1100 + 1) I_1140 J (by omega) rfl ((F_1102).u2 hI_1140 hb_1139k (by decide))
  exact lp_1105 (72 - 0) 0 I_1089 J (by omega) rfl Fk.rf
set_option maxRecDepth 100000 in
set_option maxHeartbeats 4000000 in
theorem u_fault {l : Launch} {D : va_G} {cy : Nat → ClassId} {L : List Nat} {κ ln : Nat → Nat} {R : Nat → Nat → Option Nat} {I : Nat → Nat → Int32} {J : Nat → Nat → Int64} {ow : Nat → Nat × Nat} (W9 : ∀ a ∈ L, Shp L κ ln R ow a) {x : Nat} (hLx : x ∈ L) (hkx : κ x = 12) (FZ : Fz_ L κ I) : CtI l yX12_fault cX12_fault 1 (some .int) { frames := 5, cells := 0, slots := 0, locals := 320 } D cy L κ ln R I J [.ref x] (fun r _ _ => r = 0) := by
  refine CtI.of (by decide +kernel) (Nat.le_of_ble_eq_true rfl) ?_
  intro p e s m below meth c B K
  have C := B.1
  have Z14 := fz_Z FZ 14 (by decide) (by decide) (by decide)
  refine g_lo (is := [0]) (lo2 := [(0, .ref x)]) rfl ?_
  refine g_aload_n C 0 dX12_fault_0 rfl rfl ?_
  refine g_iconst C (v := 0) dX12_fault_1 (by decide) ?_
  refine h_putI C K hLx hkx f_12_82 p_12_0 dX12_fault_2 (fun I_1141 hI_1141 => ?_)
  refine g_aload_n C 0 dX12_fault_5 rfl rfl ?_
  refine g_getI C K hLx hkx f_12_140 (v := 0) (by rw [hI_1141, u2_j (by decide)]; exact (by rw [FZ x hLx 10, hkx]; rfl)) dX12_fault_6 ?_
  exact g_zret (ty := .int) (r := 0) B K rfl rfl (rfl) dX12_fault_9
set_option maxRecDepth 100000 in
set_option maxHeartbeats 4000000 in
theorem u_person {l : Launch} {D : va_G} {cy : Nat → ClassId} {L : List Nat} {κ ln : Nat → Nat} {R : Nat → Nat → Option Nat} {I : Nat → Nat → Int32} {J : Nat → Nat → Int64} {ow : Nat → Nat × Nat} (W9 : ∀ a ∈ L, Shp L κ ln R ow a) {x : Nat} (hLx : x ∈ L) (hkx : κ x = 12) (FZ : Fz_ L κ I) (p1 : Int32) (w : Int32) : CtI l yX12_person cX12_person 5 (some .int) { frames := 5, cells := 0, slots := 0, locals := 320 } D cy L κ ln R I J [.ref x, .int p1, .int w] (fun r I2 J2 => Fk κ [12] I I2 ∧ I2 x 0 = 1 ∧ r = 0) := by
  refine CtI.of (by decide +kernel) (Nat.le_of_ble_eq_true rfl) ?_
  intro p e s m below meth c B K
  have C := B.1
  have Z14 := fz_Z FZ 14 (by decide) (by decide) (by decide)
  refine g_lo (is := [0, 1, 2]) (lo2 := [(0, .ref x), (1, .int p1), (2, .int w)]) rfl ?_
  refine g_aload_n C 0 dX12_person_0 rfl rfl ?_
  refine g_iconst C (v := 0) dX12_person_1 (by decide) ?_
  refine h_putI C K hLx hkx f_12_82 p_12_0 dX12_person_2 (fun I_1142 hI_1142 => ?_)
  refine g_aload_n C 0 dX12_person_5 rfl rfl ?_
  refine g_iload_n C 1 dX12_person_6 rfl rfl ?_
  refine g_callVI C K (m_isPerson0 W9 hLx hkx ((Z14).u2 hI_1142 rfl) p1) hLx hkx (by decide) rfl v_12_238 rfl ⟨rfl, rfl⟩ ⟨Nat.le_of_ble_eq_true rfl, Nat.le_of_ble_eq_true rfl⟩ (Nat.le_of_ble_eq_true rfl) ⟨Nat.le_of_ble_eq_true rfl, Nat.le_of_ble_eq_true rfl⟩ dX12_person_7 rfl (st := []) (fun r_1146 I_1143 J_1144 h_1145 => ?_)
  obtain ⟨rfl, rfl, er_1146⟩ := h_1145
  have h0r_1146 := er_1146
  subst er_1146
  refine n_if_ne C (tgt := 18) (by decide) dX12_person_10 (by decide) ?_
  refine g_aload_n C 0 dX12_person_13 rfl rfl ?_
  refine g_callVI C K (m_refuse hLx hkx) hLx hkx (by decide) rfl v_12_241 rfl ⟨rfl, rfl⟩ ⟨Nat.le_of_ble_eq_true rfl, Nat.le_of_ble_eq_true rfl⟩ (Nat.le_of_ble_eq_true rfl) ⟨Nat.le_of_ble_eq_true rfl, Nat.le_of_ble_eq_true rfl⟩ dX12_person_14 rfl (st := []) (fun r_1150 I_1147 J_1148 h_1149 => ?_)
  obtain ⟨rfl, f_1151, v_1153, rfl⟩ := h_1149
  exact g_zret (ty := .int) (r := 0) B K rfl rfl (⟨((Fk.rf).u2 hI_1142 hkx (by decide)).tr f_1151 (by decide), v_1153, rfl⟩) dX12_person_17
set_option maxRecDepth 100000 in
set_option maxHeartbeats 4000000 in
theorem u_plate {l : Launch} {D : va_G} {cy : Nat → ClassId} {L : List Nat} {κ ln : Nat → Nat} {R : Nat → Nat → Option Nat} {I : Nat → Nat → Int32} {J : Nat → Nat → Int64} {ow : Nat → Nat × Nat} (W9 : ∀ a ∈ L, Shp L κ ln R ow a) {x : Nat} (hLx : x ∈ L) (hkx : κ x = 12) (FZ : Fz_ L κ I) (p1 : Int32) (d : Int32) : CtI l yX12_plate cX12_plate 3 (some .int) { frames := 5, cells := 0, slots := 0, locals := 320 } D cy L κ ln R I J [.ref x, .int p1, .int d] (fun r _ _ => r = -1) := by
  refine CtI.of (by decide +kernel) (Nat.le_of_ble_eq_true rfl) ?_
  intro p e s m below meth c B K
  have C := B.1
  have Z14 := fz_Z FZ 14 (by decide) (by decide) (by decide)
  refine g_lo (is := [0, 1, 2]) (lo2 := [(0, .ref x), (1, .int p1), (2, .int d)]) rfl ?_
  refine g_aload_n C 0 dX12_plate_0 rfl rfl ?_
  refine g_iconst C (v := 0) dX12_plate_1 (by decide) ?_
  refine h_putI C K hLx hkx f_12_82 p_12_0 dX12_plate_2 (fun I_1154 hI_1154 => ?_)
  refine g_aload_n C 0 dX12_plate_5 rfl rfl ?_
  refine g_iload_n C 1 dX12_plate_6 rfl rfl ?_
  refine g_callVI C K (m_isPerson0 W9 hLx hkx ((Z14).u2 hI_1154 rfl) p1) hLx hkx (by decide) rfl v_12_238 rfl ⟨rfl, rfl⟩ ⟨Nat.le_of_ble_eq_true rfl, Nat.le_of_ble_eq_true rfl⟩ (Nat.le_of_ble_eq_true rfl) ⟨Nat.le_of_ble_eq_true rfl, Nat.le_of_ble_eq_true rfl⟩ dX12_plate_7 rfl (st := []) (fun r_1158 I_1155 J_1156 h_1157 => ?_)
  obtain ⟨rfl, rfl, er_1158⟩ := h_1157
  have h0r_1158 := er_1158
  subst er_1158
  refine t_if_eq C (tgt := 30) (by decide) dX12_plate_10 (by decide) ?_
  refine g_iconst C (v := (-1)) dX12_plate_30 (by decide) ?_
  exact g_zret (ty := .int) (r := (-1)) B K rfl rfl (rfl) dX12_plate_31
set_option maxRecDepth 100000 in
set_option maxHeartbeats 4000000 in
theorem u_dish {l : Launch} {D : va_G} {cy : Nat → ClassId} {L : List Nat} {κ ln : Nat → Nat} {R : Nat → Nat → Option Nat} {I : Nat → Nat → Int32} {J : Nat → Nat → Int64} {ow : Nat → Nat × Nat} (W9 : ∀ a ∈ L, Shp L κ ln R ow a) {x : Nat} (hLx : x ∈ L) (hkx : κ x = 12) (FZ : Fz_ L κ I) (d : Int32) (w : Int32) : CtI l yX12_dish cX12_dish 5 (some .int) { frames := 5, cells := 0, slots := 0, locals := 320 } D cy L κ ln R I J [.ref x, .int d, .int w] (fun r _ _ => r = -1) := by
  refine CtI.of (by decide +kernel) (Nat.le_of_ble_eq_true rfl) ?_
  intro p e s m below meth c B K
  have C := B.1
  have Z14 := fz_Z FZ 14 (by decide) (by decide) (by decide)
  refine g_lo (is := [0, 1, 2]) (lo2 := [(0, .ref x), (1, .int d), (2, .int w)]) rfl ?_
  refine g_aload_n C 0 dX12_dish_0 rfl rfl ?_
  refine g_iconst C (v := 0) dX12_dish_1 (by decide) ?_
  refine h_putI C K hLx hkx f_12_82 p_12_0 dX12_dish_2 (fun I_1159 hI_1159 => ?_)
  refine g_aload_n C 0 dX12_dish_5 rfl rfl ?_
  refine g_iload_n C 1 dX12_dish_6 rfl rfl ?_
  refine g_callVI C K (m_isDish0 W9 hLx hkx ((Z14).u2 hI_1159 rfl) d) hLx hkx (by decide) rfl v_12_250 rfl ⟨rfl, rfl⟩ ⟨Nat.le_of_ble_eq_true rfl, Nat.le_of_ble_eq_true rfl⟩ (Nat.le_of_ble_eq_true rfl) ⟨Nat.le_of_ble_eq_true rfl, Nat.le_of_ble_eq_true rfl⟩ dX12_dish_7 rfl (st := []) (fun r_1163 I_1160 J_1161 h_1162 => ?_)
  obtain ⟨rfl, rfl, er_1163⟩ := h_1162
  have h0r_1163 := er_1163
  subst er_1163
  refine n_if_ne C (tgt := 15) (by decide) dX12_dish_10 (by decide) ?_
  refine g_iconst C (v := (-1)) dX12_dish_13 (by decide) ?_
  exact g_zret (ty := .int) (r := (-1)) B K rfl rfl (rfl) dX12_dish_14
set_option maxRecDepth 100000 in
set_option maxHeartbeats 4000000 in
theorem u_now {l : Launch} {D : va_G} {cy : Nat → ClassId} {L : List Nat} {κ ln : Nat → Nat} {R : Nat → Nat → Option Nat} {I : Nat → Nat → Int32} {J : Nat → Nat → Int64} {ow : Nat → Nat × Nat} (W9 : ∀ a ∈ L, Shp L κ ln R ow a) {x : Nat} (hLx : x ∈ L) (hkx : κ x = 12) (FZ : Fz_ L κ I) (w : Int32) : CtI l yX12_now cX12_now 2 (some .int) { frames := 5, cells := 0, slots := 0, locals := 320 } D cy L κ ln R I J [.ref x, .int w] (fun r _ _ => r = if 0 ≤ w ∧ w ≤ 7 then 0 else -1) := by
  refine CtI.of (by decide +kernel) (Nat.le_of_ble_eq_true rfl) ?_
  intro p e s m below meth c B K
  have C := B.1
  have Z14 := fz_Z FZ 14 (by decide) (by decide) (by decide)
  refine g_lo (is := [0, 1]) (lo2 := [(0, .ref x), (1, .int w)]) rfl ?_
  refine g_aload_n C 0 dX12_now_0 rfl rfl ?_
  refine g_iconst C (v := 0) dX12_now_1 (by decide) ?_
  refine h_putI C K hLx hkx f_12_82 p_12_0 dX12_now_2 (fun I_1164 hI_1164 => ?_)
  refine g_iload_n C 1 dX12_now_5 rfl rfl ?_
  rcases pk_ix w (n := 8) (by decide) with hsw | hsw | ⟨i_1165, hi_1166, rfl⟩
  · skip
    refine g_tableOut C (tgt := 114) dX12_now_6 (Or.inl (sw_lt hsw)) (by decide) ?_
    refine g_iconst C (v := (-1)) dX12_now_114 (by decide) ?_
    exact g_zret (ty := .int) (r := (-1)) B K rfl rfl (p_lo hsw) dX12_now_115
  · skip
    refine g_tableOut C (tgt := 114) dX12_now_6 (Or.inr (sw_ge hsw (by decide))) (by decide) ?_
    refine g_iconst C (v := (-1)) dX12_now_114 (by decide) ?_
    exact g_zret (ty := .int) (r := (-1)) B K rfl rfl (p_hi' hsw (by decide)) dX12_now_115
  · rcases (show i_1165 = 0 ∨ i_1165 = 1 ∨ i_1165 = 2 ∨ i_1165 = 3 ∨ i_1165 = 4 ∨ i_1165 = 5 ∨ i_1165 = 6 ∨ i_1165 = 7 by omega) with rfl | rfl | rfl | rfl | rfl | rfl | rfl | rfl
    · skip
      refine g_tableIn C (tgt := 52) dX12_now_6 (by decide) (by decide) (off := 46) (by decide) (by decide) ?_
      refine g_aload_n C 0 dX12_now_52 rfl rfl ?_
      obtain ⟨b_1167, hb_1167, hb_1167L, hb_1167k, hb_1167n, hb_1167o⟩ := shp_a (W9 x hLx) hkx 14 14 389 rfl (by decide)
      refine g_getR C K hLx hkx f_12_13 hb_1167 dX12_now_53 ?_
      refine g_bipush C (v := 72) dX12_now_56 (by decide) ?_
      refine h_iald C K hb_1167L hb_1167k (v := 0) (72) (by decide) (by decide) (by rw [hb_1167n]; decide) (by rw [hI_1164, u2_j (by decide)]; exact Z14 b_1167 hb_1167L hb_1167k (72)) dX12_now_58 ?_
      exact g_zret (ty := .int) (r := 0) B K rfl rfl (by decide) dX12_now_59
    · skip
      refine g_tableIn C (tgt := 60) dX12_now_6 (by decide) (by decide) (off := 54) (by decide) (by decide) ?_
      refine g_aload_n C 0 dX12_now_60 rfl rfl ?_
      obtain ⟨b_1168, hb_1168, hb_1168L, hb_1168k, hb_1168n, hb_1168o⟩ := shp_a (W9 x hLx) hkx 14 14 389 rfl (by decide)
      refine g_getR C K hLx hkx f_12_13 hb_1168 dX12_now_61 ?_
      refine g_bipush C (v := 73) dX12_now_64 (by decide) ?_
      refine h_iald C K hb_1168L hb_1168k (v := 0) (73) (by decide) (by decide) (by rw [hb_1168n]; decide) (by rw [hI_1164, u2_j (by decide)]; exact Z14 b_1168 hb_1168L hb_1168k (73)) dX12_now_66 ?_
      exact g_zret (ty := .int) (r := 0) B K rfl rfl (by decide) dX12_now_67
    · skip
      refine g_tableIn C (tgt := 68) dX12_now_6 (by decide) (by decide) (off := 62) (by decide) (by decide) ?_
      refine g_aload_n C 0 dX12_now_68 rfl rfl ?_
      obtain ⟨b_1169, hb_1169, hb_1169L, hb_1169k, hb_1169n, hb_1169o⟩ := shp_a (W9 x hLx) hkx 14 14 389 rfl (by decide)
      refine g_getR C K hLx hkx f_12_13 hb_1169 dX12_now_69 ?_
      refine g_bipush C (v := 74) dX12_now_72 (by decide) ?_
      refine h_iald C K hb_1169L hb_1169k (v := 0) (74) (by decide) (by decide) (by rw [hb_1169n]; decide) (by rw [hI_1164, u2_j (by decide)]; exact Z14 b_1169 hb_1169L hb_1169k (74)) dX12_now_74 ?_
      exact g_zret (ty := .int) (r := 0) B K rfl rfl (by decide) dX12_now_75
    · skip
      refine g_tableIn C (tgt := 76) dX12_now_6 (by decide) (by decide) (off := 70) (by decide) (by decide) ?_
      refine g_aload_n C 0 dX12_now_76 rfl rfl ?_
      obtain ⟨b_1170, hb_1170, hb_1170L, hb_1170k, hb_1170n, hb_1170o⟩ := shp_a (W9 x hLx) hkx 14 14 389 rfl (by decide)
      refine g_getR C K hLx hkx f_12_13 hb_1170 dX12_now_77 ?_
      refine g_bipush C (v := 75) dX12_now_80 (by decide) ?_
      refine h_iald C K hb_1170L hb_1170k (v := 0) (75) (by decide) (by decide) (by rw [hb_1170n]; decide) (by rw [hI_1164, u2_j (by decide)]; exact Z14 b_1170 hb_1170L hb_1170k (75)) dX12_now_82 ?_
      exact g_zret (ty := .int) (r := 0) B K rfl rfl (by decide) dX12_now_83
    · skip
      refine g_tableIn C (tgt := 84) dX12_now_6 (by decide) (by decide) (off := 78) (by decide) (by decide) ?_
      refine g_aload_n C 0 dX12_now_84 rfl rfl ?_
      obtain ⟨b_1171, hb_1171, hb_1171L, hb_1171k, hb_1171n, hb_1171o⟩ := shp_a (W9 x hLx) hkx 14 14 389 rfl (by decide)
      refine g_getR C K hLx hkx f_12_13 hb_1171 dX12_now_85 ?_
      refine g_bipush C (v := 76) dX12_now_88 (by decide) ?_
      refine h_iald C K hb_1171L hb_1171k (v := 0) (76) (by decide) (by decide) (by rw [hb_1171n]; decide) (by rw [hI_1164, u2_j (by decide)]; exact Z14 b_1171 hb_1171L hb_1171k (76)) dX12_now_90 ?_
      exact g_zret (ty := .int) (r := 0) B K rfl rfl (by decide) dX12_now_91
    · skip
      refine g_tableIn C (tgt := 92) dX12_now_6 (by decide) (by decide) (off := 86) (by decide) (by decide) ?_
      refine g_aload_n C 0 dX12_now_92 rfl rfl ?_
      refine g_bipush C (v := 84) dX12_now_93 (by decide) ?_
      refine g_callVI C K (m_sumOf0_84 W9 hLx hkx ((Z14).u2 hI_1164 rfl)) hLx hkx (by decide) rfl v_12_253 rfl ⟨rfl, rfl⟩ ⟨Nat.le_of_ble_eq_true rfl, Nat.le_of_ble_eq_true rfl⟩ (Nat.le_of_ble_eq_true rfl) ⟨Nat.le_of_ble_eq_true rfl, Nat.le_of_ble_eq_true rfl⟩ dX12_now_95 rfl (st := []) (fun r_1175 I_1172 J_1173 h_1174 => ?_)
      obtain ⟨rfl, rfl, er_1175⟩ := h_1174
      have h0r_1175 := er_1175
      subst er_1175
      exact g_zret (ty := .int) (r := 0) B K rfl rfl (by decide) dX12_now_98
    · skip
      refine g_tableIn C (tgt := 99) dX12_now_6 (by decide) (by decide) (off := 93) (by decide) (by decide) ?_
      refine g_aload_n C 0 dX12_now_99 rfl rfl ?_
      refine g_bipush C (v := 98) dX12_now_100 (by decide) ?_
      refine g_callVI C K (m_sumOf0_98 W9 hLx hkx ((Z14).u2 hI_1164 rfl)) hLx hkx (by decide) rfl v_12_253 rfl ⟨rfl, rfl⟩ ⟨Nat.le_of_ble_eq_true rfl, Nat.le_of_ble_eq_true rfl⟩ (Nat.le_of_ble_eq_true rfl) ⟨Nat.le_of_ble_eq_true rfl, Nat.le_of_ble_eq_true rfl⟩ dX12_now_102 rfl (st := []) (fun r_1179 I_1176 J_1177 h_1178 => ?_)
      obtain ⟨rfl, rfl, er_1179⟩ := h_1178
      have h0r_1179 := er_1179
      subst er_1179
      exact g_zret (ty := .int) (r := 0) B K rfl rfl (by decide) dX12_now_105
    · skip
      refine g_tableIn C (tgt := 106) dX12_now_6 (by decide) (by decide) (off := 100) (by decide) (by decide) ?_
      refine g_aload_n C 0 dX12_now_106 rfl rfl ?_
      obtain ⟨b_1180, hb_1180, hb_1180L, hb_1180k, hb_1180n, hb_1180o⟩ := shp_a (W9 x hLx) hkx 14 14 389 rfl (by decide)
      refine g_getR C K hLx hkx f_12_13 hb_1180 dX12_now_107 ?_
      refine g_bipush C (v := 77) dX12_now_110 (by decide) ?_
      refine h_iald C K hb_1180L hb_1180k (v := 0) (77) (by decide) (by decide) (by rw [hb_1180n]; decide) (by rw [hI_1164, u2_j (by decide)]; exact Z14 b_1180 hb_1180L hb_1180k (77)) dX12_now_112 ?_
      exact g_zret (ty := .int) (r := 0) B K rfl rfl (by decide) dX12_now_113
set_option maxRecDepth 100000 in
set_option maxHeartbeats 4000000 in
theorem u_eat {l : Launch} {D : va_G} {cy : Nat → ClassId} {L : List Nat} {κ ln : Nat → Nat} {R : Nat → Nat → Option Nat} {I : Nat → Nat → Int32} {J : Nat → Nat → Int64} {ow : Nat → Nat × Nat} (W9 : ∀ a ∈ L, Shp L κ ln R ow a) {x : Nat} (hLx : x ∈ L) (hkx : κ x = 12) (FZ : Fz_ L κ I) (p1 : Int32) (d : Int32) (n : Int32) : CtI l yX12_eat cX12_eat 4 (some .int) { frames := 5, cells := 0, slots := 0, locals := 320 } D cy L κ ln R I J [.ref x, .int p1, .int d, .int n] (fun r _ _ => r = -1) := by
  refine CtI.of (by decide +kernel) (Nat.le_of_ble_eq_true rfl) ?_
  intro p e s m below meth c B K
  have C := B.1
  have Z14 := fz_Z FZ 14 (by decide) (by decide) (by decide)
  refine g_lo (is := [0, 1, 2, 3]) (lo2 := [(0, .ref x), (1, .int p1), (2, .int d), (3, .int n)]) rfl ?_
  refine g_aload_n C 0 dX12_eat_0 rfl rfl ?_
  refine g_iconst C (v := 0) dX12_eat_1 (by decide) ?_
  refine h_putI C K hLx hkx f_12_82 p_12_0 dX12_eat_2 (fun I_1181 hI_1181 => ?_)
  refine g_aload_n C 0 dX12_eat_5 rfl rfl ?_
  refine g_iload_n C 1 dX12_eat_6 rfl rfl ?_
  refine g_callVI C K (m_isPerson0 W9 hLx hkx ((Z14).u2 hI_1181 rfl) p1) hLx hkx (by decide) rfl v_12_238 rfl ⟨rfl, rfl⟩ ⟨Nat.le_of_ble_eq_true rfl, Nat.le_of_ble_eq_true rfl⟩ (Nat.le_of_ble_eq_true rfl) ⟨Nat.le_of_ble_eq_true rfl, Nat.le_of_ble_eq_true rfl⟩ dX12_eat_7 rfl (st := []) (fun r_1185 I_1182 J_1183 h_1184 => ?_)
  obtain ⟨rfl, rfl, er_1185⟩ := h_1184
  have h0r_1185 := er_1185
  subst er_1185
  refine t_if_eq C (tgt := 42) (by decide) dX12_eat_10 (by decide) ?_
  refine g_iconst C (v := (-1)) dX12_eat_42 (by decide) ?_
  exact g_zret (ty := .int) (r := (-1)) B K rfl rfl (rfl) dX12_eat_43
set_option maxRecDepth 100000 in
set_option maxHeartbeats 4000000 in
theorem u_serve {l : Launch} {D : va_G} {cy : Nat → ClassId} {L : List Nat} {κ ln : Nat → Nat} {R : Nat → Nat → Option Nat} {I : Nat → Nat → Int32} {J : Nat → Nat → Int64} {ow : Nat → Nat × Nat} (W9 : ∀ a ∈ L, Shp L κ ln R ow a) {x : Nat} (hLx : x ∈ L) (hkx : κ x = 12) (FZ : Fz_ L κ I) (p1 : Int32) (d : Int32) (n : Int32) : CtI l yX12_serve cX12_serve 4 (some .int) { frames := 5, cells := 0, slots := 0, locals := 320 } D cy L κ ln R I J [.ref x, .int p1, .int d, .int n] (fun r _ _ => r = -1) := by
  refine CtI.of (by decide +kernel) (Nat.le_of_ble_eq_true rfl) ?_
  intro p e s m below meth c B K
  have C := B.1
  have Z14 := fz_Z FZ 14 (by decide) (by decide) (by decide)
  refine g_lo (is := [0, 1, 2, 3]) (lo2 := [(0, .ref x), (1, .int p1), (2, .int d), (3, .int n)]) rfl ?_
  refine g_aload_n C 0 dX12_serve_0 rfl rfl ?_
  refine g_iconst C (v := 0) dX12_serve_1 (by decide) ?_
  refine h_putI C K hLx hkx f_12_82 p_12_0 dX12_serve_2 (fun I_1186 hI_1186 => ?_)
  refine g_aload_n C 0 dX12_serve_5 rfl rfl ?_
  refine g_iload_n C 1 dX12_serve_6 rfl rfl ?_
  refine g_callVI C K (m_isPerson0 W9 hLx hkx ((Z14).u2 hI_1186 rfl) p1) hLx hkx (by decide) rfl v_12_238 rfl ⟨rfl, rfl⟩ ⟨Nat.le_of_ble_eq_true rfl, Nat.le_of_ble_eq_true rfl⟩ (Nat.le_of_ble_eq_true rfl) ⟨Nat.le_of_ble_eq_true rfl, Nat.le_of_ble_eq_true rfl⟩ dX12_serve_7 rfl (st := []) (fun r_1190 I_1187 J_1188 h_1189 => ?_)
  obtain ⟨rfl, rfl, er_1190⟩ := h_1189
  have h0r_1190 := er_1190
  subst er_1190
  refine t_if_eq C (tgt := 42) (by decide) dX12_serve_10 (by decide) ?_
  refine g_iconst C (v := (-1)) dX12_serve_42 (by decide) ?_
  exact g_zret (ty := .int) (r := (-1)) B K rfl rfl (rfl) dX12_serve_43
set_option maxRecDepth 100000 in
set_option maxHeartbeats 4000000 in
theorem u_rise {l : Launch} {D : va_G} {cy : Nat → ClassId} {L : List Nat} {κ ln : Nat → Nat} {R : Nat → Nat → Option Nat} {I : Nat → Nat → Int32} {J : Nat → Nat → Int64} {ow : Nat → Nat × Nat} (W9 : ∀ a ∈ L, Shp L κ ln R ow a) {x : Nat} (hLx : x ∈ L) (hkx : κ x = 12) (FZ : Fz_ L κ I) (p1 : Int32) : CtI l yX12_rise cX12_rise 2 (some .int) { frames := 5, cells := 0, slots := 0, locals := 320 } D cy L κ ln R I J [.ref x, .int p1] (fun r _ _ => r = -1) := by
  refine CtI.of (by decide +kernel) (Nat.le_of_ble_eq_true rfl) ?_
  intro p e s m below meth c B K
  have C := B.1
  have Z14 := fz_Z FZ 14 (by decide) (by decide) (by decide)
  refine g_lo (is := [0, 1]) (lo2 := [(0, .ref x), (1, .int p1)]) rfl ?_
  refine g_aload_n C 0 dX12_rise_0 rfl rfl ?_
  refine g_iconst C (v := 0) dX12_rise_1 (by decide) ?_
  refine h_putI C K hLx hkx f_12_82 p_12_0 dX12_rise_2 (fun I_1191 hI_1191 => ?_)
  refine g_aload_n C 0 dX12_rise_5 rfl rfl ?_
  refine g_iload_n C 1 dX12_rise_6 rfl rfl ?_
  refine g_callVI C K (m_isPerson0 W9 hLx hkx ((Z14).u2 hI_1191 rfl) p1) hLx hkx (by decide) rfl v_12_238 rfl ⟨rfl, rfl⟩ ⟨Nat.le_of_ble_eq_true rfl, Nat.le_of_ble_eq_true rfl⟩ (Nat.le_of_ble_eq_true rfl) ⟨Nat.le_of_ble_eq_true rfl, Nat.le_of_ble_eq_true rfl⟩ dX12_rise_7 rfl (st := []) (fun r_1195 I_1192 J_1193 h_1194 => ?_)
  obtain ⟨rfl, rfl, er_1195⟩ := h_1194
  have h0r_1195 := er_1195
  subst er_1195
  refine t_if_eq C (tgt := 24) (by decide) dX12_rise_10 (by decide) ?_
  refine g_iconst C (v := (-1)) dX12_rise_24 (by decide) ?_
  exact g_zret (ty := .int) (r := (-1)) B K rfl rfl (rfl) dX12_rise_25
set_option maxRecDepth 100000 in
set_option maxHeartbeats 4000000 in
theorem u_accept {l : Launch} {D : va_G} {cy : Nat → ClassId} {L : List Nat} {κ ln : Nat → Nat} {R : Nat → Nat → Option Nat} {I : Nat → Nat → Int32} {J : Nat → Nat → Int64} {ow : Nat → Nat × Nat} (W9 : ∀ a ∈ L, Shp L κ ln R ow a) {x : Nat} (hLx : x ∈ L) (hkx : κ x = 12) (FZ : Fz_ L κ I) (p1 : Int32) : CtI l yX12_accept cX12_accept 2 (some .int) { frames := 5, cells := 0, slots := 0, locals := 320 } D cy L κ ln R I J [.ref x, .int p1] (fun r _ _ => r = -1) := by
  refine CtI.of (by decide +kernel) (Nat.le_of_ble_eq_true rfl) ?_
  intro p e s m below meth c B K
  have C := B.1
  have Z14 := fz_Z FZ 14 (by decide) (by decide) (by decide)
  refine g_lo (is := [0, 1]) (lo2 := [(0, .ref x), (1, .int p1)]) rfl ?_
  refine g_aload_n C 0 dX12_accept_0 rfl rfl ?_
  refine g_iconst C (v := 0) dX12_accept_1 (by decide) ?_
  refine h_putI C K hLx hkx f_12_82 p_12_0 dX12_accept_2 (fun I_1196 hI_1196 => ?_)
  refine g_aload_n C 0 dX12_accept_5 rfl rfl ?_
  refine g_iload_n C 1 dX12_accept_6 rfl rfl ?_
  refine g_callVI C K (m_isPerson0 W9 hLx hkx ((Z14).u2 hI_1196 rfl) p1) hLx hkx (by decide) rfl v_12_238 rfl ⟨rfl, rfl⟩ ⟨Nat.le_of_ble_eq_true rfl, Nat.le_of_ble_eq_true rfl⟩ (Nat.le_of_ble_eq_true rfl) ⟨Nat.le_of_ble_eq_true rfl, Nat.le_of_ble_eq_true rfl⟩ dX12_accept_7 rfl (st := []) (fun r_1200 I_1197 J_1198 h_1199 => ?_)
  obtain ⟨rfl, rfl, er_1200⟩ := h_1199
  have h0r_1200 := er_1200
  subst er_1200
  refine t_if_eq C (tgt := 24) (by decide) dX12_accept_10 (by decide) ?_
  refine g_iconst C (v := (-1)) dX12_accept_24 (by decide) ?_
  exact g_zret (ty := .int) (r := (-1)) B K rfl rfl (rfl) dX12_accept_25
set_option maxRecDepth 100000 in
set_option maxHeartbeats 4000000 in
theorem u_die {l : Launch} {D : va_G} {cy : Nat → ClassId} {L : List Nat} {κ ln : Nat → Nat} {R : Nat → Nat → Option Nat} {I : Nat → Nat → Int32} {J : Nat → Nat → Int64} {ow : Nat → Nat × Nat} (W9 : ∀ a ∈ L, Shp L κ ln R ow a) {x : Nat} (hLx : x ∈ L) (hkx : κ x = 12) (FZ : Fz_ L κ I) (p1 : Int32) : CtI l yX12_die cX12_die 2 (some .int) { frames := 5, cells := 0, slots := 0, locals := 320 } D cy L κ ln R I J [.ref x, .int p1] (fun r _ _ => r = -1) := by
  refine CtI.of (by decide +kernel) (Nat.le_of_ble_eq_true rfl) ?_
  intro p e s m below meth c B K
  have C := B.1
  have Z14 := fz_Z FZ 14 (by decide) (by decide) (by decide)
  refine g_lo (is := [0, 1]) (lo2 := [(0, .ref x), (1, .int p1)]) rfl ?_
  refine g_aload_n C 0 dX12_die_0 rfl rfl ?_
  refine g_iconst C (v := 0) dX12_die_1 (by decide) ?_
  refine h_putI C K hLx hkx f_12_82 p_12_0 dX12_die_2 (fun I_1201 hI_1201 => ?_)
  refine g_aload_n C 0 dX12_die_5 rfl rfl ?_
  refine g_iload_n C 1 dX12_die_6 rfl rfl ?_
  refine g_callVI C K (m_isPerson0 W9 hLx hkx ((Z14).u2 hI_1201 rfl) p1) hLx hkx (by decide) rfl v_12_238 rfl ⟨rfl, rfl⟩ ⟨Nat.le_of_ble_eq_true rfl, Nat.le_of_ble_eq_true rfl⟩ (Nat.le_of_ble_eq_true rfl) ⟨Nat.le_of_ble_eq_true rfl, Nat.le_of_ble_eq_true rfl⟩ dX12_die_7 rfl (st := []) (fun r_1205 I_1202 J_1203 h_1204 => ?_)
  obtain ⟨rfl, rfl, er_1205⟩ := h_1204
  have h0r_1205 := er_1205
  subst er_1205
  refine t_if_eq C (tgt := 24) (by decide) dX12_die_10 (by decide) ?_
  refine g_iconst C (v := (-1)) dX12_die_24 (by decide) ?_
  exact g_zret (ty := .int) (r := (-1)) B K rfl rfl (rfl) dX12_die_25
set_option maxRecDepth 100000 in
set_option maxHeartbeats 4000000 in
theorem u_heir {l : Launch} {D : va_G} {cy : Nat → ClassId} {L : List Nat} {κ ln : Nat → Nat} {R : Nat → Nat → Option Nat} {I : Nat → Nat → Int32} {J : Nat → Nat → Int64} {ow : Nat → Nat × Nat} (W9 : ∀ a ∈ L, Shp L κ ln R ow a) {x : Nat} (hLx : x ∈ L) (hkx : κ x = 12) (FZ : Fz_ L κ I) (p1 : Int32) : CtI l yX12_heir cX12_heir 2 (some .int) { frames := 5, cells := 0, slots := 0, locals := 320 } D cy L κ ln R I J [.ref x, .int p1] (fun r _ _ => r = -1) := by
  refine CtI.of (by decide +kernel) (Nat.le_of_ble_eq_true rfl) ?_
  intro p e s m below meth c B K
  have C := B.1
  have Z14 := fz_Z FZ 14 (by decide) (by decide) (by decide)
  refine g_lo (is := [0, 1]) (lo2 := [(0, .ref x), (1, .int p1)]) rfl ?_
  refine g_aload_n C 0 dX12_heir_0 rfl rfl ?_
  refine g_iconst C (v := 0) dX12_heir_1 (by decide) ?_
  refine h_putI C K hLx hkx f_12_82 p_12_0 dX12_heir_2 (fun I_1206 hI_1206 => ?_)
  refine g_aload_n C 0 dX12_heir_5 rfl rfl ?_
  refine g_iload_n C 1 dX12_heir_6 rfl rfl ?_
  refine g_callVI C K (m_isPerson0 W9 hLx hkx ((Z14).u2 hI_1206 rfl) p1) hLx hkx (by decide) rfl v_12_238 rfl ⟨rfl, rfl⟩ ⟨Nat.le_of_ble_eq_true rfl, Nat.le_of_ble_eq_true rfl⟩ (Nat.le_of_ble_eq_true rfl) ⟨Nat.le_of_ble_eq_true rfl, Nat.le_of_ble_eq_true rfl⟩ dX12_heir_7 rfl (st := []) (fun r_1210 I_1207 J_1208 h_1209 => ?_)
  obtain ⟨rfl, rfl, er_1210⟩ := h_1209
  have h0r_1210 := er_1210
  subst er_1210
  refine t_if_eq C (tgt := 25) (by decide) dX12_heir_10 (by decide) ?_
  refine g_iconst C (v := (-1)) dX12_heir_25 (by decide) ?_
  exact g_zret (ty := .int) (r := (-1)) B K rfl rfl (rfl) dX12_heir_26
set_option maxRecDepth 100000 in
set_option maxHeartbeats 4000000 in
theorem u_will {l : Launch} {D : va_G} {cy : Nat → ClassId} {L : List Nat} {κ ln : Nat → Nat} {R : Nat → Nat → Option Nat} {I : Nat → Nat → Int32} {J : Nat → Nat → Int64} {ow : Nat → Nat × Nat} (W9 : ∀ a ∈ L, Shp L κ ln R ow a) {x : Nat} (hLx : x ∈ L) (hkx : κ x = 12) (FZ : Fz_ L κ I) (p1 : Int32) : CtI l yX12_will cX12_will 3 (some .int) { frames := 5, cells := 0, slots := 0, locals := 320 } D cy L κ ln R I J [.ref x, .int p1] (fun r _ _ => r = -1) := by
  refine CtI.of (by decide +kernel) (Nat.le_of_ble_eq_true rfl) ?_
  intro p e s m below meth c B K
  have C := B.1
  have Z14 := fz_Z FZ 14 (by decide) (by decide) (by decide)
  refine g_lo (is := [0, 1]) (lo2 := [(0, .ref x), (1, .int p1)]) rfl ?_
  refine g_aload_n C 0 dX12_will_0 rfl rfl ?_
  refine g_iconst C (v := 0) dX12_will_1 (by decide) ?_
  refine h_putI C K hLx hkx f_12_82 p_12_0 dX12_will_2 (fun I_1211 hI_1211 => ?_)
  refine g_aload_n C 0 dX12_will_5 rfl rfl ?_
  refine g_iload_n C 1 dX12_will_6 rfl rfl ?_
  refine g_callVI C K (m_isPerson0 W9 hLx hkx ((Z14).u2 hI_1211 rfl) p1) hLx hkx (by decide) rfl v_12_238 rfl ⟨rfl, rfl⟩ ⟨Nat.le_of_ble_eq_true rfl, Nat.le_of_ble_eq_true rfl⟩ (Nat.le_of_ble_eq_true rfl) ⟨Nat.le_of_ble_eq_true rfl, Nat.le_of_ble_eq_true rfl⟩ dX12_will_7 rfl (st := []) (fun r_1215 I_1212 J_1213 h_1214 => ?_)
  obtain ⟨rfl, rfl, er_1215⟩ := h_1214
  have h0r_1215 := er_1215
  subst er_1215
  refine n_if_ne C (tgt := 15) (by decide) dX12_will_10 (by decide) ?_
  refine g_iconst C (v := (-1)) dX12_will_13 (by decide) ?_
  exact g_zret (ty := .int) (r := (-1)) B K rfl rfl (rfl) dX12_will_14
set_option maxRecDepth 100000 in
set_option maxHeartbeats 4000000 in
theorem u_refuse {l : Launch} {D : va_G} {cy : Nat → ClassId} {L : List Nat} {κ ln : Nat → Nat} {R : Nat → Nat → Option Nat} {I : Nat → Nat → Int32} {J : Nat → Nat → Int64} {ow : Nat → Nat × Nat} (W9 : ∀ a ∈ L, Shp L κ ln R ow a) {x : Nat} (hLx : x ∈ L) (hkx : κ x = 12) (FZ : Fz_ L κ I) (p1 : Int32) : CtI l yX12_refuse_ cX12_refuse_ 2 (some .int) { frames := 5, cells := 0, slots := 0, locals := 320 } D cy L κ ln R I J [.ref x, .int p1] (fun r _ _ => r = -1) := by
  refine CtI.of (by decide +kernel) (Nat.le_of_ble_eq_true rfl) ?_
  intro p e s m below meth c B K
  have C := B.1
  have Z14 := fz_Z FZ 14 (by decide) (by decide) (by decide)
  refine g_lo (is := [0, 1]) (lo2 := [(0, .ref x), (1, .int p1)]) rfl ?_
  refine g_aload_n C 0 dX12_refuse__0 rfl rfl ?_
  refine g_iconst C (v := 0) dX12_refuse__1 (by decide) ?_
  refine h_putI C K hLx hkx f_12_82 p_12_0 dX12_refuse__2 (fun I_1216 hI_1216 => ?_)
  refine g_aload_n C 0 dX12_refuse__5 rfl rfl ?_
  refine g_iload_n C 1 dX12_refuse__6 rfl rfl ?_
  refine g_callVI C K (m_isPerson0 W9 hLx hkx ((Z14).u2 hI_1216 rfl) p1) hLx hkx (by decide) rfl v_12_238 rfl ⟨rfl, rfl⟩ ⟨Nat.le_of_ble_eq_true rfl, Nat.le_of_ble_eq_true rfl⟩ (Nat.le_of_ble_eq_true rfl) ⟨Nat.le_of_ble_eq_true rfl, Nat.le_of_ble_eq_true rfl⟩ dX12_refuse__7 rfl (st := []) (fun r_1220 I_1217 J_1218 h_1219 => ?_)
  obtain ⟨rfl, rfl, er_1220⟩ := h_1219
  have h0r_1220 := er_1220
  subst er_1220
  refine t_if_eq C (tgt := 24) (by decide) dX12_refuse__10 (by decide) ?_
  refine g_iconst C (v := (-1)) dX12_refuse__24 (by decide) ?_
  exact g_zret (ty := .int) (r := (-1)) B K rfl rfl (rfl) dX12_refuse__25
set_option maxRecDepth 100000 in
set_option maxHeartbeats 4000000 in
theorem u_line {l : Launch} {D : va_G} {cy : Nat → ClassId} {L : List Nat} {κ ln : Nat → Nat} {R : Nat → Nat → Option Nat} {I : Nat → Nat → Int32} {J : Nat → Nat → Int64} {ow : Nat → Nat × Nat} (W9 : ∀ a ∈ L, Shp L κ ln R ow a) {x : Nat} (hLx : x ∈ L) (hkx : κ x = 12) (FZ : Fz_ L κ I) (p1 : Int32) (k : Int32) : CtI l yX12_line cX12_line 6 (some .int) { frames := 5, cells := 0, slots := 0, locals := 320 } D cy L κ ln R I J [.ref x, .int p1, .int k] (fun r _ _ => r = -1) := by
  refine CtI.of (by decide +kernel) (Nat.le_of_ble_eq_true rfl) ?_
  intro p e s m below meth c B K
  have C := B.1
  have Z14 := fz_Z FZ 14 (by decide) (by decide) (by decide)
  refine g_lo (is := [0, 1, 2]) (lo2 := [(0, .ref x), (1, .int p1), (2, .int k)]) rfl ?_
  refine g_aload_n C 0 dX12_line_0 rfl rfl ?_
  refine g_iconst C (v := 0) dX12_line_1 (by decide) ?_
  refine h_putI C K hLx hkx f_12_82 p_12_0 dX12_line_2 (fun I_1221 hI_1221 => ?_)
  refine g_aload_n C 0 dX12_line_5 rfl rfl ?_
  refine g_iload_n C 1 dX12_line_6 rfl rfl ?_
  refine g_callVI C K (m_isPerson0 W9 hLx hkx ((Z14).u2 hI_1221 rfl) p1) hLx hkx (by decide) rfl v_12_238 rfl ⟨rfl, rfl⟩ ⟨Nat.le_of_ble_eq_true rfl, Nat.le_of_ble_eq_true rfl⟩ (Nat.le_of_ble_eq_true rfl) ⟨Nat.le_of_ble_eq_true rfl, Nat.le_of_ble_eq_true rfl⟩ dX12_line_7 rfl (st := []) (fun r_1225 I_1222 J_1223 h_1224 => ?_)
  obtain ⟨rfl, rfl, er_1225⟩ := h_1224
  have h0r_1225 := er_1225
  subst er_1225
  refine t_if_eq C (tgt := 17) (by decide) dX12_line_10 (by decide) ?_
  refine g_iconst C (v := (-1)) dX12_line_17 (by decide) ?_
  exact g_zret (ty := .int) (r := (-1)) B K rfl rfl (rfl) dX12_line_18
set_option maxRecDepth 100000 in
set_option maxHeartbeats 4000000 in
theorem u_undo {l : Launch} {D : va_G} {cy : Nat → ClassId} {L : List Nat} {κ ln : Nat → Nat} {R : Nat → Nat → Option Nat} {I : Nat → Nat → Int32} {J : Nat → Nat → Int64} {ow : Nat → Nat × Nat} (W9 : ∀ a ∈ L, Shp L κ ln R ow a) {x : Nat} (hLx : x ∈ L) (hkx : κ x = 12) (FZ : Fz_ L κ I) : CtI l yX12_undo cX12_undo 2 (some .int) { frames := 5, cells := 0, slots := 0, locals := 320 } D cy L κ ln R I J [.ref x] (fun r _ _ => r = -1) := by
  refine CtI.of (by decide +kernel) (Nat.le_of_ble_eq_true rfl) ?_
  intro p e s m below meth c B K
  have C := B.1
  have Z14 := fz_Z FZ 14 (by decide) (by decide) (by decide)
  refine g_lo (is := [0]) (lo2 := [(0, .ref x)]) rfl ?_
  refine g_aload_n C 0 dX12_undo_0 rfl rfl ?_
  refine g_iconst C (v := 0) dX12_undo_1 (by decide) ?_
  refine h_putI C K hLx hkx f_12_82 p_12_0 dX12_undo_2 (fun I_1226 hI_1226 => ?_)
  refine g_aload_n C 0 dX12_undo_5 rfl rfl ?_
  refine g_getI C K hLx hkx f_12_228 (v := 0) (by rw [hI_1226, u2_j (by decide)]; exact (by rw [FZ x hLx 23, hkx]; rfl)) dX12_undo_6 ?_
  refine n_if_ne C (tgt := 14) (by decide) dX12_undo_9 (by decide) ?_
  refine g_iconst C (v := (-1)) dX12_undo_12 (by decide) ?_
  exact g_zret (ty := .int) (r := (-1)) B K rfl rfl (rfl) dX12_undo_13
set_option maxRecDepth 100000 in
set_option maxHeartbeats 4000000 in
theorem u_meals {l : Launch} {D : va_G} {cy : Nat → ClassId} {L : List Nat} {κ ln : Nat → Nat} {R : Nat → Nat → Option Nat} {I : Nat → Nat → Int32} {J : Nat → Nat → Int64} {ow : Nat → Nat × Nat} (W9 : ∀ a ∈ L, Shp L κ ln R ow a) {x : Nat} (hLx : x ∈ L) (hkx : κ x = 12) (FZ : Fz_ L κ I) (n : Int32) : CtI l yX12_meals cX12_meals 2 (some .int) { frames := 5, cells := 0, slots := 0, locals := 320 } D cy L κ ln R I J [.ref x, .int n] (fun r _ _ => r = if 1 ≤ n ∧ n ≤ 60 then n else -1) := by
  refine CtI.of (by decide +kernel) (Nat.le_of_ble_eq_true rfl) ?_
  intro p e s m below meth c B K
  have C := B.1
  have Z14 := fz_Z FZ 14 (by decide) (by decide) (by decide)
  refine g_lo (is := [0, 1]) (lo2 := [(0, .ref x), (1, .int n)]) rfl ?_
  refine g_aload_n C 0 dX12_meals_0 rfl rfl ?_
  refine g_iconst C (v := 0) dX12_meals_1 (by decide) ?_
  refine h_putI C K hLx hkx f_12_82 p_12_0 dX12_meals_2 (fun I_1227 hI_1227 => ?_)
  refine g_iload_n C 1 dX12_meals_5 rfl rfl ?_
  refine g_iconst C (v := 1) dX12_meals_6 (by decide) ?_
  refine g_bipush C (v := 60) dX12_meals_7 (by decide) ?_
  refine g_callSI C K (c_Mod_isIn (n) (1) (60)) s_12_149 rfl ⟨rfl, rfl⟩ ⟨Nat.le_of_ble_eq_true rfl, Nat.le_of_ble_eq_true rfl⟩ (Nat.le_of_ble_eq_true rfl) ⟨Nat.le_of_ble_eq_true rfl, Nat.le_of_ble_eq_true rfl⟩ dX12_meals_9 rfl (st := []) (fun r_1231 I_1228 J_1229 h_1230 => ?_)
  obtain ⟨rfl, rfl, er_1231⟩ := h_1230
  have h0r_1231 := er_1231
  refine g_if_ne C (tgt := 17) dX12_meals_12 (by decide) (fun h_1232 => ?_) (fun h_1232 => ?_)
  · skip
    have hin := is_1 er_1231 h_1232
    obtain ⟨N, hN, rfl⟩ := mk_N (Int32.not_lt.mpr hin.1) (Int32.not_lt.mpr hin.2)
    refine g_aload_n C 0 dX12_meals_17 rfl rfl ?_
    obtain ⟨b_1233, hb_1233, hb_1233L, hb_1233k, hb_1233n, hb_1233o⟩ := shp_a (W9 x hLx) hkx 14 14 389 rfl (by decide)
    refine g_getR C K hLx hkx f_12_13 hb_1233 dX12_meals_18 ?_
    refine g_bipush C (v := 72) dX12_meals_21 (by decide) ?_
    refine h_iald C K hb_1233L hb_1233k (v := 0) (72) (by decide) (by decide) (by rw [hb_1233n]; decide) (by rw [hI_1227, u2_j (by decide)]; exact Z14 b_1233 hb_1233L hb_1233k (72)) dX12_meals_23 ?_
    refine g_sipush C (v := 200) dX12_meals_24 (by decide) ?_
    refine t_icmp_ne C (tgt := 32) (by decide) dX12_meals_27 (by decide) ?_
    refine g_aload_n C 0 dX12_meals_32 rfl rfl ?_
    refine g_callVV C K (m_snap0 W9 hLx hkx (by rw [hI_1227, u2_j (by decide)]; exact (by rw [FZ x hLx 23, hkx]; rfl)) ((Z14).u2 hI_1227 rfl)) hLx hkx (by decide) rfl v_12_282 rfl ⟨rfl, rfl⟩ ⟨Nat.le_of_ble_eq_true rfl, Nat.le_of_ble_eq_true rfl⟩ (Nat.le_of_ble_eq_true rfl) ⟨Nat.le_of_ble_eq_true rfl, Nat.le_of_ble_eq_true rfl⟩ dX12_meals_33 rfl (st := []) (fun I_1234 J_1235 h_1236 => ?_)
    obtain ⟨rfl, f_1238, z_1240⟩ := h_1236
    refine g_aload_n C 0 dX12_meals_36 rfl rfl ?_
    refine g_iload_n C 1 dX12_meals_37 rfl rfl ?_
    refine g_callVI C K (m_passMeals0 W9 hLx hkx N hN (fun b hb => by rw [hb_1233] at hb; cases hb; exact (z_1240 b_1233 hb_1233L hb_1233k 0)) (fun b hb => by rw [hb_1233] at hb; cases hb; exact (z_1240 b_1233 hb_1233L hb_1233k 72))) hLx hkx (by decide) rfl v_12_295 rfl ⟨rfl, rfl⟩ ⟨Nat.le_of_ble_eq_true rfl, Nat.le_of_ble_eq_true rfl⟩ (Nat.le_of_ble_eq_true rfl) ⟨Nat.le_of_ble_eq_true rfl, Nat.le_of_ble_eq_true rfl⟩ dX12_meals_38 rfl (st := []) (fun r_1244 I_1241 J_1242 h_1243 => ?_)
    subst h_1243
    exact g_zret (ty := .int) (r := nI N) B K rfl rfl (by rw [if_pos ⟨lt_ge (k := 1) hN.1 (by omega), lt_le (k := 60) hN.2 (by decide)⟩]) dX12_meals_41
  · skip
    subst h_1232
    refine g_iconst C (v := (-1)) dX12_meals_15 (by decide) ?_
    exact g_zret (ty := .int) (r := (-1)) B K rfl rfl (by rw [if_neg (is_0 er_1231 rfl)]) dX12_meals_16
set_option maxRecDepth 100000 in
set_option maxHeartbeats 4000000 in
theorem u_order {l : Launch} {D : va_G} {cy : Nat → ClassId} {L : List Nat} {κ ln : Nat → Nat} {R : Nat → Nat → Option Nat} {I : Nat → Nat → Int32} {J : Nat → Nat → Int64} {ow : Nat → Nat × Nat} (W9 : ∀ a ∈ L, Shp L κ ln R ow a) {x : Nat} (hLx : x ∈ L) (hkx : κ x = 12) (FZ : Fz_ L κ I) : CtI l yX12_order cX12_order 1 (some .int) { frames := 5, cells := 0, slots := 0, locals := 320 } D cy L κ ln R I J [.ref x] (fun r _ _ => r = 0) := by
  refine CtI.of (by decide +kernel) (Nat.le_of_ble_eq_true rfl) ?_
  intro p e s m below meth c B K
  have C := B.1
  have Z14 := fz_Z FZ 14 (by decide) (by decide) (by decide)
  refine g_lo (is := [0]) (lo2 := [(0, .ref x)]) rfl ?_
  refine g_aload_n C 0 dX12_order_0 rfl rfl ?_
  refine g_iconst C (v := 0) dX12_order_1 (by decide) ?_
  refine h_putI C K hLx hkx f_12_82 p_12_0 dX12_order_2 (fun I_1245 hI_1245 => ?_)
  refine g_aload_n C 0 dX12_order_5 rfl rfl ?_
  refine g_ldcw C k_SecondHelpingsModel_308 dX12_order_6 ?_
  refine h_putI C K hLx hkx f_12_298 p_12_30 dX12_order_9 (fun I_1246 hI_1246 => ?_)
  refine g_aload_n C 0 dX12_order_12 rfl rfl ?_
  refine g_aload_n C 0 dX12_order_13 rfl rfl ?_
  refine g_callVI C K (m_living0 W9 hLx hkx (((Z14).u2 hI_1245 rfl).u2k hI_1246 hkx (by decide))) hLx hkx (by decide) rfl v_12_309 rfl ⟨rfl, rfl⟩ ⟨Nat.le_of_ble_eq_true rfl, Nat.le_of_ble_eq_true rfl⟩ (Nat.le_of_ble_eq_true rfl) ⟨Nat.le_of_ble_eq_true rfl, Nat.le_of_ble_eq_true rfl⟩ dX12_order_14 rfl (st := [.ref x]) (fun r_1250 I_1247 J_1248 h_1249 => ?_)
  obtain ⟨rfl, rfl, er_1250⟩ := h_1249
  have h0r_1250 := er_1250
  subst er_1250
  refine g_callSI C K (m_bits0 ) s_12_312 rfl ⟨rfl, rfl⟩ ⟨Nat.le_of_ble_eq_true rfl, Nat.le_of_ble_eq_true rfl⟩ (Nat.le_of_ble_eq_true rfl) ⟨Nat.le_of_ble_eq_true rfl, Nat.le_of_ble_eq_true rfl⟩ dX12_order_17 rfl (st := [.ref x]) (fun r_1254 I_1251 J_1252 h_1253 => ?_)
  obtain ⟨rfl, rfl, er_1254⟩ := h_1253
  have h0r_1254 := er_1254
  subst er_1254
  refine h_putI C K hLx hkx f_12_315 p_12_29 dX12_order_20 (fun I_1255 hI_1255 => ?_)
  refine g_aload_n C 0 dX12_order_23 rfl rfl ?_
  refine g_iconst C (v := 0) dX12_order_24 (by decide) ?_
  refine g_aload_n C 0 dX12_order_25 rfl rfl ?_
  refine g_callVI C K (m_living0 W9 hLx hkx ((((Z14).u2 hI_1245 rfl).u2k hI_1246 hkx (by decide)).u2 hI_1255 rfl)) hLx hkx (by decide) rfl v_12_309 rfl ⟨rfl, rfl⟩ ⟨Nat.le_of_ble_eq_true rfl, Nat.le_of_ble_eq_true rfl⟩ (Nat.le_of_ble_eq_true rfl) ⟨Nat.le_of_ble_eq_true rfl, Nat.le_of_ble_eq_true rfl⟩ dX12_order_26 rfl (st := [.int 0, .ref x]) (fun r_1259 I_1256 J_1257 h_1258 => ?_)
  obtain ⟨rfl, rfl, er_1259⟩ := h_1258
  have h0r_1259 := er_1259
  subst er_1259
  refine g_callVV C K (m_orderFrom0 W9 hLx hkx ((((Z14).u2 hI_1245 rfl).u2k hI_1246 hkx (by decide)).u2 hI_1255 rfl) (by rw [hI_1255, u2_j (by decide), hI_1246]; exact u2_s)) hLx hkx (by decide) rfl v_12_304 rfl ⟨rfl, rfl⟩ ⟨Nat.le_of_ble_eq_true rfl, Nat.le_of_ble_eq_true rfl⟩ (Nat.le_of_ble_eq_true rfl) ⟨Nat.le_of_ble_eq_true rfl, Nat.le_of_ble_eq_true rfl⟩ dX12_order_29 rfl (st := []) (fun I_1260 J_1261 h_1262 => ?_)
  obtain ⟨rfl, f_1264, v_1266⟩ := h_1262
  refine g_aload_n C 0 dX12_order_32 rfl rfl ?_
  refine g_getI C K hLx hkx f_12_298 (v := 0) (v_1266) dX12_order_33 ?_
  exact g_zret (ty := .int) (r := 0) B K rfl rfl (rfl) dX12_order_36
set_option maxRecDepth 100000 in
set_option maxHeartbeats 4000000 in
theorem u_orderAt {l : Launch} {D : va_G} {cy : Nat → ClassId} {L : List Nat} {κ ln : Nat → Nat} {R : Nat → Nat → Option Nat} {I : Nat → Nat → Int32} {J : Nat → Nat → Int64} {ow : Nat → Nat × Nat} (W9 : ∀ a ∈ L, Shp L κ ln R ow a) {x : Nat} (hLx : x ∈ L) (hkx : κ x = 12) (FZ : Fz_ L κ I) (k : Int32) : CtI l yX12_orderAt cX12_orderAt 2 (some .int) { frames := 5, cells := 0, slots := 0, locals := 320 } D cy L κ ln R I J [.ref x, .int k] (fun r _ _ => r = -1) := by
  refine CtI.of (by decide +kernel) (Nat.le_of_ble_eq_true rfl) ?_
  intro p e s m below meth c B K
  have C := B.1
  have Z14 := fz_Z FZ 14 (by decide) (by decide) (by decide)
  refine g_lo (is := [0, 1]) (lo2 := [(0, .ref x), (1, .int k)]) rfl ?_
  refine g_aload_n C 0 dX12_orderAt_0 rfl rfl ?_
  refine g_iconst C (v := 0) dX12_orderAt_1 (by decide) ?_
  refine h_putI C K hLx hkx f_12_82 p_12_0 dX12_orderAt_2 (fun I_1267 hI_1267 => ?_)
  refine g_iload_n C 1 dX12_orderAt_5 rfl rfl ?_
  refine g_iconst C (v := 0) dX12_orderAt_6 (by decide) ?_
  refine g_aload_n C 0 dX12_orderAt_7 rfl rfl ?_
  refine g_getI C K hLx hkx f_12_315 (v := 0) (by rw [hI_1267, u2_j (by decide)]; exact (by rw [FZ x hLx 29, hkx]; rfl)) dX12_orderAt_8 ?_
  refine g_iconst C (v := 1) dX12_orderAt_11 (by decide) ?_
  refine g_isub C (v := (-1)) dX12_orderAt_12 (by decide) ?_
  refine g_callSI C K (c_Mod_isIn (k) (0) ((-1))) s_12_149 rfl ⟨rfl, rfl⟩ ⟨Nat.le_of_ble_eq_true rfl, Nat.le_of_ble_eq_true rfl⟩ (Nat.le_of_ble_eq_true rfl) ⟨Nat.le_of_ble_eq_true rfl, Nat.le_of_ble_eq_true rfl⟩ dX12_orderAt_13 rfl (st := []) (fun r_1271 I_1268 J_1269 h_1270 => ?_)
  obtain ⟨rfl, rfl, er_1271⟩ := h_1270
  have h0r_1271 := er_1271
  rw [z_in] at er_1271
  subst er_1271
  refine t_if_eq C (tgt := 28) (by decide) dX12_orderAt_16 (by decide) ?_
  refine g_iconst C (v := (-1)) dX12_orderAt_28 (by decide) ?_
  exact g_zret (ty := .int) (r := (-1)) B K rfl rfl (rfl) dX12_orderAt_29
set_option maxRecDepth 100000 in
set_option maxHeartbeats 4000000 in
theorem u_seatAt {l : Launch} {D : va_G} {cy : Nat → ClassId} {L : List Nat} {κ ln : Nat → Nat} {R : Nat → Nat → Option Nat} {I : Nat → Nat → Int32} {J : Nat → Nat → Int64} {ow : Nat → Nat × Nat} (W9 : ∀ a ∈ L, Shp L κ ln R ow a) {x : Nat} (hLx : x ∈ L) (hkx : κ x = 12) (FZ : Fz_ L κ I) (k : Int32) : CtI l yX12_seatAt cX12_seatAt 2 (some .int) { frames := 5, cells := 0, slots := 0, locals := 320 } D cy L κ ln R I J [.ref x, .int k] (fun r _ _ => r = -1) := by
  refine CtI.of (by decide +kernel) (Nat.le_of_ble_eq_true rfl) ?_
  intro p e s m below meth c B K
  have C := B.1
  have Z14 := fz_Z FZ 14 (by decide) (by decide) (by decide)
  refine g_lo (is := [0, 1]) (lo2 := [(0, .ref x), (1, .int k)]) rfl ?_
  refine g_aload_n C 0 dX12_seatAt_0 rfl rfl ?_
  refine g_iconst C (v := 0) dX12_seatAt_1 (by decide) ?_
  refine h_putI C K hLx hkx f_12_82 p_12_0 dX12_seatAt_2 (fun I_1272 hI_1272 => ?_)
  refine g_iload_n C 1 dX12_seatAt_5 rfl rfl ?_
  refine g_iconst C (v := 0) dX12_seatAt_6 (by decide) ?_
  refine g_aload_n C 0 dX12_seatAt_7 rfl rfl ?_
  refine g_getI C K hLx hkx f_12_326 (v := 0) (by rw [hI_1272, u2_j (by decide)]; exact (by rw [FZ x hLx 37, hkx]; rfl)) dX12_seatAt_8 ?_
  refine g_iconst C (v := 1) dX12_seatAt_11 (by decide) ?_
  refine g_isub C (v := (-1)) dX12_seatAt_12 (by decide) ?_
  refine g_callSI C K (c_Mod_isIn (k) (0) ((-1))) s_12_149 rfl ⟨rfl, rfl⟩ ⟨Nat.le_of_ble_eq_true rfl, Nat.le_of_ble_eq_true rfl⟩ (Nat.le_of_ble_eq_true rfl) ⟨Nat.le_of_ble_eq_true rfl, Nat.le_of_ble_eq_true rfl⟩ dX12_seatAt_13 rfl (st := []) (fun r_1276 I_1273 J_1274 h_1275 => ?_)
  obtain ⟨rfl, rfl, er_1276⟩ := h_1275
  have h0r_1276 := er_1276
  rw [z_in] at er_1276
  subst er_1276
  refine t_if_eq C (tgt := 28) (by decide) dX12_seatAt_16 (by decide) ?_
  refine g_iconst C (v := (-1)) dX12_seatAt_28 (by decide) ?_
  exact g_zret (ty := .int) (r := (-1)) B K rfl rfl (rfl) dX12_seatAt_29
set_option maxRecDepth 100000 in
set_option maxHeartbeats 4000000 in
theorem u_byteAt {l : Launch} {D : va_G} {cy : Nat → ClassId} {L : List Nat} {κ ln : Nat → Nat} {R : Nat → Nat → Option Nat} {I : Nat → Nat → Int32} {J : Nat → Nat → Int64} {ow : Nat → Nat × Nat} (W9 : ∀ a ∈ L, Shp L κ ln R ow a) {x : Nat} (hLx : x ∈ L) (hkx : κ x = 12) (FZ : Fz_ L κ I) (i : Int32) : CtI l yX12_byteAt cX12_byteAt 2 (some .int) { frames := 5, cells := 0, slots := 0, locals := 320 } D cy L κ ln R I J [.ref x, .int i] (fun r _ _ => r = -1) := by
  refine CtI.of (by decide +kernel) (Nat.le_of_ble_eq_true rfl) ?_
  intro p e s m below meth c B K
  have C := B.1
  have Z14 := fz_Z FZ 14 (by decide) (by decide) (by decide)
  refine g_lo (is := [0, 1]) (lo2 := [(0, .ref x), (1, .int i)]) rfl ?_
  refine g_aload_n C 0 dX12_byteAt_0 rfl rfl ?_
  refine g_iconst C (v := 0) dX12_byteAt_1 (by decide) ?_
  refine h_putI C K hLx hkx f_12_82 p_12_0 dX12_byteAt_2 (fun I_1277 hI_1277 => ?_)
  refine g_iload_n C 1 dX12_byteAt_5 rfl rfl ?_
  refine g_iconst C (v := 0) dX12_byteAt_6 (by decide) ?_
  refine g_aload_n C 0 dX12_byteAt_7 rfl rfl ?_
  refine g_getI C K hLx hkx f_12_335 (v := 0) (by rw [hI_1277, u2_j (by decide)]; exact (by rw [FZ x hLx 40, hkx]; rfl)) dX12_byteAt_8 ?_
  refine g_iconst C (v := 1) dX12_byteAt_11 (by decide) ?_
  refine g_isub C (v := (-1)) dX12_byteAt_12 (by decide) ?_
  refine g_callSI C K (c_Mod_isIn (i) (0) ((-1))) s_12_149 rfl ⟨rfl, rfl⟩ ⟨Nat.le_of_ble_eq_true rfl, Nat.le_of_ble_eq_true rfl⟩ (Nat.le_of_ble_eq_true rfl) ⟨Nat.le_of_ble_eq_true rfl, Nat.le_of_ble_eq_true rfl⟩ dX12_byteAt_13 rfl (st := []) (fun r_1281 I_1278 J_1279 h_1280 => ?_)
  obtain ⟨rfl, rfl, er_1281⟩ := h_1280
  have h0r_1281 := er_1281
  rw [z_in] at er_1281
  subst er_1281
  refine t_if_eq C (tgt := 28) (by decide) dX12_byteAt_16 (by decide) ?_
  refine g_iconst C (v := (-1)) dX12_byteAt_28 (by decide) ?_
  exact g_zret (ty := .int) (r := (-1)) B K rfl rfl (rfl) dX12_byteAt_29
set_option maxRecDepth 100000 in
set_option maxHeartbeats 4000000 in
theorem u_eaters {l : Launch} {D : va_G} {cy : Nat → ClassId} {L : List Nat} {κ ln : Nat → Nat} {R : Nat → Nat → Option Nat} {I : Nat → Nat → Int32} {J : Nat → Nat → Int64} {ow : Nat → Nat × Nat} (W9 : ∀ a ∈ L, Shp L κ ln R ow a) {x : Nat} (hLx : x ∈ L) (hkx : κ x = 12) (FZ : Fz_ L κ I) : CtI l yX12_eaters cX12_eaters 6 (some .int) { frames := 5, cells := 0, slots := 0, locals := 320 } D cy L κ ln R I J [.ref x] (fun r _ _ => r = -1) := by
  refine CtI.of (by decide +kernel) (Nat.le_of_ble_eq_true rfl) ?_
  intro p e s m below meth c B K
  have C := B.1
  have Z14 := fz_Z FZ 14 (by decide) (by decide) (by decide)
  refine g_lo (is := [0]) (lo2 := [(0, .ref x)]) rfl ?_
  refine g_aload_n C 0 dX12_eaters_0 rfl rfl ?_
  refine g_iconst C (v := 0) dX12_eaters_1 (by decide) ?_
  refine h_putI C K hLx hkx f_12_82 p_12_0 dX12_eaters_2 (fun I_1282 hI_1282 => ?_)
  refine g_aload_n C 0 dX12_eaters_5 rfl rfl ?_
  refine g_callVI C K (m_take0 hLx hkx (by rw [hI_1282, u2_j (by decide)]; exact (by rw [FZ x hLx 2, hkx]; rfl))) hLx hkx (by decide) rfl v_12_162 rfl ⟨rfl, rfl⟩ ⟨Nat.le_of_ble_eq_true rfl, Nat.le_of_ble_eq_true rfl⟩ (Nat.le_of_ble_eq_true rfl) ⟨Nat.le_of_ble_eq_true rfl, Nat.le_of_ble_eq_true rfl⟩ dX12_eaters_6 rfl (st := []) (fun r_1286 I_1283 J_1284 h_1285 => ?_)
  obtain ⟨rfl, f_1287, v_1289, rfl⟩ := h_1285
  refine g_iconst C (v := 2) dX12_eaters_9 (by decide) ?_
  refine t_icmp_ne C (tgt := 26) (by decide) dX12_eaters_10 (by decide) ?_
  refine g_iconst C (v := (-1)) dX12_eaters_26 (by decide) ?_
  exact g_zret (ty := .int) (r := (-1)) B K rfl rfl (rfl) dX12_eaters_27
set_option maxRecDepth 100000 in
set_option maxHeartbeats 4000000 in
theorem u_surely {l : Launch} {D : va_G} {cy : Nat → ClassId} {L : List Nat} {κ ln : Nat → Nat} {R : Nat → Nat → Option Nat} {I : Nat → Nat → Int32} {J : Nat → Nat → Int64} {ow : Nat → Nat × Nat} (W9 : ∀ a ∈ L, Shp L κ ln R ow a) {x : Nat} (hLx : x ∈ L) (hkx : κ x = 12) (FZ : Fz_ L κ I) : CtI l yX12_surely cX12_surely 1 (some .int) { frames := 5, cells := 0, slots := 0, locals := 320 } D cy L κ ln R I J [.ref x] (fun r _ _ => r = -1) := by
  refine CtI.of (by decide +kernel) (Nat.le_of_ble_eq_true rfl) ?_
  intro p e s m below meth c B K
  have C := B.1
  have Z14 := fz_Z FZ 14 (by decide) (by decide) (by decide)
  refine g_lo (is := [0]) (lo2 := [(0, .ref x)]) rfl ?_
  refine g_aload_n C 0 dX12_surely_0 rfl rfl ?_
  refine g_iconst C (v := 0) dX12_surely_1 (by decide) ?_
  refine h_putI C K hLx hkx f_12_82 p_12_0 dX12_surely_2 (fun I_1290 hI_1290 => ?_)
  refine g_aload_n C 0 dX12_surely_5 rfl rfl ?_
  refine g_getI C K hLx hkx f_12_54 (v := (-1)) (by rw [hI_1290, u2_j (by decide)]; exact (by rw [FZ x hLx 32, hkx]; rfl)) dX12_surely_6 ?_
  exact g_zret (ty := .int) (r := (-1)) B K rfl rfl (rfl) dX12_surely_9
set_option maxRecDepth 100000 in
set_option maxHeartbeats 4000000 in
theorem u_ask {l : Launch} {D : va_G} {cy : Nat → ClassId} {L : List Nat} {κ ln : Nat → Nat} {R : Nat → Nat → Option Nat} {I : Nat → Nat → Int32} {J : Nat → Nat → Int64} {ow : Nat → Nat × Nat} (W9 : ∀ a ∈ L, Shp L κ ln R ow a) {x : Nat} (hLx : x ∈ L) (hkx : κ x = 12) (FZ : Fz_ L κ I) : CtI l yX12_ask cX12_ask 1 (some .int) { frames := 5, cells := 0, slots := 0, locals := 320 } D cy L κ ln R I J [.ref x] (fun r _ _ => r = -1) := by
  refine CtI.of (by decide +kernel) (Nat.le_of_ble_eq_true rfl) ?_
  intro p e s m below meth c B K
  have C := B.1
  have Z14 := fz_Z FZ 14 (by decide) (by decide) (by decide)
  refine g_lo (is := [0]) (lo2 := [(0, .ref x)]) rfl ?_
  refine g_aload_n C 0 dX12_ask_0 rfl rfl ?_
  refine g_iconst C (v := 0) dX12_ask_1 (by decide) ?_
  refine h_putI C K hLx hkx f_12_82 p_12_0 dX12_ask_2 (fun I_1291 hI_1291 => ?_)
  refine g_aload_n C 0 dX12_ask_5 rfl rfl ?_
  refine g_getI C K hLx hkx f_12_58 (v := (-1)) (by rw [hI_1291, u2_j (by decide)]; exact (by rw [FZ x hLx 33, hkx]; rfl)) dX12_ask_6 ?_
  exact g_zret (ty := .int) (r := (-1)) B K rfl rfl (rfl) dX12_ask_9
set_option maxRecDepth 100000 in
set_option maxHeartbeats 4000000 in
theorem u_share {l : Launch} {D : va_G} {cy : Nat → ClassId} {L : List Nat} {κ ln : Nat → Nat} {R : Nat → Nat → Option Nat} {I : Nat → Nat → Int32} {J : Nat → Nat → Int64} {ow : Nat → Nat × Nat} (W9 : ∀ a ∈ L, Shp L κ ln R ow a) {x : Nat} (hLx : x ∈ L) (hkx : κ x = 12) (FZ : Fz_ L κ I) (d : Int32) (s1 : Int32) (p1 : Int32) : CtI l yX12_share cX12_share 11 (some .int) { frames := 5, cells := 0, slots := 0, locals := 320 } D cy L κ ln R I J [.ref x, .int d, .int s1, .int p1] (fun r _ _ => r = -1) := by
  refine CtI.of (by decide +kernel) (Nat.le_of_ble_eq_true rfl) ?_
  intro p e s m below meth c B K
  have C := B.1
  have Z14 := fz_Z FZ 14 (by decide) (by decide) (by decide)
  refine g_lo (is := [0, 1, 2, 3]) (lo2 := [(0, .ref x), (1, .int d), (2, .int s1), (3, .int p1)]) rfl ?_
  refine g_aload_n C 0 dX12_share_0 rfl rfl ?_
  refine g_iconst C (v := 0) dX12_share_1 (by decide) ?_
  refine h_putI C K hLx hkx f_12_82 p_12_0 dX12_share_2 (fun I_1292 hI_1292 => ?_)
  refine g_aload_n C 0 dX12_share_5 rfl rfl ?_
  refine g_iload_n C 1 dX12_share_6 rfl rfl ?_
  refine g_callVI C K (m_isDish0 W9 hLx hkx ((Z14).u2 hI_1292 rfl) d) hLx hkx (by decide) rfl v_12_250 rfl ⟨rfl, rfl⟩ ⟨Nat.le_of_ble_eq_true rfl, Nat.le_of_ble_eq_true rfl⟩ (Nat.le_of_ble_eq_true rfl) ⟨Nat.le_of_ble_eq_true rfl, Nat.le_of_ble_eq_true rfl⟩ dX12_share_7 rfl (st := []) (fun r_1296 I_1293 J_1294 h_1295 => ?_)
  obtain ⟨rfl, rfl, er_1296⟩ := h_1295
  have h0r_1296 := er_1296
  subst er_1296
  refine t_if_eq C (tgt := 45) (by decide) dX12_share_10 (by decide) ?_
  refine g_iconst C (v := (-1)) dX12_share_45 (by decide) ?_
  exact g_zret (ty := .int) (r := (-1)) B K rfl rfl (rfl) dX12_share_46
set_option maxRecDepth 100000 in
set_option maxHeartbeats 4000000 in
theorem u_last {l : Launch} {D : va_G} {cy : Nat → ClassId} {L : List Nat} {κ ln : Nat → Nat} {R : Nat → Nat → Option Nat} {I : Nat → Nat → Int32} {J : Nat → Nat → Int64} {ow : Nat → Nat × Nat} (W9 : ∀ a ∈ L, Shp L κ ln R ow a) {x : Nat} (hLx : x ∈ L) (hkx : κ x = 12) (FZ : Fz_ L κ I) (d : Int32) : CtI l yX12_last cX12_last 6 (some .int) { frames := 5, cells := 0, slots := 0, locals := 320 } D cy L κ ln R I J [.ref x, .int d] (fun r _ _ => r = -1) := by
  refine CtI.of (by decide +kernel) (Nat.le_of_ble_eq_true rfl) ?_
  intro p e s m below meth c B K
  have C := B.1
  have Z14 := fz_Z FZ 14 (by decide) (by decide) (by decide)
  refine g_lo (is := [0, 1]) (lo2 := [(0, .ref x), (1, .int d)]) rfl ?_
  refine g_aload_n C 0 dX12_last_0 rfl rfl ?_
  refine g_iconst C (v := 0) dX12_last_1 (by decide) ?_
  refine h_putI C K hLx hkx f_12_82 p_12_0 dX12_last_2 (fun I_1297 hI_1297 => ?_)
  refine g_aload_n C 0 dX12_last_5 rfl rfl ?_
  refine g_iload_n C 1 dX12_last_6 rfl rfl ?_
  refine g_callVI C K (m_isDish0 W9 hLx hkx ((Z14).u2 hI_1297 rfl) d) hLx hkx (by decide) rfl v_12_250 rfl ⟨rfl, rfl⟩ ⟨Nat.le_of_ble_eq_true rfl, Nat.le_of_ble_eq_true rfl⟩ (Nat.le_of_ble_eq_true rfl) ⟨Nat.le_of_ble_eq_true rfl, Nat.le_of_ble_eq_true rfl⟩ dX12_last_7 rfl (st := []) (fun r_1301 I_1298 J_1299 h_1300 => ?_)
  obtain ⟨rfl, rfl, er_1301⟩ := h_1300
  have h0r_1301 := er_1301
  subst er_1301
  refine n_if_ne C (tgt := 15) (by decide) dX12_last_10 (by decide) ?_
  refine g_iconst C (v := (-1)) dX12_last_13 (by decide) ?_
  exact g_zret (ty := .int) (r := (-1)) B K rfl rfl (rfl) dX12_last_14
set_option maxRecDepth 100000 in
set_option maxHeartbeats 4000000 in
theorem u_seats {l : Launch} {D : va_G} {cy : Nat → ClassId} {L : List Nat} {κ ln : Nat → Nat} {R : Nat → Nat → Option Nat} {I : Nat → Nat → Int32} {J : Nat → Nat → Int64} {ow : Nat → Nat × Nat} (W9 : ∀ a ∈ L, Shp L κ ln R ow a) {x : Nat} (hLx : x ∈ L) (hkx : κ x = 12) (FZ : Fz_ L κ I) : CtI l yX12_seats cX12_seats 1 (some .int) { frames := 5, cells := 0, slots := 0, locals := 320 } D cy L κ ln R I J [.ref x] (fun r _ _ => r = 0) := by
  refine CtI.of (by decide +kernel) (Nat.le_of_ble_eq_true rfl) ?_
  intro p e s m below meth c B K
  have C := B.1
  have Z14 := fz_Z FZ 14 (by decide) (by decide) (by decide)
  refine g_lo (is := [0]) (lo2 := [(0, .ref x)]) rfl ?_
  refine g_aload_n C 0 dX12_seats_0 rfl rfl ?_
  refine g_iconst C (v := 0) dX12_seats_1 (by decide) ?_
  refine h_putI C K hLx hkx f_12_82 p_12_0 dX12_seats_2 (fun I_1302 hI_1302 => ?_)
  refine g_aload_n C 0 dX12_seats_5 rfl rfl ?_
  refine g_iconst C (v := (-1)) dX12_seats_6 (by decide) ?_
  refine h_putI C K hLx hkx f_12_320 p_12_38 dX12_seats_7 (fun I_1303 hI_1303 => ?_)
  refine g_aload_n C 0 dX12_seats_10 rfl rfl ?_
  refine g_aload_n C 0 dX12_seats_11 rfl rfl ?_
  refine g_callVI C K (m_living0 W9 hLx hkx (((Z14).u2 hI_1302 rfl).u2k hI_1303 hkx (by decide))) hLx hkx (by decide) rfl v_12_309 rfl ⟨rfl, rfl⟩ ⟨Nat.le_of_ble_eq_true rfl, Nat.le_of_ble_eq_true rfl⟩ (Nat.le_of_ble_eq_true rfl) ⟨Nat.le_of_ble_eq_true rfl, Nat.le_of_ble_eq_true rfl⟩ dX12_seats_12 rfl (st := [.ref x]) (fun r_1307 I_1304 J_1305 h_1306 => ?_)
  obtain ⟨rfl, rfl, er_1307⟩ := h_1306
  have h0r_1307 := er_1307
  subst er_1307
  refine g_callSI C K (m_bits0 ) s_12_312 rfl ⟨rfl, rfl⟩ ⟨Nat.le_of_ble_eq_true rfl, Nat.le_of_ble_eq_true rfl⟩ (Nat.le_of_ble_eq_true rfl) ⟨Nat.le_of_ble_eq_true rfl, Nat.le_of_ble_eq_true rfl⟩ dX12_seats_15 rfl (st := [.ref x]) (fun r_1311 I_1308 J_1309 h_1310 => ?_)
  obtain ⟨rfl, rfl, er_1311⟩ := h_1310
  have h0r_1311 := er_1311
  subst er_1311
  refine h_putI C K hLx hkx f_12_326 p_12_37 dX12_seats_18 (fun I_1312 hI_1312 => ?_)
  refine g_aload_n C 0 dX12_seats_21 rfl rfl ?_
  refine g_iconst C (v := 0) dX12_seats_22 (by decide) ?_
  refine g_aload_n C 0 dX12_seats_23 rfl rfl ?_
  refine g_callVI C K (m_living0 W9 hLx hkx ((((Z14).u2 hI_1302 rfl).u2k hI_1303 hkx (by decide)).u2 hI_1312 rfl)) hLx hkx (by decide) rfl v_12_309 rfl ⟨rfl, rfl⟩ ⟨Nat.le_of_ble_eq_true rfl, Nat.le_of_ble_eq_true rfl⟩ (Nat.le_of_ble_eq_true rfl) ⟨Nat.le_of_ble_eq_true rfl, Nat.le_of_ble_eq_true rfl⟩ dX12_seats_24 rfl (st := [.int 0, .ref x]) (fun r_1316 I_1313 J_1314 h_1315 => ?_)
  obtain ⟨rfl, rfl, er_1316⟩ := h_1315
  have h0r_1316 := er_1316
  subst er_1316
  refine g_iconst C (v := 0) dX12_seats_27 (by decide) ?_
  refine g_callVV C K (m_seatFrom0 W9 hLx hkx (by rw [hI_1312, u2_j (by decide), hI_1303]; exact u2_s)) hLx hkx (by decide) rfl v_12_323 rfl ⟨rfl, rfl⟩ ⟨Nat.le_of_ble_eq_true rfl, Nat.le_of_ble_eq_true rfl⟩ (Nat.le_of_ble_eq_true rfl) ⟨Nat.le_of_ble_eq_true rfl, Nat.le_of_ble_eq_true rfl⟩ dX12_seats_28 rfl (st := []) (fun I_1317 J_1318 h_1319 => ?_)
  obtain ⟨rfl, f_1321, v_1323⟩ := h_1319
  refine g_aload_n C 0 dX12_seats_31 rfl rfl ?_
  refine g_getI C K hLx hkx f_12_320 (v := 0) (v_1323) dX12_seats_32 ?_
  exact g_zret (ty := .int) (r := 0) B K rfl rfl (rfl) dX12_seats_35
set_option maxRecDepth 100000 in
set_option maxHeartbeats 4000000 in
theorem u_left {l : Launch} {D : va_G} {cy : Nat → ClassId} {L : List Nat} {κ ln : Nat → Nat} {R : Nat → Nat → Option Nat} {I : Nat → Nat → Int32} {J : Nat → Nat → Int64} {ow : Nat → Nat × Nat} (W9 : ∀ a ∈ L, Shp L κ ln R ow a) {x : Nat} (hLx : x ∈ L) (hkx : κ x = 12) (FZ : Fz_ L κ I) (p1 : Int32) : CtI l yX12_left cX12_left 4 (some .int) { frames := 5, cells := 0, slots := 0, locals := 320 } D cy L κ ln R I J [.ref x, .int p1] (fun r _ _ => r = -1) := by
  refine CtI.of (by decide +kernel) (Nat.le_of_ble_eq_true rfl) ?_
  intro p e s m below meth c B K
  have C := B.1
  have Z14 := fz_Z FZ 14 (by decide) (by decide) (by decide)
  refine g_lo (is := [0, 1]) (lo2 := [(0, .ref x), (1, .int p1)]) rfl ?_
  refine g_aload_n C 0 dX12_left_0 rfl rfl ?_
  refine g_iconst C (v := 0) dX12_left_1 (by decide) ?_
  refine h_putI C K hLx hkx f_12_82 p_12_0 dX12_left_2 (fun I_1324 hI_1324 => ?_)
  refine g_aload_n C 0 dX12_left_5 rfl rfl ?_
  refine g_callVI C K (m_take0 hLx hkx (by rw [hI_1324, u2_j (by decide)]; exact (by rw [FZ x hLx 2, hkx]; rfl))) hLx hkx (by decide) rfl v_12_162 rfl ⟨rfl, rfl⟩ ⟨Nat.le_of_ble_eq_true rfl, Nat.le_of_ble_eq_true rfl⟩ (Nat.le_of_ble_eq_true rfl) ⟨Nat.le_of_ble_eq_true rfl, Nat.le_of_ble_eq_true rfl⟩ dX12_left_6 rfl (st := []) (fun r_1328 I_1325 J_1326 h_1327 => ?_)
  obtain ⟨rfl, f_1329, v_1331, rfl⟩ := h_1327
  refine g_istore_n C dX12_left_9 rfl (by decide) (lo2 := [(2, .int 0), (0, .ref x), (1, .int p1)]) rfl ?_
  refine g_aload_n C 1 dX12_left_10 rfl rfl ?_
  refine g_iload_n C 2 dX12_left_11 rfl rfl ?_
  refine g_callVI C K (m_isPerson0 W9 hLx hkx (((Z14).u2 hI_1324 rfl).fk f_1329 (by decide)) p1) hLx hkx (by decide) rfl v_12_238 rfl ⟨rfl, rfl⟩ ⟨Nat.le_of_ble_eq_true rfl, Nat.le_of_ble_eq_true rfl⟩ (Nat.le_of_ble_eq_true rfl) ⟨Nat.le_of_ble_eq_true rfl, Nat.le_of_ble_eq_true rfl⟩ dX12_left_12 rfl (st := []) (fun r_1335 I_1332 J_1333 h_1334 => ?_)
  obtain ⟨rfl, rfl, er_1335⟩ := h_1334
  have h0r_1335 := er_1335
  subst er_1335
  refine t_if_eq C (tgt := 28) (by decide) dX12_left_15 (by decide) ?_
  refine g_iconst C (v := (-1)) dX12_left_28 (by decide) ?_
  exact g_zret (ty := .int) (r := (-1)) B K rfl rfl (rfl) dX12_left_29
set_option maxRecDepth 100000 in
set_option maxHeartbeats 4000000 in
theorem u_kin {l : Launch} {D : va_G} {cy : Nat → ClassId} {L : List Nat} {κ ln : Nat → Nat} {R : Nat → Nat → Option Nat} {I : Nat → Nat → Int32} {J : Nat → Nat → Int64} {ow : Nat → Nat × Nat} (W9 : ∀ a ∈ L, Shp L κ ln R ow a) {x : Nat} (hLx : x ∈ L) (hkx : κ x = 12) (FZ : Fz_ L κ I) (p1 : Int32) (q : Int32) : CtI l yX12_kin cX12_kin 8 (some .int) { frames := 5, cells := 0, slots := 0, locals := 320 } D cy L κ ln R I J [.ref x, .int p1, .int q] (fun r _ _ => r = -1) := by
  refine CtI.of (by decide +kernel) (Nat.le_of_ble_eq_true rfl) ?_
  intro p e s m below meth c B K
  have C := B.1
  have Z14 := fz_Z FZ 14 (by decide) (by decide) (by decide)
  refine g_lo (is := [0, 1, 2]) (lo2 := [(0, .ref x), (1, .int p1), (2, .int q)]) rfl ?_
  refine g_aload_n C 0 dX12_kin_0 rfl rfl ?_
  refine g_iconst C (v := 0) dX12_kin_1 (by decide) ?_
  refine h_putI C K hLx hkx f_12_82 p_12_0 dX12_kin_2 (fun I_1336 hI_1336 => ?_)
  refine g_aload_n C 0 dX12_kin_5 rfl rfl ?_
  refine g_iload_n C 1 dX12_kin_6 rfl rfl ?_
  refine g_callVI C K (m_isPerson0 W9 hLx hkx ((Z14).u2 hI_1336 rfl) p1) hLx hkx (by decide) rfl v_12_238 rfl ⟨rfl, rfl⟩ ⟨Nat.le_of_ble_eq_true rfl, Nat.le_of_ble_eq_true rfl⟩ (Nat.le_of_ble_eq_true rfl) ⟨Nat.le_of_ble_eq_true rfl, Nat.le_of_ble_eq_true rfl⟩ dX12_kin_7 rfl (st := []) (fun r_1340 I_1337 J_1338 h_1339 => ?_)
  obtain ⟨rfl, rfl, er_1340⟩ := h_1339
  have h0r_1340 := er_1340
  subst er_1340
  refine t_if_eq C (tgt := 21) (by decide) dX12_kin_10 (by decide) ?_
  refine g_iconst C (v := (-1)) dX12_kin_21 (by decide) ?_
  exact g_zret (ty := .int) (r := (-1)) B K rfl rfl (rfl) dX12_kin_22
set_option maxRecDepth 100000 in
set_option maxHeartbeats 4000000 in
theorem u_hungriest {l : Launch} {D : va_G} {cy : Nat → ClassId} {L : List Nat} {κ ln : Nat → Nat} {R : Nat → Nat → Option Nat} {I : Nat → Nat → Int32} {J : Nat → Nat → Int64} {ow : Nat → Nat × Nat} (W9 : ∀ a ∈ L, Shp L κ ln R ow a) {x : Nat} (hLx : x ∈ L) (hkx : κ x = 12) (FZ : Fz_ L κ I) : CtI l yX12_hungriest cX12_hungriest 3 (some .int) { frames := 5, cells := 0, slots := 0, locals := 320 } D cy L κ ln R I J [.ref x] (fun r _ _ => r = -1) := by
  refine CtI.of (by decide +kernel) (Nat.le_of_ble_eq_true rfl) ?_
  intro p e s m below meth c B K
  have C := B.1
  have Z14 := fz_Z FZ 14 (by decide) (by decide) (by decide)
  refine g_lo (is := [0]) (lo2 := [(0, .ref x)]) rfl ?_
  refine g_aload_n C 0 dX12_hungriest_0 rfl rfl ?_
  refine g_iconst C (v := 0) dX12_hungriest_1 (by decide) ?_
  refine h_putI C K hLx hkx f_12_82 p_12_0 dX12_hungriest_2 (fun I_1341 hI_1341 => ?_)
  refine g_iconst C (v := (-1)) dX12_hungriest_5 (by decide) ?_
  refine g_istore_n C dX12_hungriest_6 rfl (by decide) (lo2 := [(1, .int (-1)), (0, .ref x)]) rfl ?_
  refine g_iconst C (v := 0) dX12_hungriest_7 (by decide) ?_
  refine g_istore_n C dX12_hungriest_8 rfl (by decide) (lo2 := [(2, .int 0), (1, .int (-1)), (0, .ref x)]) rfl ?_
  refine g_iload_n C 0 dX12_hungriest_9 rfl rfl ?_
  refine g_aload_n C 2 dX12_hungriest_10 rfl rfl ?_
  obtain ⟨b_1342, hb_1342, hb_1342L, hb_1342k, hb_1342n, hb_1342o⟩ := shp_a (W9 x hLx) hkx 14 14 389 rfl (by decide)
  refine g_getR C K hLx hkx f_12_13 hb_1342 dX12_hungriest_11 ?_
  refine g_iconst C (v := 0) dX12_hungriest_14 (by decide) ?_
  refine h_iald C K hb_1342L hb_1342k (v := 0) (0) (by decide) (by decide) (by rw [hb_1342n]; decide) (by rw [hI_1341, u2_k (κ := κ) (by rw [hb_1342k, hkx]; decide)]; exact Z14 b_1342 hb_1342L hb_1342k (0)) dX12_hungriest_15 ?_
  refine t_icmp_ge C (tgt := 61) (by decide) dX12_hungriest_16 (by decide) ?_
  refine g_iload_n C 1 dX12_hungriest_61 rfl rfl ?_
  exact g_zret (ty := .int) (r := (-1)) B K rfl rfl (rfl) dX12_hungriest_62
set_option maxRecDepth 100000 in
set_option maxHeartbeats 4000000 in
theorem u_odds {l : Launch} {D : va_G} {cy : Nat → ClassId} {L : List Nat} {κ ln : Nat → Nat} {R : Nat → Nat → Option Nat} {I : Nat → Nat → Int32} {J : Nat → Nat → Int64} {ow : Nat → Nat × Nat} (W9 : ∀ a ∈ L, Shp L κ ln R ow a) {x : Nat} (hLx : x ∈ L) (hkx : κ x = 12) (FZ : Fz_ L κ I) (p1 : Int32) (n : Int32) (s1 : Int32) : CtI l yX12_odds cX12_odds 6 (some .int) { frames := 5, cells := 0, slots := 0, locals := 320 } D cy L κ ln R I J [.ref x, .int p1, .int n, .int s1] (fun r _ _ => r = -1) := by
  refine CtI.of (by decide +kernel) (Nat.le_of_ble_eq_true rfl) ?_
  intro p e s m below meth c B K
  have C := B.1
  have Z14 := fz_Z FZ 14 (by decide) (by decide) (by decide)
  refine g_lo (is := [0, 1, 2, 3]) (lo2 := [(0, .ref x), (1, .int p1), (2, .int n), (3, .int s1)]) rfl ?_
  refine g_aload_n C 0 dX12_odds_0 rfl rfl ?_
  refine g_iconst C (v := 0) dX12_odds_1 (by decide) ?_
  refine h_putI C K hLx hkx f_12_82 p_12_0 dX12_odds_2 (fun I_1343 hI_1343 => ?_)
  refine g_aload_n C 0 dX12_odds_5 rfl rfl ?_
  refine g_iload_n C 1 dX12_odds_6 rfl rfl ?_
  refine g_callVI C K (m_isPerson0 W9 hLx hkx ((Z14).u2 hI_1343 rfl) p1) hLx hkx (by decide) rfl v_12_238 rfl ⟨rfl, rfl⟩ ⟨Nat.le_of_ble_eq_true rfl, Nat.le_of_ble_eq_true rfl⟩ (Nat.le_of_ble_eq_true rfl) ⟨Nat.le_of_ble_eq_true rfl, Nat.le_of_ble_eq_true rfl⟩ dX12_odds_7 rfl (st := []) (fun r_1347 I_1344 J_1345 h_1346 => ?_)
  obtain ⟨rfl, rfl, er_1347⟩ := h_1346
  have h0r_1347 := er_1347
  subst er_1347
  refine t_if_eq C (tgt := 23) (by decide) dX12_odds_10 (by decide) ?_
  refine g_iconst C (v := (-1)) dX12_odds_23 (by decide) ?_
  exact g_zret (ty := .int) (r := (-1)) B K rfl rfl (rfl) dX12_odds_24
set_option maxRecDepth 100000 in
set_option maxHeartbeats 4000000 in
theorem u_drawn {l : Launch} {D : va_G} {cy : Nat → ClassId} {L : List Nat} {κ ln : Nat → Nat} {R : Nat → Nat → Option Nat} {I : Nat → Nat → Int32} {J : Nat → Nat → Int64} {ow : Nat → Nat × Nat} (W9 : ∀ a ∈ L, Shp L κ ln R ow a) {x : Nat} (hLx : x ∈ L) (hkx : κ x = 12) (FZ : Fz_ L κ I) (n : Int32) (s1 : Int32) : CtI l yX12_drawn cX12_drawn 3 (some .int) { frames := 5, cells := 0, slots := 0, locals := 320 } D cy L κ ln R I J [.ref x, .int n, .int s1] (fun r _ _ => r = -1) := by
  refine CtI.of (by decide +kernel) (Nat.le_of_ble_eq_true rfl) ?_
  intro p e s m below meth c B K
  have C := B.1
  have Z14 := fz_Z FZ 14 (by decide) (by decide) (by decide)
  refine g_lo (is := [0, 1, 2]) (lo2 := [(0, .ref x), (1, .int n), (2, .int s1)]) rfl ?_
  refine g_aload_n C 0 dX12_drawn_0 rfl rfl ?_
  refine g_iconst C (v := 0) dX12_drawn_1 (by decide) ?_
  refine h_putI C K hLx hkx f_12_82 p_12_0 dX12_drawn_2 (fun I_1348 hI_1348 => ?_)
  refine g_iload_n C 1 dX12_drawn_5 rfl rfl ?_
  refine g_iconst C (v := 1) dX12_drawn_6 (by decide) ?_
  refine g_bipush C (v := 60) dX12_drawn_7 (by decide) ?_
  refine g_callSI C K (c_Mod_isIn (n) (1) (60)) s_12_149 rfl ⟨rfl, rfl⟩ ⟨Nat.le_of_ble_eq_true rfl, Nat.le_of_ble_eq_true rfl⟩ (Nat.le_of_ble_eq_true rfl) ⟨Nat.le_of_ble_eq_true rfl, Nat.le_of_ble_eq_true rfl⟩ dX12_drawn_9 rfl (st := []) (fun r_1352 I_1349 J_1350 h_1351 => ?_)
  obtain ⟨rfl, rfl, er_1352⟩ := h_1351
  have h0r_1352 := er_1352
  refine g_if_eq C (tgt := 24) dX12_drawn_12 (by decide) (fun h_1353 => ?_) (fun h_1353 => ?_)
  · skip
    subst h_1353
    refine g_iconst C (v := (-1)) dX12_drawn_24 (by decide) ?_
    exact g_zret (ty := .int) (r := (-1)) B K rfl rfl (rfl) dX12_drawn_25
  · skip
    refine g_aload_n C 0 dX12_drawn_15 rfl rfl ?_
    obtain ⟨b_1354, hb_1354, hb_1354L, hb_1354k, hb_1354n, hb_1354o⟩ := shp_a (W9 x hLx) hkx 14 14 389 rfl (by decide)
    refine g_getR C K hLx hkx f_12_13 hb_1354 dX12_drawn_16 ?_
    refine g_iconst C (v := 0) dX12_drawn_19 (by decide) ?_
    refine h_iald C K hb_1354L hb_1354k (v := 0) (0) (by decide) (by decide) (by rw [hb_1354n]; decide) (by rw [hI_1348, u2_k (κ := κ) (by rw [hb_1354k, hkx]; decide)]; exact Z14 b_1354 hb_1354L hb_1354k (0)) dX12_drawn_20 ?_
    refine n_if_ne C (tgt := 26) (by decide) dX12_drawn_21 (by decide) ?_
    refine g_iconst C (v := (-1)) dX12_drawn_24 (by decide) ?_
    exact g_zret (ty := .int) (r := (-1)) B K rfl rfl (rfl) dX12_drawn_25
set_option maxRecDepth 100000 in
set_option maxHeartbeats 4000000 in
theorem u_told {l : Launch} {D : va_G} {cy : Nat → ClassId} {L : List Nat} {κ ln : Nat → Nat} {R : Nat → Nat → Option Nat} {I : Nat → Nat → Int32} {J : Nat → Nat → Int64} {ow : Nat → Nat × Nat} (W9 : ∀ a ∈ L, Shp L κ ln R ow a) {x : Nat} (hLx : x ∈ L) (hkx : κ x = 12) (FZ : Fz_ L κ I) (w : Int32) : CtI l yX12_told cX12_told 2 (some .int) { frames := 5, cells := 0, slots := 0, locals := 320 } D cy L κ ln R I J [.ref x, .int w] (fun r _ _ => r = -1) := by
  refine CtI.of (by decide +kernel) (Nat.le_of_ble_eq_true rfl) ?_
  intro p e s m below meth c B K
  have C := B.1
  have Z14 := fz_Z FZ 14 (by decide) (by decide) (by decide)
  refine g_lo (is := [0, 1]) (lo2 := [(0, .ref x), (1, .int w)]) rfl ?_
  refine g_aload_n C 0 dX12_told_0 rfl rfl ?_
  refine g_iconst C (v := 0) dX12_told_1 (by decide) ?_
  refine h_putI C K hLx hkx f_12_82 p_12_0 dX12_told_2 (fun I_1355 hI_1355 => ?_)
  refine g_aload_n C 0 dX12_told_5 rfl rfl ?_
  refine g_getI C K hLx hkx f_12_373 (v := 0) (by rw [hI_1355, u2_j (by decide)]; exact (by rw [FZ x hLx 45, hkx]; rfl)) dX12_told_6 ?_
  refine t_if_eq C (tgt := 30) (by decide) dX12_told_9 (by decide) ?_
  refine g_iconst C (v := (-1)) dX12_told_30 (by decide) ?_
  exact g_zret (ty := .int) (r := (-1)) B K rfl rfl (rfl) dX12_told_31
set_option maxRecDepth 100000 in
set_option maxHeartbeats 4000000 in
theorem u_said {l : Launch} {D : va_G} {cy : Nat → ClassId} {L : List Nat} {κ ln : Nat → Nat} {R : Nat → Nat → Option Nat} {I : Nat → Nat → Int32} {J : Nat → Nat → Int64} {ow : Nat → Nat × Nat} (W9 : ∀ a ∈ L, Shp L κ ln R ow a) {x : Nat} (hLx : x ∈ L) (hkx : κ x = 12) (FZ : Fz_ L κ I) (k : Int32) : CtI l yX12_said cX12_said 4 (some .int) { frames := 5, cells := 0, slots := 0, locals := 320 } D cy L κ ln R I J [.ref x, .int k] (fun r _ _ => r = -1) := by
  refine CtI.of (by decide +kernel) (Nat.le_of_ble_eq_true rfl) ?_
  intro p e s m below meth c B K
  have C := B.1
  have Z14 := fz_Z FZ 14 (by decide) (by decide) (by decide)
  refine g_lo (is := [0, 1]) (lo2 := [(0, .ref x), (1, .int k)]) rfl ?_
  refine g_aload_n C 0 dX12_said_0 rfl rfl ?_
  refine g_iconst C (v := 0) dX12_said_1 (by decide) ?_
  refine h_putI C K hLx hkx f_12_82 p_12_0 dX12_said_2 (fun I_1356 hI_1356 => ?_)
  refine g_aload_n C 0 dX12_said_5 rfl rfl ?_
  obtain ⟨b_1357, hb_1357, hb_1357L, hb_1357k, hb_1357n, hb_1357o⟩ := shp_a (W9 x hLx) hkx 14 14 389 rfl (by decide)
  refine g_getR C K hLx hkx f_12_13 hb_1357 dX12_said_6 ?_
  refine g_sipush C (v := 147) dX12_said_9 (by decide) ?_
  refine h_iald C K hb_1357L hb_1357k (v := 0) (147) (by decide) (by decide) (by rw [hb_1357n]; decide) (by rw [hI_1356, u2_j (by decide)]; exact Z14 b_1357 hb_1357L hb_1357k (147)) dX12_said_12 ?_
  refine n_if_ne C (tgt := 18) (by decide) dX12_said_13 (by decide) ?_
  refine g_iconst C (v := (-1)) dX12_said_16 (by decide) ?_
  exact g_zret (ty := .int) (r := (-1)) B K rfl rfl (rfl) dX12_said_17
set_option maxRecDepth 100000 in
set_option maxHeartbeats 4000000 in
theorem u_sentence {l : Launch} {D : va_G} {cy : Nat → ClassId} {L : List Nat} {κ ln : Nat → Nat} {R : Nat → Nat → Option Nat} {I : Nat → Nat → Int32} {J : Nat → Nat → Int64} {ow : Nat → Nat × Nat} (W9 : ∀ a ∈ L, Shp L κ ln R ow a) {x : Nat} (hLx : x ∈ L) (hkx : κ x = 12) (FZ : Fz_ L κ I) : CtI l yX12_sentence cX12_sentence 2 (some .int) { frames := 5, cells := 0, slots := 0, locals := 320 } D cy L κ ln R I J [.ref x] (fun r _ _ => r = -1) := by
  refine CtI.of (by decide +kernel) (Nat.le_of_ble_eq_true rfl) ?_
  intro p e s m below meth c B K
  have C := B.1
  have Z14 := fz_Z FZ 14 (by decide) (by decide) (by decide)
  refine g_lo (is := [0]) (lo2 := [(0, .ref x)]) rfl ?_
  refine g_aload_n C 0 dX12_sentence_0 rfl rfl ?_
  refine g_sipush C (v := 200) dX12_sentence_1 (by decide) ?_
  refine g_callVV C K (m_begin0_200 hLx hkx ((by rw [FZ x hLx 2, hkx]; rfl))) hLx hkx (by decide) rfl v_12_216 rfl ⟨rfl, rfl⟩ ⟨Nat.le_of_ble_eq_true rfl, Nat.le_of_ble_eq_true rfl⟩ (Nat.le_of_ble_eq_true rfl) ⟨Nat.le_of_ble_eq_true rfl, Nat.le_of_ble_eq_true rfl⟩ dX12_sentence_4 rfl (st := []) (fun I_1358 J_1359 h_1360 => ?_)
  obtain ⟨rfl, f_1362, v_1364, v_1365, v_1366⟩ := h_1360
  refine g_aload_n C 0 dX12_sentence_7 rfl rfl ?_
  refine g_iconst C (v := 0) dX12_sentence_8 (by decide) ?_
  refine h_putI C K hLx hkx f_12_380 p_12_47 dX12_sentence_9 (fun I_1367 hI_1367 => ?_)
  refine g_aload_n C 0 dX12_sentence_12 rfl rfl ?_
  refine g_iconst C (v := 0) dX12_sentence_13 (by decide) ?_
  refine h_putI C K hLx hkx f_12_395 p_12_48 dX12_sentence_14 (fun I_1368 hI_1368 => ?_)
  refine g_aload_n C 0 dX12_sentence_17 rfl rfl ?_
  refine g_iconst C (v := 0) dX12_sentence_18 (by decide) ?_
  refine h_putI C K hLx hkx f_12_398 p_12_49 dX12_sentence_19 (fun I_1369 hI_1369 => ?_)
  refine g_aload_n C 0 dX12_sentence_22 rfl rfl ?_
  refine g_callVI C K (m_readOr0 hLx hkx (by rw [hI_1369, u2_j (by decide), hI_1368, u2_j (by decide), hI_1367, u2_j (by decide)]; exact v_1364) (by rw [hI_1369, u2_j (by decide), hI_1368, u2_j (by decide), hI_1367, u2_j (by decide)]; exact v_1365)) hLx hkx (by decide) rfl v_12_413 rfl ⟨rfl, rfl⟩ ⟨Nat.le_of_ble_eq_true rfl, Nat.le_of_ble_eq_true rfl⟩ (Nat.le_of_ble_eq_true rfl) ⟨Nat.le_of_ble_eq_true rfl, Nat.le_of_ble_eq_true rfl⟩ dX12_sentence_23 rfl (st := []) (fun r_1373 I_1370 J_1371 h_1372 => ?_)
  obtain ⟨rfl, f_1374, v_1376, rfl⟩ := h_1372
  refine n_if_ne C (tgt := 36) (by decide) dX12_sentence_26 (by decide) ?_
  refine g_iconst C (v := (-1)) dX12_sentence_29 (by decide) ?_
  refine g_aload_n C 0 dX12_sentence_30 rfl rfl ?_
  refine g_getI C K hLx hkx f_12_143 (v := 0) (v_1376) dX12_sentence_31 ?_
  refine g_isub C (v := (-1)) dX12_sentence_34 (by decide) ?_
  exact g_zret (ty := .int) (r := (-1)) B K rfl rfl (rfl) dX12_sentence_35
set_option maxRecDepth 100000 in
set_option maxHeartbeats 4000000 in
theorem u_count {l : Launch} {D : va_G} {cy : Nat → ClassId} {L : List Nat} {κ ln : Nat → Nat} {R : Nat → Nat → Option Nat} {I : Nat → Nat → Int32} {J : Nat → Nat → Int64} {ow : Nat → Nat × Nat} (W9 : ∀ a ∈ L, Shp L κ ln R ow a) {x : Nat} (hLx : x ∈ L) (hkx : κ x = 12) (FZ : Fz_ L κ I) (w : Int32) : CtI l yX12_count cX12_count 2 (some .int) { frames := 5, cells := 0, slots := 0, locals := 320 } D cy L κ ln R I J [.ref x, .int w] (fun r _ _ => r = if 0 ≤ w ∧ w ≤ 4 then 0 else -1) := by
  refine CtI.of (by decide +kernel) (Nat.le_of_ble_eq_true rfl) ?_
  intro p e s m below meth c B K
  have C := B.1
  have Z14 := fz_Z FZ 14 (by decide) (by decide) (by decide)
  refine g_lo (is := [0, 1]) (lo2 := [(0, .ref x), (1, .int w)]) rfl ?_
  refine g_aload_n C 0 dX12_count_0 rfl rfl ?_
  refine g_iconst C (v := 0) dX12_count_1 (by decide) ?_
  refine h_putI C K hLx hkx f_12_82 p_12_0 dX12_count_2 (fun I_1377 hI_1377 => ?_)
  refine g_iload_n C 1 dX12_count_5 rfl rfl ?_
  rcases pk_ix w (n := 5) (by decide) with hsw | hsw | ⟨i_1378, hi_1379, rfl⟩
  · skip
    refine g_tableOut C (tgt := 73) dX12_count_6 (Or.inl (sw_lt hsw)) (by decide) ?_
    refine g_iconst C (v := (-1)) dX12_count_73 (by decide) ?_
    exact g_zret (ty := .int) (r := (-1)) B K rfl rfl (p_lo hsw) dX12_count_74
  · skip
    refine g_tableOut C (tgt := 73) dX12_count_6 (Or.inr (sw_ge hsw (by decide))) (by decide) ?_
    refine g_iconst C (v := (-1)) dX12_count_73 (by decide) ?_
    exact g_zret (ty := .int) (r := (-1)) B K rfl rfl (p_hi' hsw (by decide)) dX12_count_74
  · rcases (show i_1378 = 0 ∨ i_1378 = 1 ∨ i_1378 = 2 ∨ i_1378 = 3 ∨ i_1378 = 4 by omega) with rfl | rfl | rfl | rfl | rfl
    · skip
      refine g_tableIn C (tgt := 40) dX12_count_6 (by decide) (by decide) (off := 34) (by decide) (by decide) ?_
      refine g_aload_n C 0 dX12_count_40 rfl rfl ?_
      obtain ⟨b_1380, hb_1380, hb_1380L, hb_1380k, hb_1380n, hb_1380o⟩ := shp_a (W9 x hLx) hkx 14 14 389 rfl (by decide)
      refine g_getR C K hLx hkx f_12_13 hb_1380 dX12_count_41 ?_
      refine g_iconst C (v := 0) dX12_count_44 (by decide) ?_
      refine h_iald C K hb_1380L hb_1380k (v := 0) (0) (by decide) (by decide) (by rw [hb_1380n]; decide) (by rw [hI_1377, u2_k (κ := κ) (by rw [hb_1380k, hkx]; decide)]; exact Z14 b_1380 hb_1380L hb_1380k (0)) dX12_count_45 ?_
      exact g_zret (ty := .int) (r := 0) B K rfl rfl (by decide) dX12_count_46
    · skip
      refine g_tableIn C (tgt := 47) dX12_count_6 (by decide) (by decide) (off := 41) (by decide) (by decide) ?_
      refine g_aload_n C 0 dX12_count_47 rfl rfl ?_
      obtain ⟨b_1381, hb_1381, hb_1381L, hb_1381k, hb_1381n, hb_1381o⟩ := shp_a (W9 x hLx) hkx 14 14 389 rfl (by decide)
      refine g_getR C K hLx hkx f_12_13 hb_1381 dX12_count_48 ?_
      refine g_iconst C (v := 1) dX12_count_51 (by decide) ?_
      refine h_iald C K hb_1381L hb_1381k (v := 0) (1) (by decide) (by decide) (by rw [hb_1381n]; decide) (by rw [hI_1377, u2_j (by decide)]; exact Z14 b_1381 hb_1381L hb_1381k (1)) dX12_count_52 ?_
      exact g_zret (ty := .int) (r := 0) B K rfl rfl (by decide) dX12_count_53
    · skip
      refine g_tableIn C (tgt := 54) dX12_count_6 (by decide) (by decide) (off := 48) (by decide) (by decide) ?_
      refine g_aload_n C 0 dX12_count_54 rfl rfl ?_
      obtain ⟨b_1382, hb_1382, hb_1382L, hb_1382k, hb_1382n, hb_1382o⟩ := shp_a (W9 x hLx) hkx 14 14 389 rfl (by decide)
      refine g_getR C K hLx hkx f_12_13 hb_1382 dX12_count_55 ?_
      refine g_iconst C (v := 2) dX12_count_58 (by decide) ?_
      refine h_iald C K hb_1382L hb_1382k (v := 0) (2) (by decide) (by decide) (by rw [hb_1382n]; decide) (by rw [hI_1377, u2_j (by decide)]; exact Z14 b_1382 hb_1382L hb_1382k (2)) dX12_count_59 ?_
      exact g_zret (ty := .int) (r := 0) B K rfl rfl (by decide) dX12_count_60
    · skip
      refine g_tableIn C (tgt := 61) dX12_count_6 (by decide) (by decide) (off := 55) (by decide) (by decide) ?_
      refine g_aload_n C 0 dX12_count_61 rfl rfl ?_
      obtain ⟨b_1383, hb_1383, hb_1383L, hb_1383k, hb_1383n, hb_1383o⟩ := shp_a (W9 x hLx) hkx 14 14 389 rfl (by decide)
      refine g_getR C K hLx hkx f_12_13 hb_1383 dX12_count_62 ?_
      refine g_iconst C (v := 3) dX12_count_65 (by decide) ?_
      refine h_iald C K hb_1383L hb_1383k (v := 0) (3) (by decide) (by decide) (by rw [hb_1383n]; decide) (by rw [hI_1377, u2_j (by decide)]; exact Z14 b_1383 hb_1383L hb_1383k (3)) dX12_count_66 ?_
      exact g_zret (ty := .int) (r := 0) B K rfl rfl (by decide) dX12_count_67
    · skip
      refine g_tableIn C (tgt := 68) dX12_count_6 (by decide) (by decide) (off := 62) (by decide) (by decide) ?_
      refine g_aload_n C 0 dX12_count_68 rfl rfl ?_
      refine g_getI C K hLx hkx f_12_85 (v := 0) (by rw [hI_1377, u2_j (by decide)]; exact (by rw [FZ x hLx 2, hkx]; rfl)) dX12_count_69 ?_
      exact g_zret (ty := .int) (r := 0) B K rfl rfl (by decide) dX12_count_72
theorem m_01 {v : Int32} (h : 0 ≤ v ∧ v ≤ 1) : v = 0 ∨ v = 1 := by
  have a1 := Int32.le_iff_toInt_le.mp h.1
  have a2 := Int32.le_iff_toInt_le.mp h.2
  have e1 : (0 : Int32).toInt = 0 := rfl
  have e2 : (1 : Int32).toInt = 1 := rfl
  rcases (show v.toInt = 0 ∨ v.toInt = 1 by omega) with q | q
  · exact Or.inl (Int32.toInt_inj.mp (by rw [q, e1]))
  · exact Or.inr (Int32.toInt_inj.mp (by rw [q, e2]))
set_option maxRecDepth 100000 in
set_option maxHeartbeats 4000000 in
theorem u_image {l : Launch} {D : va_G} {cy : Nat → ClassId} {L : List Nat} {κ ln : Nat → Nat} {R : Nat → Nat → Option Nat} {I : Nat → Nat → Int32} {J : Nat → Nat → Int64} {ow : Nat → Nat × Nat} (W9 : ∀ a ∈ L, Shp L κ ln R ow a) {x : Nat} (hLx : x ∈ L) (hkx : κ x = 12) (FZ : Fz_ L κ I) (k : Int32) : CtI l yX12_image cX12_image 3 (some .boolean) { frames := 5, cells := 0, slots := 0, locals := 320 } D cy L κ ln R I J [.ref x, .int k] (fun r _ _ => r = if 0 ≤ k ∧ k ≤ 1 then 1 else 0) := by
  refine CtI.of (by decide +kernel) (Nat.le_of_ble_eq_true rfl) ?_
  intro p e s m below meth c B K
  have C := B.1
  have Z14 := fz_Z FZ 14 (by decide) (by decide) (by decide)
  refine g_lo (is := [0, 1]) (lo2 := [(0, .ref x), (1, .int k)]) rfl ?_
  refine g_aload_n C 0 dX12_image_0 rfl rfl ?_
  refine g_iconst C (v := 0) dX12_image_1 (by decide) ?_
  refine h_putI C K hLx hkx f_12_82 p_12_0 dX12_image_2 (fun I_1384 hI_1384 => ?_)
  refine g_iload_n C 1 dX12_image_5 rfl rfl ?_
  refine g_iconst C (v := 0) dX12_image_6 (by decide) ?_
  refine g_iconst C (v := 1) dX12_image_7 (by decide) ?_
  refine g_callSI C K (c_Mod_isIn (k) (0) (1)) s_12_149 rfl ⟨rfl, rfl⟩ ⟨Nat.le_of_ble_eq_true rfl, Nat.le_of_ble_eq_true rfl⟩ (Nat.le_of_ble_eq_true rfl) ⟨Nat.le_of_ble_eq_true rfl, Nat.le_of_ble_eq_true rfl⟩ dX12_image_8 rfl (st := []) (fun r_1388 I_1385 J_1386 h_1387 => ?_)
  obtain ⟨rfl, rfl, er_1388⟩ := h_1387
  have h0r_1388 := er_1388
  refine g_if_ne C (tgt := 16) dX12_image_11 (by decide) (fun h_1389 => ?_) (fun h_1389 => ?_)
  · skip
    have hin := is_1 er_1388 h_1389
    obtain ⟨N, hN, rfl⟩ := mk_i (Int32.not_lt.mpr hin.1) (fun q => absurd (Int32.lt_of_lt_of_le (show (1 : Int32) < 2 by decide) (Int32.le_trans q hin.2)) (by decide))
    refine g_iconst C (v := 0) dX12_image_16 (by decide) ?_
    refine g_istore_n C dX12_image_17 rfl (by decide) (lo2 := [(2, .int 0), (0, .ref x), (1, .int (nI N))]) rfl ?_
    have lp_1397 : ∀ (n_1393 i_1392 : Nat) (I_1390 : Nat → Nat → Int32) (J_1391 : Nat → Nat → Int64), i_1392 + n_1393 = 389 → J = J_1391 → Fk κ [14] I_1384 I_1390 → WG p l e { frames := 5, cells := 0, slots := 0, locals := 320 } s m ([.ref x, .int (nI N)] : List Value).toArray below meth c 3 0 0 (MQ below (Qi_ D cy L κ ln R (fun r _ _ => r = if 0 ≤ (nI N) ∧ (nI N) ≤ 1 then 1 else 0)) ([.ref x, .int (nI N)] : List Value).toArray s 0 0 (Al_ L)) D cy (Al_ L) s.heap L κ ln R I_1390 J_1391 18 [(2, .int (nI i_1392)), (0, .ref x), (1, .int (nI N))] [] := by
      intro n_1393
      induction n_1393 with
      | zero =>
        intro i_1392 I_1390 J_1391 hi_1396 e9 F_1394
        subst e9
        refine g_iload_n C 0 dX12_image_18 rfl rfl ?_
        refine g_sipush C (v := 389) dX12_image_19 (by decide) ?_
        refine t_icmp_ge C (tgt := 49) (lt_ge (n := i_1392) (k := 389) (by omega) (by omega)) dX12_image_22 (by decide) ?_
        refine g_iconst C (v := 0) dX12_image_49 (by decide) ?_
        refine g_istore_n C dX12_image_50 rfl (by decide) (lo2 := [(2, .int 0), (0, .ref x), (1, .int (nI N))]) rfl ?_
        have lp_1405 : ∀ (n_1401 i_1400 : Nat) (I_1398 : Nat → Nat → Int32) (J_1399 : Nat → Nat → Int64), i_1400 + n_1401 = 13 → Fj κ [15] J J_1399 → Fk κ [] I_1390 I_1398 → WG p l e { frames := 5, cells := 0, slots := 0, locals := 320 } s m ([.ref x, .int (nI N)] : List Value).toArray below meth c 3 0 0 (MQ below (Qi_ D cy L κ ln R (fun r _ _ => r = if 0 ≤ (nI N) ∧ (nI N) ≤ 1 then 1 else 0)) ([.ref x, .int (nI N)] : List Value).toArray s 0 0 (Al_ L)) D cy (Al_ L) s.heap L κ ln R I_1398 J_1399 51 [(2, .int (nI i_1400)), (0, .ref x), (1, .int (nI N))] [] := by
          intro n_1401
          induction n_1401 with
          | zero =>
            intro i_1400 I_1398 J_1399 hi_1404 G_1403 F_1402
            refine g_iload_n C 0 dX12_image_51 rfl rfl ?_
            refine g_bipush C (v := 13) dX12_image_52 (by decide) ?_
            refine t_icmp_ge C (tgt := 80) (lt_ge (n := i_1400) (k := 13) (by omega) (by omega)) dX12_image_54 (by decide) ?_
            refine g_aload_n C 1 dX12_image_80 rfl rfl ?_
            obtain ⟨b_1406, hb_1406, hb_1406L, hb_1406k, hb_1406n, hb_1406o⟩ := shp_a (W9 x hLx) hkx 22 16 2 rfl (by decide)
            refine g_getR C K hLx hkx f_12_38 hb_1406 dX12_image_81 ?_
            refine g_iload_n C 2 dX12_image_84 rfl rfl ?_
            refine g_iconst C (v := 1) dX12_image_85 (by decide) ?_
            refine h_zast C K hb_1406L hb_1406k (N) (nI_clamp (by omega)) (nI_pos (by omega)) (by rw [hb_1406n]; omega) dX12_image_86 (fun I_1407 hI_1407 => ?_)
            refine g_iconst C (v := 1) dX12_image_87 (by decide) ?_
            exact g_zret (ty := .boolean) (r := 1) B K rfl (by decide) (p_in ⟨lt_ge (k := 0) (by omega) (by omega), lt_le (k := 1) (by omega) (by decide)⟩) dX12_image_88
          | succ n_1401 ihn_1401 =>
            intro i_1400 I_1398 J_1399 hi_1404 G_1403 F_1402
            refine g_iload_n C 0 dX12_image_51 rfl rfl ?_
            refine g_bipush C (v := 13) dX12_image_52 (by decide) ?_
            refine n_icmp_ge C (tgt := 80) (ln_ge (n := i_1400) (k := 13) (by omega) (by omega)) dX12_image_54 (by decide) ?_
            refine g_aload_n C 1 dX12_image_57 rfl rfl ?_
            obtain ⟨b_1408, hb_1408, hb_1408L, hb_1408k, hb_1408n, hb_1408o⟩ := shp_a (W9 x hLx) hkx 21 15 26 rfl (by decide)
            refine g_getR C K hLx hkx f_12_35 hb_1408 dX12_image_58 ?_
            refine g_bipush C (v := 13) dX12_image_61 (by decide) ?_
            refine g_iload_n C 2 dX12_image_63 rfl rfl ?_
            refine g_imul C (v := nI (13 * N)) dX12_image_64 (pk_mul 13 (N)) ?_
            refine g_iload_n C 0 dX12_image_65 rfl rfl ?_
            refine g_iadd C (v := nI (13 * N + i_1400)) dX12_image_66 (nI_add (13 * N) (i_1400)) ?_
            refine g_aload_n C 1 dX12_image_67 rfl rfl ?_
            obtain ⟨b_1409, hb_1409, hb_1409L, hb_1409k, hb_1409n, hb_1409o⟩ := shp_a (W9 x hLx) hkx 19 15 13 rfl (by decide)
            refine g_getR C K hLx hkx f_12_28 hb_1409 dX12_image_68 ?_
            refine g_iload_n C 0 dX12_image_71 rfl rfl ?_
            obtain ⟨x_1410, hx_1410⟩ : ∃ z, J_1399 b_1409 (i_1400) = z := ⟨_, rfl⟩
            refine h_lald C K hb_1409L hb_1409k (v := x_1410) (i_1400) (nI_clamp (by omega)) (nI_pos (by omega)) (by rw [hb_1409n]; omega) (hx_1410) dX12_image_72 ?_
            refine h_last C K hb_1408L hb_1408k (13 * N + i_1400) (nI_clamp (by omega)) (nI_pos (by omega)) (by rw [hb_1408n]; omega) dX12_image_73 (fun J_1411 hJ_1411 => ?_)
            refine g_iinc C dX12_image_74 (k := 0) (v := nI (i_1400 + 1)) rfl (nI_1 (i_1400)) (by decide) (lo2 := [(2, .int (nI (i_1400 + 1))), (0, .ref x), (1, .int (nI N))]) rfl ?_
            refine g_goto C (tgt := 51) dX12_image_77 (by decide) ?_
            refine g_lo (is := [0, 1, 2]) (lo2 := [(2, .int (nI (i_1400 + 1))), (0, .ref x), (1, .int (nI N))]) rfl ?_
            exact ihn_1401 (i_1400 + 1) I_1398 J_1411 (by omega) ((G_1403).u2 hJ_1411 hb_1408k (by decide)) (F_1402)
        exact lp_1405 (13 - 0) 0 I_1390 J (by omega) Fj.rf Fk.rf
      | succ n_1393 ihn_1393 =>
        intro i_1392 I_1390 J_1391 hi_1396 e9 F_1394
        subst e9
        refine g_iload_n C 0 dX12_image_18 rfl rfl ?_
        refine g_sipush C (v := 389) dX12_image_19 (by decide) ?_
        refine n_icmp_ge C (tgt := 49) (ln_ge (n := i_1392) (k := 389) (by omega) (by omega)) dX12_image_22 (by decide) ?_
        refine g_aload_n C 1 dX12_image_25 rfl rfl ?_
        obtain ⟨b_1412, hb_1412, hb_1412L, hb_1412k, hb_1412n, hb_1412o⟩ := shp_a (W9 x hLx) hkx 16 14 778 rfl (by decide)
        refine g_getR C K hLx hkx f_12_19 hb_1412 dX12_image_26 ?_
        refine g_sipush C (v := 389) dX12_image_29 (by decide) ?_
        refine g_iload_n C 2 dX12_image_32 rfl rfl ?_
        refine g_imul C (v := nI (389 * N)) dX12_image_33 (pk_mul 389 (N)) ?_
        refine g_iload_n C 0 dX12_image_34 rfl rfl ?_
        refine g_iadd C (v := nI (389 * N + i_1392)) dX12_image_35 (nI_add (389 * N) (i_1392)) ?_
        refine g_aload_n C 1 dX12_image_36 rfl rfl ?_
        obtain ⟨b_1413, hb_1413, hb_1413L, hb_1413k, hb_1413n, hb_1413o⟩ := shp_a (W9 x hLx) hkx 14 14 389 rfl (by decide)
        refine g_getR C K hLx hkx f_12_13 hb_1413 dX12_image_37 ?_
        refine g_iload_n C 0 dX12_image_40 rfl rfl ?_
        obtain ⟨x_1414, hx_1414⟩ : ∃ z, I_1390 b_1413 (i_1392) = z := ⟨_, rfl⟩
        refine h_iald C K hb_1413L hb_1413k (v := x_1414) (i_1392) (nI_clamp (by omega)) (nI_pos (by omega)) (by rw [hb_1413n]; omega) (hx_1414) dX12_image_41 ?_
        refine h_iast C K hb_1412L hb_1412k (389 * N + i_1392) (nI_clamp (by omega)) (nI_pos (by omega)) (by rw [hb_1412n]; omega) dX12_image_42 (fun I_1415 hI_1415 => ?_)
        refine g_iinc C dX12_image_43 (k := 0) (v := nI (i_1392 + 1)) rfl (nI_1 (i_1392)) (by decide) (lo2 := [(2, .int (nI (i_1392 + 1))), (0, .ref x), (1, .int (nI N))]) rfl ?_
        refine g_goto C (tgt := 18) dX12_image_46 (by decide) ?_
        refine g_lo (is := [0, 1, 2]) (lo2 := [(2, .int (nI (i_1392 + 1))), (0, .ref x), (1, .int (nI N))]) rfl ?_
        exact ihn_1393 (i_1392 + 1) I_1415 J (by omega) rfl ((F_1394).u2 hI_1415 hb_1412k (by decide))
    exact lp_1397 (389 - 0) 0 I_1384 J (by omega) rfl Fk.rf
  · skip
    subst h_1389
    refine g_iconst C (v := 0) dX12_image_14 (by decide) ?_
    exact g_zret (ty := .boolean) (r := 0) B K rfl (by decide) (by rw [if_neg (is_0 er_1388 rfl)]) dX12_image_15
set_option maxRecDepth 100000 in
set_option maxHeartbeats 4000000 in
theorem u_restore {l : Launch} {D : va_G} {cy : Nat → ClassId} {L : List Nat} {κ ln : Nat → Nat} {R : Nat → Nat → Option Nat} {I : Nat → Nat → Int32} {J : Nat → Nat → Int64} {ow : Nat → Nat × Nat} (W9 : ∀ a ∈ L, Shp L κ ln R ow a) {x : Nat} (hLx : x ∈ L) (hkx : κ x = 12) (FZ : Fz_ L κ I) (k : Int32) : CtI l yX12_restore cX12_restore 3 (some .boolean) { frames := 5, cells := 0, slots := 0, locals := 320 } D cy L κ ln R I J [.ref x, .int k] (fun r _ _ => r = 0) := by
  refine CtI.of (by decide +kernel) (Nat.le_of_ble_eq_true rfl) ?_
  intro p e s m below meth c B K
  have C := B.1
  have Z14 := fz_Z FZ 14 (by decide) (by decide) (by decide)
  refine g_lo (is := [0, 1]) (lo2 := [(0, .ref x), (1, .int k)]) rfl ?_
  refine g_aload_n C 0 dX12_restore_0 rfl rfl ?_
  refine g_iconst C (v := 0) dX12_restore_1 (by decide) ?_
  refine h_putI C K hLx hkx f_12_82 p_12_0 dX12_restore_2 (fun I_1416 hI_1416 => ?_)
  refine g_iload_n C 1 dX12_restore_5 rfl rfl ?_
  refine g_iconst C (v := 0) dX12_restore_6 (by decide) ?_
  refine g_iconst C (v := 1) dX12_restore_7 (by decide) ?_
  refine g_callSI C K (c_Mod_isIn (k) (0) (1)) s_12_149 rfl ⟨rfl, rfl⟩ ⟨Nat.le_of_ble_eq_true rfl, Nat.le_of_ble_eq_true rfl⟩ (Nat.le_of_ble_eq_true rfl) ⟨Nat.le_of_ble_eq_true rfl, Nat.le_of_ble_eq_true rfl⟩ dX12_restore_8 rfl (st := []) (fun r_1420 I_1417 J_1418 h_1419 => ?_)
  obtain ⟨rfl, rfl, er_1420⟩ := h_1419
  have h0r_1420 := er_1420
  refine g_if_eq C (tgt := 23) dX12_restore_11 (by decide) (fun h_1421 => ?_) (fun h_1421 => ?_)
  · skip
    subst h_1421
    refine g_iconst C (v := 0) dX12_restore_23 (by decide) ?_
    exact g_zret (ty := .boolean) (r := 0) B K rfl (by decide) (rfl) dX12_restore_24
  · skip
    have hin := is_1 er_1420 h_1421
    obtain ⟨N, hN, rfl⟩ := mk_i (Int32.not_lt.mpr hin.1) (fun q => absurd (Int32.lt_of_lt_of_le (show (1 : Int32) < 2 by decide) (Int32.le_trans q hin.2)) (by decide))
    refine g_aload_n C 0 dX12_restore_14 rfl rfl ?_
    obtain ⟨b_1422, hb_1422, hb_1422L, hb_1422k, hb_1422n, hb_1422o⟩ := shp_a (W9 x hLx) hkx 22 16 2 rfl (by decide)
    refine g_getR C K hLx hkx f_12_38 hb_1422 dX12_restore_15 ?_
    refine g_iload_n C 1 dX12_restore_18 rfl rfl ?_
    refine h_zald C K hb_1422L hb_1422k (v := 0) (N) (nI_clamp (by omega)) (nI_pos (by omega)) (by rw [hb_1422n]; omega) (by rw [hI_1416, u2_k (κ := κ) (by rw [hb_1422k, hkx]; decide)]; exact (by rw [FZ b_1422 hb_1422L (N), hb_1422k]; simp [fv_])) dX12_restore_19 ?_
    refine n_if_ne C (tgt := 25) (by decide) dX12_restore_20 (by decide) ?_
    refine g_iconst C (v := 0) dX12_restore_23 (by decide) ?_
    exact g_zret (ty := .boolean) (r := 0) B K rfl (by decide) (rfl) dX12_restore_24
set_option maxRecDepth 100000 in
set_option maxHeartbeats 4000000 in
theorem u_book {l : Launch} {D : va_G} {cy : Nat → ClassId} {L : List Nat} {κ ln : Nat → Nat} {R : Nat → Nat → Option Nat} {I : Nat → Nat → Int32} {J : Nat → Nat → Int64} {ow : Nat → Nat × Nat} (W9 : ∀ a ∈ L, Shp L κ ln R ow a) {x : Nat} (hLx : x ∈ L) (hkx : κ x = 12) (FZ : Fz_ L κ I) (v : Int32) : CtI l yX12_book cX12_book 4 (some .int) { frames := 5, cells := 0, slots := 0, locals := 320 } D cy L κ ln R I J [.ref x, .int v] (fun r _ _ => r = if v = 0 ∨ v = 1 then -1 else -1000) := by
  refine CtI.of (by decide +kernel) (Nat.le_of_ble_eq_true rfl) ?_
  intro p e s m below meth c B K
  have C := B.1
  have Z14 := fz_Z FZ 14 (by decide) (by decide) (by decide)
  refine g_lo (is := [0, 1]) (lo2 := [(0, .ref x), (1, .int v)]) rfl ?_
  refine g_aload_n C 0 dX12_book_0 rfl rfl ?_
  refine g_iconst C (v := 0) dX12_book_1 (by decide) ?_
  refine h_putI C K hLx hkx f_12_82 p_12_0 dX12_book_2 (fun I_1423 hI_1423 => ?_)
  refine g_iload_n C 1 dX12_book_5 rfl rfl ?_
  refine g_iconst C (v := 0) dX12_book_6 (by decide) ?_
  refine g_iconst C (v := 1) dX12_book_7 (by decide) ?_
  refine g_callSI C K (c_Mod_isIn (v) (0) (1)) s_12_149 rfl ⟨rfl, rfl⟩ ⟨Nat.le_of_ble_eq_true rfl, Nat.le_of_ble_eq_true rfl⟩ (Nat.le_of_ble_eq_true rfl) ⟨Nat.le_of_ble_eq_true rfl, Nat.le_of_ble_eq_true rfl⟩ dX12_book_8 rfl (st := []) (fun r_1427 I_1424 J_1425 h_1426 => ?_)
  obtain ⟨rfl, rfl, er_1427⟩ := h_1426
  have h0r_1427 := er_1427
  refine g_if_ne C (tgt := 18) dX12_book_11 (by decide) (fun h_1428 => ?_) (fun h_1428 => ?_)
  · skip
    refine g_aload_n C 0 dX12_book_18 rfl rfl ?_
    refine g_sipush C (v := 400) dX12_book_19 (by decide) ?_
    refine g_callVV C K (m_begin0_400 hLx hkx (by rw [hI_1423, u2_j (by decide)]; exact (by rw [FZ x hLx 2, hkx]; rfl))) hLx hkx (by decide) rfl v_12_216 rfl ⟨rfl, rfl⟩ ⟨Nat.le_of_ble_eq_true rfl, Nat.le_of_ble_eq_true rfl⟩ (Nat.le_of_ble_eq_true rfl) ⟨Nat.le_of_ble_eq_true rfl, Nat.le_of_ble_eq_true rfl⟩ dX12_book_22 rfl (st := []) (fun I_1429 J_1430 h_1431 => ?_)
    obtain ⟨rfl, f_1433, v_1435, v_1436, v_1437⟩ := h_1431
    refine g_aload_n C 0 dX12_book_25 rfl rfl ?_
    refine g_iconst C (v := 0) dX12_book_26 (by decide) ?_
    refine h_putI C K hLx hkx f_12_361 p_12_44 dX12_book_27 (fun I_1438 hI_1438 => ?_)
    refine g_aload_n C 0 dX12_book_30 rfl rfl ?_
    refine g_getI C K hLx hkx f_12_104 (v := 0) (by rw [hI_1438, u2_j (by decide)]; exact v_1436) dX12_book_31 ?_
    refine t_if_eq C (tgt := 65) (by decide) dX12_book_34 (by decide) ?_
    refine g_aload_n C 0 dX12_book_65 rfl rfl ?_
    refine g_callVV C K (m_layAside W9 hLx hkx) hLx hkx (by decide) rfl v_12_329 rfl ⟨rfl, rfl⟩ ⟨Nat.le_of_ble_eq_true rfl, Nat.le_of_ble_eq_true rfl⟩ (Nat.le_of_ble_eq_true rfl) ⟨Nat.le_of_ble_eq_true rfl, Nat.le_of_ble_eq_true rfl⟩ dX12_book_66 rfl (st := []) (fun I_1439 J_1440 h_1441 => ?_)
    obtain ⟨rfl, f_1443⟩ := h_1441
    refine g_iconst C (v := 0) dX12_book_69 (by decide) ?_
    refine g_istore_n C dX12_book_70 rfl (by decide) (lo2 := [(2, .int 0), (0, .ref x), (1, .int v)]) rfl ?_
    refine g_iconst C (v := 0) dX12_book_71 (by decide) ?_
    refine g_istore_n C dX12_book_72 rfl (by decide) (lo2 := [(3, .int 0), (2, .int 0), (0, .ref x), (1, .int v)]) rfl ?_
    refine g_iload_n C 1 dX12_book_73 rfl rfl ?_
    refine g_aload_n C 2 dX12_book_74 rfl rfl ?_
    refine g_getI C K hLx hkx f_12_361 (v := 0) (by rw [f_1443 x 44 (by rw [hkx]; decide), hI_1438]; exact u2_s) dX12_book_75 ?_
    refine t_icmp_ge C (tgt := 103) (by decide) dX12_book_78 (by decide) ?_
    refine g_aload_n C 2 dX12_book_103 rfl rfl ?_
    obtain ⟨b_1445, hb_1445, hb_1445L, hb_1445k, hb_1445n, hb_1445o⟩ := shp_a (W9 x hLx) hkx 43 14 4 rfl (by decide)
    refine g_getR C K hLx hkx f_12_76 hb_1445 dX12_book_104 ?_
    refine g_iconst C (v := 0) dX12_book_107 (by decide) ?_
    refine g_iload_n C 0 dX12_book_108 rfl rfl ?_
    refine h_iast C K hb_1445L hb_1445k (0) (by decide) (by decide) (by rw [hb_1445n]; decide) dX12_book_109 (fun I_1446 hI_1446 => ?_)
    refine g_aload_n C 2 dX12_book_110 rfl rfl ?_
    refine g_getR C K hLx hkx f_12_76 hb_1445 dX12_book_111 ?_
    refine g_iconst C (v := 1) dX12_book_114 (by decide) ?_
    refine g_iload_n C 1 dX12_book_115 rfl rfl ?_
    refine h_iast C K hb_1445L hb_1445k (1) (by decide) (by decide) (by rw [hb_1445n]; decide) dX12_book_116 (fun I_1447 hI_1447 => ?_)
    refine g_aload_n C 2 dX12_book_117 rfl rfl ?_
    refine g_getR C K hLx hkx f_12_76 hb_1445 dX12_book_118 ?_
    refine g_iconst C (v := 2) dX12_book_121 (by decide) ?_
    refine g_aload_n C 2 dX12_book_122 rfl rfl ?_
    obtain ⟨b_1448, hb_1448, hb_1448L, hb_1448k, hb_1448n, hb_1448o⟩ := shp_a (W9 x hLx) hkx 14 14 389 rfl (by decide)
    refine g_getR C K hLx hkx f_12_13 hb_1448 dX12_book_123 ?_
    refine g_bipush C (v := 72) dX12_book_126 (by decide) ?_
    obtain ⟨x_1449, hx_1449⟩ : ∃ z, I_1447 b_1448 (72) = z := ⟨_, rfl⟩
    refine h_iald C K hb_1448L hb_1448k (v := x_1449) (72) (by decide) (by decide) (by rw [hb_1448n]; decide) (hx_1449) dX12_book_128 ?_
    refine h_iast C K hb_1445L hb_1445k (2) (by decide) (by decide) (by rw [hb_1445n]; decide) dX12_book_129 (fun I_1450 hI_1450 => ?_)
    refine g_aload_n C 2 dX12_book_130 rfl rfl ?_
    refine g_getR C K hLx hkx f_12_76 hb_1445 dX12_book_131 ?_
    refine g_iconst C (v := 3) dX12_book_134 (by decide) ?_
    refine g_aload_n C 2 dX12_book_135 rfl rfl ?_
    refine g_getR C K hLx hkx f_12_13 hb_1448 dX12_book_136 ?_
    refine g_bipush C (v := 73) dX12_book_139 (by decide) ?_
    obtain ⟨x_1451, hx_1451⟩ : ∃ z, I_1450 b_1448 (73) = z := ⟨_, rfl⟩
    refine h_iald C K hb_1448L hb_1448k (v := x_1451) (73) (by decide) (by decide) (by rw [hb_1448n]; decide) (hx_1451) dX12_book_141 ?_
    refine h_iast C K hb_1445L hb_1445k (3) (by decide) (by decide) (by rw [hb_1445n]; decide) dX12_book_142 (fun I_1452 hI_1452 => ?_)
    refine g_aload_n C 2 dX12_book_143 rfl rfl ?_
    refine g_iconst C (v := 1) dX12_book_144 (by decide) ?_
    refine h_putZ C K hLx hkx f_12_373 p_12_45 (Or.inr rfl) dX12_book_145 (fun I_1453 hI_1453 => ?_)
    refine g_aload_n C 2 dX12_book_148 rfl rfl ?_
    refine g_iload_n C 3 dX12_book_149 rfl rfl ?_
    refine g_iconst C (v := 1) dX12_book_150 (by decide) ?_
    refine g_icmp_ne C (tgt := 162) dX12_book_151 (by decide) (fun h_1454 => ?_) (fun h_1454 => ?_)
    · skip
      refine g_iconst C (v := 0) dX12_book_162 (by decide) ?_
      refine g_callVV C K (m_stay0 W9 hLx hkx) hLx hkx (by decide) rfl v_12_376 rfl ⟨rfl, rfl⟩ ⟨Nat.le_of_ble_eq_true rfl, Nat.le_of_ble_eq_true rfl⟩ (Nat.le_of_ble_eq_true rfl) ⟨Nat.le_of_ble_eq_true rfl, Nat.le_of_ble_eq_true rfl⟩ dX12_book_163 rfl (st := []) (fun I_1455 J_1456 h_1457 => ?_)
      obtain ⟨rfl, f_1459⟩ := h_1457
      refine g_iload_n C 0 dX12_book_166 rfl rfl ?_
      refine n_if_ne C (tgt := 174) (by decide) dX12_book_167 (by decide) ?_
      refine g_iconst C (v := (-1)) dX12_book_170 (by decide) ?_
      refine g_goto C (tgt := 175) dX12_book_171 (by decide) ?_
      exact g_zret (ty := .int) (r := (-1)) B K rfl rfl (by rw [if_pos (m_01 (is_1 er_1427 (by assumption)))]) dX12_book_175
    · skip
      subst h_1454
      refine g_iload_n C 1 dX12_book_154 rfl rfl ?_
      refine t_if_le C (tgt := 162) (by decide) dX12_book_155 (by decide) ?_
      refine g_iconst C (v := 0) dX12_book_162 (by decide) ?_
      refine g_callVV C K (m_stay0 W9 hLx hkx) hLx hkx (by decide) rfl v_12_376 rfl ⟨rfl, rfl⟩ ⟨Nat.le_of_ble_eq_true rfl, Nat.le_of_ble_eq_true rfl⟩ (Nat.le_of_ble_eq_true rfl) ⟨Nat.le_of_ble_eq_true rfl, Nat.le_of_ble_eq_true rfl⟩ dX12_book_163 rfl (st := []) (fun I_1461 J_1462 h_1463 => ?_)
      obtain ⟨rfl, f_1465⟩ := h_1463
      refine g_iload_n C 0 dX12_book_166 rfl rfl ?_
      refine n_if_ne C (tgt := 174) (by decide) dX12_book_167 (by decide) ?_
      refine g_iconst C (v := (-1)) dX12_book_170 (by decide) ?_
      refine g_goto C (tgt := 175) dX12_book_171 (by decide) ?_
      exact g_zret (ty := .int) (r := (-1)) B K rfl rfl (by rw [if_pos (m_01 (is_1 er_1427 (by assumption)))]) dX12_book_175
  · skip
    subst h_1428
    refine g_sipush C (v := (-1000)) dX12_book_14 (by decide) ?_
    exact g_zret (ty := .int) (r := (-1000)) B K rfl rfl (by rw [if_neg (fun q => is_0 er_1427 rfl (by rcases q with rfl | rfl <;> decide))]) dX12_book_17
