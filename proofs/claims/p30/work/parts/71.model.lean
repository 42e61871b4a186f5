theorem dX12_book_0 : decode cX12_book 0 = .ok (.aload_n 0, 1) := by decide +kernel
theorem dX12_book_1 : decode cX12_book 1 = .ok (.iconst 0, 1) := by decide +kernel
theorem dX12_book_2 : decode cX12_book 2 = .ok (.putfield 82, 3) := by decide +kernel
theorem dX12_book_5 : decode cX12_book 5 = .ok (.iload_n 1, 1) := by decide +kernel
theorem dX12_book_6 : decode cX12_book 6 = .ok (.iconst 0, 1) := by decide +kernel
theorem dX12_book_7 : decode cX12_book 7 = .ok (.iconst 1, 1) := by decide +kernel
theorem dX12_book_8 : decode cX12_book 8 = .ok (.invokestatic 149, 3) := by decide +kernel
theorem dX12_book_11 : decode cX12_book 11 = .ok (.ifCond .ne 7, 3) := by decide +kernel
theorem dX12_book_14 : decode cX12_book 14 = .ok (.sipush (-1000), 3) := by decide +kernel
theorem dX12_book_17 : decode cX12_book 17 = .ok (.ireturn, 1) := by decide +kernel
theorem dX12_book_18 : decode cX12_book 18 = .ok (.aload_n 0, 1) := by decide +kernel
theorem dX12_book_19 : decode cX12_book 19 = .ok (.sipush 400, 3) := by decide +kernel
theorem dX12_book_22 : decode cX12_book 22 = .ok (.invokevirtual 216, 3) := by decide +kernel
theorem dX12_book_25 : decode cX12_book 25 = .ok (.aload_n 0, 1) := by decide +kernel
theorem dX12_book_26 : decode cX12_book 26 = .ok (.iconst 0, 1) := by decide +kernel
theorem dX12_book_27 : decode cX12_book 27 = .ok (.putfield 361, 3) := by decide +kernel
theorem dX12_book_30 : decode cX12_book 30 = .ok (.aload_n 0, 1) := by decide +kernel
theorem dX12_book_31 : decode cX12_book 31 = .ok (.getfield 104, 3) := by decide +kernel
theorem dX12_book_34 : decode cX12_book 34 = .ok (.ifCond .eq 31, 3) := by decide +kernel
theorem dX12_book_37 : decode cX12_book 37 = .ok (.aload_n 0, 1) := by decide +kernel
theorem dX12_book_38 : decode cX12_book 38 = .ok (.invokevirtual 367, 3) := by decide +kernel
theorem dX12_book_41 : decode cX12_book 41 = .ok (.ifCond .ne 11, 3) := by decide +kernel
theorem dX12_book_44 : decode cX12_book 44 = .ok (.bipush (-2), 2) := by decide +kernel
theorem dX12_book_46 : decode cX12_book 46 = .ok (.aload_n 0, 1) := by decide +kernel
theorem dX12_book_47 : decode cX12_book 47 = .ok (.getfield 143, 3) := by decide +kernel
theorem dX12_book_50 : decode cX12_book 50 = .ok (.isub, 1) := by decide +kernel
theorem dX12_book_51 : decode cX12_book 51 = .ok (.ireturn, 1) := by decide +kernel
theorem dX12_book_52 : decode cX12_book 52 = .ok (.aload_n 0, 1) := by decide +kernel
theorem dX12_book_53 : decode cX12_book 53 = .ok (.dup, 1) := by decide +kernel
theorem dX12_book_54 : decode cX12_book 54 = .ok (.getfield 361, 3) := by decide +kernel
theorem dX12_book_57 : decode cX12_book 57 = .ok (.iconst 1, 1) := by decide +kernel
theorem dX12_book_58 : decode cX12_book 58 = .ok (.iadd, 1) := by decide +kernel
theorem dX12_book_59 : decode cX12_book 59 = .ok (.putfield 361, 3) := by decide +kernel
theorem dX12_book_62 : decode cX12_book 62 = .ok (.goto (-32), 3) := by decide +kernel
theorem dX12_book_65 : decode cX12_book 65 = .ok (.aload_n 0, 1) := by decide +kernel
theorem dX12_book_66 : decode cX12_book 66 = .ok (.invokevirtual 329, 3) := by decide +kernel
theorem dX12_book_69 : decode cX12_book 69 = .ok (.iconst 0, 1) := by decide +kernel
theorem dX12_book_70 : decode cX12_book 70 = .ok (.istore_n 2, 1) := by decide +kernel
theorem dX12_book_71 : decode cX12_book 71 = .ok (.iconst 0, 1) := by decide +kernel
theorem dX12_book_72 : decode cX12_book 72 = .ok (.istore_n 3, 1) := by decide +kernel
theorem dX12_book_73 : decode cX12_book 73 = .ok (.iload_n 2, 1) := by decide +kernel
theorem dX12_book_74 : decode cX12_book 74 = .ok (.aload_n 0, 1) := by decide +kernel
theorem dX12_book_75 : decode cX12_book 75 = .ok (.getfield 361, 3) := by decide +kernel
theorem dX12_book_78 : decode cX12_book 78 = .ok (.if_icmp .ge 25, 3) := by decide +kernel
theorem dX12_book_81 : decode cX12_book 81 = .ok (.iload_n 3, 1) := by decide +kernel
theorem dX12_book_82 : decode cX12_book 82 = .ok (.ifCond .ne 21, 3) := by decide +kernel
theorem dX12_book_85 : decode cX12_book 85 = .ok (.aload_n 0, 1) := by decide +kernel
theorem dX12_book_86 : decode cX12_book 86 = .ok (.iconst 4, 1) := by decide +kernel
theorem dX12_book_87 : decode cX12_book 87 = .ok (.iload_n 2, 1) := by decide +kernel
theorem dX12_book_88 : decode cX12_book 88 = .ok (.imul, 1) := by decide +kernel
theorem dX12_book_89 : decode cX12_book 89 = .ok (.invokevirtual 370, 3) := by decide +kernel
theorem dX12_book_92 : decode cX12_book 92 = .ok (.istore_n 3, 1) := by decide +kernel
theorem dX12_book_93 : decode cX12_book 93 = .ok (.iload_n 3, 1) := by decide +kernel
theorem dX12_book_94 : decode cX12_book 94 = .ok (.ifCond .ne (-21), 3) := by decide +kernel
theorem dX12_book_97 : decode cX12_book 97 = .ok (.iinc 2 1, 3) := by decide +kernel
theorem dX12_book_100 : decode cX12_book 100 = .ok (.goto (-27), 3) := by decide +kernel
theorem dX12_book_103 : decode cX12_book 103 = .ok (.aload_n 0, 1) := by decide +kernel
theorem dX12_book_104 : decode cX12_book 104 = .ok (.getfield 76, 3) := by decide +kernel
theorem dX12_book_107 : decode cX12_book 107 = .ok (.iconst 0, 1) := by decide +kernel
theorem dX12_book_108 : decode cX12_book 108 = .ok (.iload_n 3, 1) := by decide +kernel
theorem dX12_book_109 : decode cX12_book 109 = .ok (.iastore, 1) := by decide +kernel
theorem dX12_book_110 : decode cX12_book 110 = .ok (.aload_n 0, 1) := by decide +kernel
theorem dX12_book_111 : decode cX12_book 111 = .ok (.getfield 76, 3) := by decide +kernel
theorem dX12_book_114 : decode cX12_book 114 = .ok (.iconst 1, 1) := by decide +kernel
theorem dX12_book_115 : decode cX12_book 115 = .ok (.iload_n 2, 1) := by decide +kernel
theorem dX12_book_116 : decode cX12_book 116 = .ok (.iastore, 1) := by decide +kernel
theorem dX12_book_117 : decode cX12_book 117 = .ok (.aload_n 0, 1) := by decide +kernel
theorem dX12_book_118 : decode cX12_book 118 = .ok (.getfield 76, 3) := by decide +kernel
theorem dX12_book_121 : decode cX12_book 121 = .ok (.iconst 2, 1) := by decide +kernel
theorem dX12_book_122 : decode cX12_book 122 = .ok (.aload_n 0, 1) := by decide +kernel
theorem dX12_book_123 : decode cX12_book 123 = .ok (.getfield 13, 3) := by decide +kernel
theorem dX12_book_126 : decode cX12_book 126 = .ok (.bipush 72, 2) := by decide +kernel
theorem dX12_book_128 : decode cX12_book 128 = .ok (.iaload, 1) := by decide +kernel
theorem dX12_book_129 : decode cX12_book 129 = .ok (.iastore, 1) := by decide +kernel
theorem dX12_book_130 : decode cX12_book 130 = .ok (.aload_n 0, 1) := by decide +kernel
theorem dX12_book_131 : decode cX12_book 131 = .ok (.getfield 76, 3) := by decide +kernel
theorem dX12_book_134 : decode cX12_book 134 = .ok (.iconst 3, 1) := by decide +kernel
theorem dX12_book_135 : decode cX12_book 135 = .ok (.aload_n 0, 1) := by decide +kernel
theorem dX12_book_136 : decode cX12_book 136 = .ok (.getfield 13, 3) := by decide +kernel
theorem dX12_book_139 : decode cX12_book 139 = .ok (.bipush 73, 2) := by decide +kernel
theorem dX12_book_141 : decode cX12_book 141 = .ok (.iaload, 1) := by decide +kernel
theorem dX12_book_142 : decode cX12_book 142 = .ok (.iastore, 1) := by decide +kernel
theorem dX12_book_143 : decode cX12_book 143 = .ok (.aload_n 0, 1) := by decide +kernel
theorem dX12_book_144 : decode cX12_book 144 = .ok (.iconst 1, 1) := by decide +kernel
theorem dX12_book_145 : decode cX12_book 145 = .ok (.putfield 373, 3) := by decide +kernel
theorem dX12_book_148 : decode cX12_book 148 = .ok (.aload_n 0, 1) := by decide +kernel
theorem dX12_book_149 : decode cX12_book 149 = .ok (.iload_n 1, 1) := by decide +kernel
theorem dX12_book_150 : decode cX12_book 150 = .ok (.iconst 1, 1) := by decide +kernel
theorem dX12_book_151 : decode cX12_book 151 = .ok (.if_icmp .ne 11, 3) := by decide +kernel
theorem dX12_book_154 : decode cX12_book 154 = .ok (.iload_n 2, 1) := by decide +kernel
theorem dX12_book_155 : decode cX12_book 155 = .ok (.ifCond .le 7, 3) := by decide +kernel
theorem dX12_book_158 : decode cX12_book 158 = .ok (.iconst 1, 1) := by decide +kernel
theorem dX12_book_159 : decode cX12_book 159 = .ok (.goto 4, 3) := by decide +kernel
theorem dX12_book_162 : decode cX12_book 162 = .ok (.iconst 0, 1) := by decide +kernel
theorem dX12_book_163 : decode cX12_book 163 = .ok (.invokevirtual 376, 3) := by decide +kernel
theorem dX12_book_166 : decode cX12_book 166 = .ok (.iload_n 3, 1) := by decide +kernel
theorem dX12_book_167 : decode cX12_book 167 = .ok (.ifCond .ne 7, 3) := by decide +kernel
theorem dX12_book_170 : decode cX12_book 170 = .ok (.iconst (-1), 1) := by decide +kernel
theorem dX12_book_171 : decode cX12_book 171 = .ok (.goto 4, 3) := by decide +kernel
theorem dX12_book_174 : decode cX12_book 174 = .ok (.iload_n 2, 1) := by decide +kernel
theorem dX12_book_175 : decode cX12_book 175 = .ok (.ireturn, 1) := by decide +kernel
theorem dX12_goBy_0 : decode cX12_goBy 0 = .ok (.aload_n 0, 1) := by decide +kernel
theorem dX12_goBy_1 : decode cX12_goBy 1 = .ok (.getfield 73, 3) := by decide +kernel
theorem dX12_goBy_4 : decode cX12_goBy 4 = .ok (.iload_n 1, 1) := by decide +kernel
theorem dX12_goBy_5 : decode cX12_goBy 5 = .ok (.iconst 3, 1) := by decide +kernel
theorem dX12_goBy_6 : decode cX12_goBy 6 = .ok (.iadd, 1) := by decide +kernel
theorem dX12_goBy_7 : decode cX12_goBy 7 = .ok (.iaload, 1) := by decide +kernel
theorem dX12_goBy_8 : decode cX12_goBy 8 = .ok (.istore_n 2, 1) := by decide +kernel
theorem dX12_goBy_9 : decode cX12_goBy 9 = .ok (.aload_n 0, 1) := by decide +kernel
theorem dX12_goBy_10 : decode cX12_goBy 10 = .ok (.getfield 73, 3) := by decide +kernel
theorem dX12_goBy_13 : decode cX12_goBy 13 = .ok (.iload_n 1, 1) := by decide +kernel
theorem dX12_goBy_14 : decode cX12_goBy 14 = .ok (.iaload, 1) := by decide +kernel
theorem dX12_goBy_15 : decode cX12_goBy 15 = .ok (.bipush 6, 2) := by decide +kernel
theorem dX12_goBy_17 : decode cX12_goBy 17 = .ok (.if_icmp .ne 29, 3) := by decide +kernel
theorem dX12_goBy_20 : decode cX12_goBy 20 = .ok (.aload_n 0, 1) := by decide +kernel
theorem dX12_goBy_21 : decode cX12_goBy 21 = .ok (.getfield 13, 3) := by decide +kernel
theorem dX12_goBy_24 : decode cX12_goBy 24 = .ok (.bipush 72, 2) := by decide +kernel
theorem dX12_goBy_26 : decode cX12_goBy 26 = .ok (.iaload, 1) := by decide +kernel
theorem dX12_goBy_27 : decode cX12_goBy 27 = .ok (.iload_n 2, 1) := by decide +kernel
theorem dX12_goBy_28 : decode cX12_goBy 28 = .ok (.iadd, 1) := by decide +kernel
theorem dX12_goBy_29 : decode cX12_goBy 29 = .ok (.sipush 200, 3) := by decide +kernel
theorem dX12_goBy_32 : decode cX12_goBy 32 = .ok (.if_icmp .le 6, 3) := by decide +kernel
theorem dX12_goBy_35 : decode cX12_goBy 35 = .ok (.bipush 61, 2) := by decide +kernel
theorem dX12_goBy_37 : decode cX12_goBy 37 = .ok (.ireturn, 1) := by decide +kernel
theorem dX12_goBy_38 : decode cX12_goBy 38 = .ok (.aload_n 0, 1) := by decide +kernel
theorem dX12_goBy_39 : decode cX12_goBy 39 = .ok (.iload_n 2, 1) := by decide +kernel
theorem dX12_goBy_40 : decode cX12_goBy 40 = .ok (.invokevirtual 295, 3) := by decide +kernel
theorem dX12_goBy_43 : decode cX12_goBy 43 = .ok (.pop, 1) := by decide +kernel
theorem dX12_goBy_44 : decode cX12_goBy 44 = .ok (.iconst 0, 1) := by decide +kernel
theorem dX12_goBy_45 : decode cX12_goBy 45 = .ok (.ireturn, 1) := by decide +kernel
theorem dX12_goBy_46 : decode cX12_goBy 46 = .ok (.aload_n 0, 1) := by decide +kernel
theorem dX12_goBy_47 : decode cX12_goBy 47 = .ok (.aload_n 0, 1) := by decide +kernel
theorem dX12_goBy_48 : decode cX12_goBy 48 = .ok (.getfield 73, 3) := by decide +kernel
theorem dX12_goBy_51 : decode cX12_goBy 51 = .ok (.iload_n 1, 1) := by decide +kernel
theorem dX12_goBy_52 : decode cX12_goBy 52 = .ok (.iaload, 1) := by decide +kernel
theorem dX12_goBy_53 : decode cX12_goBy 53 = .ok (.aload_n 0, 1) := by decide +kernel
theorem dX12_goBy_54 : decode cX12_goBy 54 = .ok (.getfield 73, 3) := by decide +kernel
theorem dX12_goBy_57 : decode cX12_goBy 57 = .ok (.iload_n 1, 1) := by decide +kernel
theorem dX12_goBy_58 : decode cX12_goBy 58 = .ok (.iconst 1, 1) := by decide +kernel
theorem dX12_goBy_59 : decode cX12_goBy 59 = .ok (.iadd, 1) := by decide +kernel
theorem dX12_goBy_60 : decode cX12_goBy 60 = .ok (.iaload, 1) := by decide +kernel
theorem dX12_goBy_61 : decode cX12_goBy 61 = .ok (.aload_n 0, 1) := by decide +kernel
theorem dX12_goBy_62 : decode cX12_goBy 62 = .ok (.getfield 73, 3) := by decide +kernel
theorem dX12_goBy_65 : decode cX12_goBy 65 = .ok (.iload_n 1, 1) := by decide +kernel
theorem dX12_goBy_66 : decode cX12_goBy 66 = .ok (.iconst 2, 1) := by decide +kernel
theorem dX12_goBy_67 : decode cX12_goBy 67 = .ok (.iadd, 1) := by decide +kernel
theorem dX12_goBy_68 : decode cX12_goBy 68 = .ok (.iaload, 1) := by decide +kernel
theorem dX12_goBy_69 : decode cX12_goBy 69 = .ok (.iload_n 2, 1) := by decide +kernel
theorem dX12_goBy_70 : decode cX12_goBy 70 = .ok (.invokevirtual 278, 3) := by decide +kernel
theorem dX12_goBy_73 : decode cX12_goBy 73 = .ok (.istore_n 3, 1) := by decide +kernel
theorem dX12_goBy_74 : decode cX12_goBy 74 = .ok (.iload_n 3, 1) := by decide +kernel
theorem dX12_goBy_75 : decode cX12_goBy 75 = .ok (.ifCond .eq 15, 3) := by decide +kernel
theorem dX12_goBy_78 : decode cX12_goBy 78 = .ok (.bipush 10, 2) := by decide +kernel
theorem dX12_goBy_80 : decode cX12_goBy 80 = .ok (.aload_n 0, 1) := by decide +kernel
theorem dX12_goBy_81 : decode cX12_goBy 81 = .ok (.getfield 73, 3) := by decide +kernel
theorem dX12_goBy_84 : decode cX12_goBy 84 = .ok (.iload_n 1, 1) := by decide +kernel
theorem dX12_goBy_85 : decode cX12_goBy 85 = .ok (.iaload, 1) := by decide +kernel
theorem dX12_goBy_86 : decode cX12_goBy 86 = .ok (.imul, 1) := by decide +kernel
theorem dX12_goBy_87 : decode cX12_goBy 87 = .ok (.iload_n 3, 1) := by decide +kernel
theorem dX12_goBy_88 : decode cX12_goBy 88 = .ok (.iadd, 1) := by decide +kernel
theorem dX12_goBy_89 : decode cX12_goBy 89 = .ok (.ireturn, 1) := by decide +kernel
theorem dX12_goBy_90 : decode cX12_goBy 90 = .ok (.aload_n 0, 1) := by decide +kernel
theorem dX12_goBy_91 : decode cX12_goBy 91 = .ok (.aload_n 0, 1) := by decide +kernel
theorem dX12_goBy_92 : decode cX12_goBy 92 = .ok (.getfield 73, 3) := by decide +kernel
theorem dX12_goBy_95 : decode cX12_goBy 95 = .ok (.iload_n 1, 1) := by decide +kernel
theorem dX12_goBy_96 : decode cX12_goBy 96 = .ok (.iaload, 1) := by decide +kernel
theorem dX12_goBy_97 : decode cX12_goBy 97 = .ok (.aload_n 0, 1) := by decide +kernel
theorem dX12_goBy_98 : decode cX12_goBy 98 = .ok (.getfield 73, 3) := by decide +kernel
theorem dX12_goBy_101 : decode cX12_goBy 101 = .ok (.iload_n 1, 1) := by decide +kernel
theorem dX12_goBy_102 : decode cX12_goBy 102 = .ok (.iconst 1, 1) := by decide +kernel
theorem dX12_goBy_103 : decode cX12_goBy 103 = .ok (.iadd, 1) := by decide +kernel
theorem dX12_goBy_104 : decode cX12_goBy 104 = .ok (.iaload, 1) := by decide +kernel
theorem dX12_goBy_105 : decode cX12_goBy 105 = .ok (.aload_n 0, 1) := by decide +kernel
theorem dX12_goBy_106 : decode cX12_goBy 106 = .ok (.getfield 73, 3) := by decide +kernel
theorem dX12_goBy_109 : decode cX12_goBy 109 = .ok (.iload_n 1, 1) := by decide +kernel
theorem dX12_goBy_110 : decode cX12_goBy 110 = .ok (.iconst 2, 1) := by decide +kernel
theorem dX12_goBy_111 : decode cX12_goBy 111 = .ok (.iadd, 1) := by decide +kernel
theorem dX12_goBy_112 : decode cX12_goBy 112 = .ok (.iaload, 1) := by decide +kernel
theorem dX12_goBy_113 : decode cX12_goBy 113 = .ok (.iload_n 2, 1) := by decide +kernel
theorem dX12_goBy_114 : decode cX12_goBy 114 = .ok (.invokevirtual 285, 3) := by decide +kernel
theorem dX12_goBy_117 : decode cX12_goBy 117 = .ok (.iconst 0, 1) := by decide +kernel
theorem dX12_goBy_118 : decode cX12_goBy 118 = .ok (.ireturn, 1) := by decide +kernel
theorem dX12_readAnd_0 : decode cX12_readAnd 0 = .ok (.aload_n 0, 1) := by decide +kernel
theorem dX12_readAnd_1 : decode cX12_readAnd 1 = .ok (.invokevirtual 392, 3) := by decide +kernel
theorem dX12_readAnd_4 : decode cX12_readAnd 4 = .ok (.ifCond .ne 5, 3) := by decide +kernel
theorem dX12_readAnd_7 : decode cX12_readAnd 7 = .ok (.iconst 0, 1) := by decide +kernel
theorem dX12_readAnd_8 : decode cX12_readAnd 8 = .ok (.ireturn, 1) := by decide +kernel
theorem dX12_readBookLine_0 : decode cX12_readBookLine 0 = .ok (.aload_n 0, 1) := by decide +kernel
theorem dX12_readBookLine_1 : decode cX12_readBookLine 1 = .ok (.bipush 15, 2) := by decide +kernel
theorem dX12_readBookLine_3 : decode cX12_readBookLine 3 = .ok (.invokevirtual 191, 3) := by decide +kernel
theorem dX12_readBookLine_6 : decode cX12_readBookLine 6 = .ok (.istore_n 1, 1) := by decide +kernel
theorem dX12_readBookLine_7 : decode cX12_readBookLine 7 = .ok (.iload_n 1, 1) := by decide +kernel
theorem dX12_readBookLine_8 : decode cX12_readBookLine 8 = .ok (.ifCond .ne 44, 3) := by decide +kernel
theorem dX12_readBookLine_11 : decode cX12_readBookLine 11 = .ok (.aload_n 0, 1) := by decide +kernel
theorem dX12_readBookLine_12 : decode cX12_readBookLine 12 = .ok (.invokevirtual 166, 3) := by decide +kernel
theorem dX12_readBookLine_15 : decode cX12_readBookLine 15 = .ok (.ifCond .ne 9, 3) := by decide +kernel
theorem dX12_readBookLine_18 : decode cX12_readBookLine 18 = .ok (.aload_n 0, 1) := by decide +kernel
theorem dX12_readBookLine_19 : decode cX12_readBookLine 19 = .ok (.iconst 1, 1) := by decide +kernel
theorem dX12_readBookLine_20 : decode cX12_readBookLine 20 = .ok (.invokevirtual 146, 3) := by decide +kernel
theorem dX12_readBookLine_23 : decode cX12_readBookLine 23 = .ok (.ireturn, 1) := by decide +kernel
theorem dX12_readBookLine_24 : decode cX12_readBookLine 24 = .ok (.aload_n 0, 1) := by decide +kernel
theorem dX12_readBookLine_25 : decode cX12_readBookLine 25 = .ok (.getfield 28, 3) := by decide +kernel
theorem dX12_readBookLine_28 : decode cX12_readBookLine 28 = .ok (.iconst 0, 1) := by decide +kernel
theorem dX12_readBookLine_29 : decode cX12_readBookLine 29 = .ok (.aload_n 0, 1) := by decide +kernel
theorem dX12_readBookLine_30 : decode cX12_readBookLine 30 = .ok (.getfield 13, 3) := by decide +kernel
theorem dX12_readBookLine_33 : decode cX12_readBookLine 33 = .ok (.iconst 0, 1) := by decide +kernel
theorem dX12_readBookLine_34 : decode cX12_readBookLine 34 = .ok (.iaload, 1) := by decide +kernel
theorem dX12_readBookLine_35 : decode cX12_readBookLine 35 = .ok (.aload_n 0, 1) := by decide +kernel
theorem dX12_readBookLine_36 : decode cX12_readBookLine 36 = .ok (.getfield 117, 3) := by decide +kernel
theorem dX12_readBookLine_39 : decode cX12_readBookLine 39 = .ok (.invokestatic 170, 3) := by decide +kernel
theorem dX12_readBookLine_42 : decode cX12_readBookLine 42 = .ok (.iconst (-1), 1) := by decide +kernel
theorem dX12_readBookLine_43 : decode cX12_readBookLine 43 = .ok (.if_icmp .ne 9, 3) := by decide +kernel
theorem dX12_readBookLine_46 : decode cX12_readBookLine 46 = .ok (.aload_n 0, 1) := by decide +kernel
theorem dX12_readBookLine_47 : decode cX12_readBookLine 47 = .ok (.iconst 3, 1) := by decide +kernel
theorem dX12_readBookLine_48 : decode cX12_readBookLine 48 = .ok (.invokevirtual 146, 3) := by decide +kernel
theorem dX12_readBookLine_51 : decode cX12_readBookLine 51 = .ok (.ireturn, 1) := by decide +kernel
theorem dX12_readBookLine_52 : decode cX12_readBookLine 52 = .ok (.aload_n 0, 1) := by decide +kernel
theorem dX12_readBookLine_53 : decode cX12_readBookLine 53 = .ok (.getfield 361, 3) := by decide +kernel
theorem dX12_readBookLine_56 : decode cX12_readBookLine 56 = .ok (.bipush 40, 2) := by decide +kernel
theorem dX12_readBookLine_58 : decode cX12_readBookLine 58 = .ok (.if_icmp .ne 9, 3) := by decide +kernel
theorem dX12_readBookLine_61 : decode cX12_readBookLine 61 = .ok (.aload_n 0, 1) := by decide +kernel
theorem dX12_readBookLine_62 : decode cX12_readBookLine 62 = .ok (.iconst 4, 1) := by decide +kernel
theorem dX12_readBookLine_63 : decode cX12_readBookLine 63 = .ok (.invokevirtual 146, 3) := by decide +kernel
theorem dX12_readBookLine_66 : decode cX12_readBookLine 66 = .ok (.ireturn, 1) := by decide +kernel
theorem dX12_readBookLine_67 : decode cX12_readBookLine 67 = .ok (.iconst 4, 1) := by decide +kernel
theorem dX12_readBookLine_68 : decode cX12_readBookLine 68 = .ok (.aload_n 0, 1) := by decide +kernel
theorem dX12_readBookLine_69 : decode cX12_readBookLine 69 = .ok (.getfield 361, 3) := by decide +kernel
theorem dX12_readBookLine_72 : decode cX12_readBookLine 72 = .ok (.imul, 1) := by decide +kernel
theorem dX12_readBookLine_73 : decode cX12_readBookLine 73 = .ok (.istore_n 2, 1) := by decide +kernel
theorem dX12_readBookLine_74 : decode cX12_readBookLine 74 = .ok (.aload_n 0, 1) := by decide +kernel
theorem dX12_readBookLine_75 : decode cX12_readBookLine 75 = .ok (.getfield 73, 3) := by decide +kernel
theorem dX12_readBookLine_78 : decode cX12_readBookLine 78 = .ok (.iload_n 2, 1) := by decide +kernel
theorem dX12_readBookLine_79 : decode cX12_readBookLine 79 = .ok (.bipush 6, 2) := by decide +kernel
theorem dX12_readBookLine_81 : decode cX12_readBookLine 81 = .ok (.iastore, 1) := by decide +kernel
theorem dX12_readBookLine_82 : decode cX12_readBookLine 82 = .ok (.aload_n 0, 1) := by decide +kernel
theorem dX12_readBookLine_83 : decode cX12_readBookLine 83 = .ok (.getfield 73, 3) := by decide +kernel
theorem dX12_readBookLine_86 : decode cX12_readBookLine 86 = .ok (.iload_n 2, 1) := by decide +kernel
theorem dX12_readBookLine_87 : decode cX12_readBookLine 87 = .ok (.iconst 1, 1) := by decide +kernel
theorem dX12_readBookLine_88 : decode cX12_readBookLine 88 = .ok (.iadd, 1) := by decide +kernel
theorem dX12_readBookLine_89 : decode cX12_readBookLine 89 = .ok (.iload_n 1, 1) := by decide +kernel
theorem dX12_readBookLine_90 : decode cX12_readBookLine 90 = .ok (.ifCond .eq 7, 3) := by decide +kernel
theorem dX12_readBookLine_93 : decode cX12_readBookLine 93 = .ok (.iconst 0, 1) := by decide +kernel
theorem dX12_readBookLine_94 : decode cX12_readBookLine 94 = .ok (.goto 21, 3) := by decide +kernel
theorem dX12_readBookLine_97 : decode cX12_readBookLine 97 = .ok (.aload_n 0, 1) := by decide +kernel
theorem dX12_readBookLine_98 : decode cX12_readBookLine 98 = .ok (.getfield 28, 3) := by decide +kernel
theorem dX12_readBookLine_101 : decode cX12_readBookLine 101 = .ok (.iconst 0, 1) := by decide +kernel
theorem dX12_readBookLine_102 : decode cX12_readBookLine 102 = .ok (.aload_n 0, 1) := by decide +kernel
theorem dX12_readBookLine_103 : decode cX12_readBookLine 103 = .ok (.getfield 13, 3) := by decide +kernel
theorem dX12_readBookLine_106 : decode cX12_readBookLine 106 = .ok (.iconst 0, 1) := by decide +kernel
theorem dX12_readBookLine_107 : decode cX12_readBookLine 107 = .ok (.iaload, 1) := by decide +kernel
theorem dX12_readBookLine_108 : decode cX12_readBookLine 108 = .ok (.aload_n 0, 1) := by decide +kernel
theorem dX12_readBookLine_109 : decode cX12_readBookLine 109 = .ok (.getfield 117, 3) := by decide +kernel
theorem dX12_readBookLine_112 : decode cX12_readBookLine 112 = .ok (.invokestatic 170, 3) := by decide +kernel
theorem dX12_readBookLine_115 : decode cX12_readBookLine 115 = .ok (.iastore, 1) := by decide +kernel
theorem dX12_readBookLine_116 : decode cX12_readBookLine 116 = .ok (.aload_n 0, 1) := by decide +kernel
theorem dX12_readBookLine_117 : decode cX12_readBookLine 117 = .ok (.getfield 73, 3) := by decide +kernel
theorem dX12_readBookLine_120 : decode cX12_readBookLine 120 = .ok (.iload_n 2, 1) := by decide +kernel
theorem dX12_readBookLine_121 : decode cX12_readBookLine 121 = .ok (.iconst 2, 1) := by decide +kernel
theorem dX12_readBookLine_122 : decode cX12_readBookLine 122 = .ok (.iadd, 1) := by decide +kernel
theorem dX12_readBookLine_123 : decode cX12_readBookLine 123 = .ok (.iconst 0, 1) := by decide +kernel
theorem dX12_readBookLine_124 : decode cX12_readBookLine 124 = .ok (.iastore, 1) := by decide +kernel
theorem dX12_readBookLine_125 : decode cX12_readBookLine 125 = .ok (.aload_n 0, 1) := by decide +kernel
theorem dX12_readBookLine_126 : decode cX12_readBookLine 126 = .ok (.invokevirtual 156, 3) := by decide +kernel
theorem dX12_readBookLine_129 : decode cX12_readBookLine 129 = .ok (.iload_n 1, 1) := by decide +kernel
theorem dX12_readBookLine_130 : decode cX12_readBookLine 130 = .ok (.ifCond .ne 24, 3) := by decide +kernel
theorem dX12_readBookLine_133 : decode cX12_readBookLine 133 = .ok (.aload_n 0, 1) := by decide +kernel
theorem dX12_readBookLine_134 : decode cX12_readBookLine 134 = .ok (.iload_n 2, 1) := by decide +kernel
theorem dX12_readBookLine_135 : decode cX12_readBookLine 135 = .ok (.invokevirtual 364, 3) := by decide +kernel
theorem dX12_readBookLine_138 : decode cX12_readBookLine 138 = .ok (.ifCond .eq 14, 3) := by decide +kernel
theorem dX12_readBookLine_141 : decode cX12_readBookLine 141 = .ok (.aload_n 0, 1) := by decide +kernel
theorem dX12_readBookLine_142 : decode cX12_readBookLine 142 = .ok (.invokevirtual 222, 3) := by decide +kernel
theorem dX12_readBookLine_145 : decode cX12_readBookLine 145 = .ok (.ifCond .eq 7, 3) := by decide +kernel
theorem dX12_readBookLine_148 : decode cX12_readBookLine 148 = .ok (.iconst 1, 1) := by decide +kernel
theorem dX12_readBookLine_149 : decode cX12_readBookLine 149 = .ok (.goto 4, 3) := by decide +kernel
theorem dX12_readBookLine_152 : decode cX12_readBookLine 152 = .ok (.iconst 0, 1) := by decide +kernel
theorem dX12_readBookLine_153 : decode cX12_readBookLine 153 = .ok (.ireturn, 1) := by decide +kernel
theorem dX12_readBookLine_154 : decode cX12_readBookLine 154 = .ok (.aload_n 0, 1) := by decide +kernel
theorem dX12_readBookLine_155 : decode cX12_readBookLine 155 = .ok (.iconst 1, 1) := by decide +kernel
theorem dX12_readBookLine_156 : decode cX12_readBookLine 156 = .ok (.bipush 60, 2) := by decide +kernel
theorem dX12_readBookLine_158 : decode cX12_readBookLine 158 = .ok (.invokevirtual 184, 3) := by decide +kernel
theorem dX12_readBookLine_161 : decode cX12_readBookLine 161 = .ok (.ifCond .ne 5, 3) := by decide +kernel
theorem dX12_readBookLine_164 : decode cX12_readBookLine 164 = .ok (.iconst 0, 1) := by decide +kernel
theorem dX12_readBookLine_165 : decode cX12_readBookLine 165 = .ok (.ireturn, 1) := by decide +kernel
theorem dX12_readBookLine_166 : decode cX12_readBookLine 166 = .ok (.aload_n 0, 1) := by decide +kernel
theorem dX12_readBookLine_167 : decode cX12_readBookLine 167 = .ok (.getfield 73, 3) := by decide +kernel
theorem dX12_readBookLine_170 : decode cX12_readBookLine 170 = .ok (.iload_n 2, 1) := by decide +kernel
theorem dX12_readBookLine_171 : decode cX12_readBookLine 171 = .ok (.iconst 3, 1) := by decide +kernel
theorem dX12_readBookLine_172 : decode cX12_readBookLine 172 = .ok (.iadd, 1) := by decide +kernel
theorem dX12_readBookLine_173 : decode cX12_readBookLine 173 = .ok (.aload_n 0, 1) := by decide +kernel
theorem dX12_readBookLine_174 : decode cX12_readBookLine 174 = .ok (.getfield 153, 3) := by decide +kernel
theorem dX12_readBookLine_177 : decode cX12_readBookLine 177 = .ok (.iastore, 1) := by decide +kernel
theorem dX12_readBookLine_178 : decode cX12_readBookLine 178 = .ok (.aload_n 0, 1) := by decide +kernel
theorem dX12_readBookLine_179 : decode cX12_readBookLine 179 = .ok (.invokevirtual 222, 3) := by decide +kernel
theorem dX12_readBookLine_182 : decode cX12_readBookLine 182 = .ok (.ireturn, 1) := by decide +kernel
theorem dX12_readBracket_0 : decode cX12_readBracket 0 = .ok (.aload_n 0, 1) := by decide +kernel
theorem dX12_readBracket_1 : decode cX12_readBracket 1 = .ok (.invokevirtual 413, 3) := by decide +kernel
theorem dX12_readBracket_4 : decode cX12_readBracket 4 = .ok (.ifCond .ne 5, 3) := by decide +kernel
theorem dX12_readBracket_7 : decode cX12_readBracket 7 = .ok (.iconst 0, 1) := by decide +kernel
theorem dX12_readBracket_8 : decode cX12_readBracket 8 = .ok (.ireturn, 1) := by decide +kernel
theorem dX12_readDoes_0 : decode cX12_readDoes 0 = .ok (.bipush 9, 2) := by decide +kernel
theorem dX12_readDoes_2 : decode cX12_readDoes 2 = .ok (.istore_n 2, 1) := by decide +kernel
theorem dX12_readDoes_3 : decode cX12_readDoes 3 = .ok (.iload_n 2, 1) := by decide +kernel
theorem dX12_readDoes_4 : decode cX12_readDoes 4 = .ok (.bipush 14, 2) := by decide +kernel
theorem dX12_readDoes_6 : decode cX12_readDoes 6 = .ok (.if_icmp .gt 17, 3) := by decide +kernel
theorem dX12_readDoes_9 : decode cX12_readDoes 9 = .ok (.aload_n 0, 1) := by decide +kernel
theorem dX12_readDoes_10 : decode cX12_readDoes 10 = .ok (.iload_n 2, 1) := by decide +kernel
theorem dX12_readDoes_11 : decode cX12_readDoes 11 = .ok (.invokevirtual 191, 3) := by decide +kernel
theorem dX12_readDoes_14 : decode cX12_readDoes 14 = .ok (.ifCond .ne 9, 3) := by decide +kernel
theorem dX12_readDoes_17 : decode cX12_readDoes 17 = .ok (.iinc 2 1, 3) := by decide +kernel
theorem dX12_readDoes_20 : decode cX12_readDoes 20 = .ok (.goto (-17), 3) := by decide +kernel
theorem dX12_readDoes_23 : decode cX12_readDoes 23 = .ok (.iload_n 2, 1) := by decide +kernel
theorem dX12_readDoes_24 : decode cX12_readDoes 24 = .ok (.bipush 14, 2) := by decide +kernel
theorem dX12_readDoes_26 : decode cX12_readDoes 26 = .ok (.if_icmp .le 9, 3) := by decide +kernel
theorem dX12_readDoes_29 : decode cX12_readDoes 29 = .ok (.aload_n 0, 1) := by decide +kernel
theorem dX12_readDoes_30 : decode cX12_readDoes 30 = .ok (.iconst 1, 1) := by decide +kernel
theorem dX12_readDoes_31 : decode cX12_readDoes 31 = .ok (.invokevirtual 146, 3) := by decide +kernel
theorem dX12_readDoes_34 : decode cX12_readDoes 34 = .ok (.ireturn, 1) := by decide +kernel
theorem dX12_readDoes_35 : decode cX12_readDoes 35 = .ok (.aload_n 0, 1) := by decide +kernel
theorem dX12_readDoes_36 : decode cX12_readDoes 36 = .ok (.getfield 73, 3) := by decide +kernel
theorem dX12_readDoes_39 : decode cX12_readDoes 39 = .ok (.iload_n 1, 1) := by decide +kernel
theorem dX12_readDoes_40 : decode cX12_readDoes 40 = .ok (.iload_n 2, 1) := by decide +kernel
theorem dX12_readDoes_41 : decode cX12_readDoes 41 = .ok (.bipush 9, 2) := by decide +kernel
theorem dX12_readDoes_43 : decode cX12_readDoes 43 = .ok (.isub, 1) := by decide +kernel
theorem dX12_readDoes_44 : decode cX12_readDoes 44 = .ok (.iastore, 1) := by decide +kernel
theorem dX12_readDoes_45 : decode cX12_readDoes 45 = .ok (.aload_n 0, 1) := by decide +kernel
theorem dX12_readDoes_46 : decode cX12_readDoes 46 = .ok (.invokevirtual 156, 3) := by decide +kernel
theorem dX12_readDoes_49 : decode cX12_readDoes 49 = .ok (.aload_n 0, 1) := by decide +kernel
theorem dX12_readDoes_50 : decode cX12_readDoes 50 = .ok (.getfield 73, 3) := by decide +kernel
theorem dX12_readDoes_53 : decode cX12_readDoes 53 = .ok (.iload_n 1, 1) := by decide +kernel
theorem dX12_readDoes_54 : decode cX12_readDoes 54 = .ok (.iaload, 1) := by decide +kernel
theorem dX12_readDoes_55 : decode cX12_readDoes 55 = .ok (.iconst 1, 1) := by decide +kernel
theorem dX12_readDoes_56 : decode cX12_readDoes 56 = .ok (.if_icmp .le 5, 3) := by decide +kernel
theorem dX12_readDoes_59 : decode cX12_readDoes 59 = .ok (.iconst 1, 1) := by decide +kernel
theorem dX12_readDoes_60 : decode cX12_readDoes 60 = .ok (.ireturn, 1) := by decide +kernel
theorem dX12_readDoes_61 : decode cX12_readDoes 61 = .ok (.aload_n 0, 1) := by decide +kernel
theorem dX12_readDoes_62 : decode cX12_readDoes 62 = .ok (.invokevirtual 166, 3) := by decide +kernel
theorem dX12_readDoes_65 : decode cX12_readDoes 65 = .ok (.ifCond .ne 9, 3) := by decide +kernel
theorem dX12_readDoes_68 : decode cX12_readDoes 68 = .ok (.aload_n 0, 1) := by decide +kernel
theorem dX12_readDoes_69 : decode cX12_readDoes 69 = .ok (.iconst 1, 1) := by decide +kernel
theorem dX12_readDoes_70 : decode cX12_readDoes 70 = .ok (.invokevirtual 146, 3) := by decide +kernel
theorem dX12_readDoes_73 : decode cX12_readDoes 73 = .ok (.ireturn, 1) := by decide +kernel
theorem dX12_readDoes_74 : decode cX12_readDoes 74 = .ok (.aload_n 0, 1) := by decide +kernel
theorem dX12_readDoes_75 : decode cX12_readDoes 75 = .ok (.getfield 73, 3) := by decide +kernel
theorem dX12_readDoes_78 : decode cX12_readDoes 78 = .ok (.iload_n 1, 1) := by decide +kernel
theorem dX12_readDoes_79 : decode cX12_readDoes 79 = .ok (.iconst 2, 1) := by decide +kernel
theorem dX12_readDoes_80 : decode cX12_readDoes 80 = .ok (.iadd, 1) := by decide +kernel
theorem dX12_readDoes_81 : decode cX12_readDoes 81 = .ok (.aload_n 0, 1) := by decide +kernel
theorem dX12_readDoes_82 : decode cX12_readDoes 82 = .ok (.getfield 28, 3) := by decide +kernel
theorem dX12_readDoes_85 : decode cX12_readDoes 85 = .ok (.bipush 7, 2) := by decide +kernel
theorem dX12_readDoes_87 : decode cX12_readDoes 87 = .ok (.aload_n 0, 1) := by decide +kernel
theorem dX12_readDoes_88 : decode cX12_readDoes 88 = .ok (.getfield 13, 3) := by decide +kernel
theorem dX12_readDoes_91 : decode cX12_readDoes 91 = .ok (.iconst 1, 1) := by decide +kernel
theorem dX12_readDoes_92 : decode cX12_readDoes 92 = .ok (.iaload, 1) := by decide +kernel
theorem dX12_readDoes_93 : decode cX12_readDoes 93 = .ok (.aload_n 0, 1) := by decide +kernel
theorem dX12_readDoes_94 : decode cX12_readDoes 94 = .ok (.getfield 117, 3) := by decide +kernel
theorem dX12_readDoes_97 : decode cX12_readDoes 97 = .ok (.invokestatic 170, 3) := by decide +kernel
theorem dX12_readDoes_100 : decode cX12_readDoes 100 = .ok (.iastore, 1) := by decide +kernel
theorem dX12_readDoes_101 : decode cX12_readDoes 101 = .ok (.aload_n 0, 1) := by decide +kernel
theorem dX12_readDoes_102 : decode cX12_readDoes 102 = .ok (.getfield 73, 3) := by decide +kernel
theorem dX12_readDoes_105 : decode cX12_readDoes 105 = .ok (.iload_n 1, 1) := by decide +kernel
theorem dX12_readDoes_106 : decode cX12_readDoes 106 = .ok (.iconst 2, 1) := by decide +kernel
theorem dX12_readDoes_107 : decode cX12_readDoes 107 = .ok (.iadd, 1) := by decide +kernel
theorem dX12_readDoes_108 : decode cX12_readDoes 108 = .ok (.iaload, 1) := by decide +kernel
theorem dX12_readDoes_109 : decode cX12_readDoes 109 = .ok (.iconst (-1), 1) := by decide +kernel
theorem dX12_readDoes_110 : decode cX12_readDoes 110 = .ok (.if_icmp .ne 9, 3) := by decide +kernel
theorem dX12_readDoes_113 : decode cX12_readDoes 113 = .ok (.aload_n 0, 1) := by decide +kernel
theorem dX12_readDoes_114 : decode cX12_readDoes 114 = .ok (.iconst 3, 1) := by decide +kernel
theorem dX12_readDoes_115 : decode cX12_readDoes 115 = .ok (.invokevirtual 146, 3) := by decide +kernel
theorem dX12_readDoes_118 : decode cX12_readDoes 118 = .ok (.ireturn, 1) := by decide +kernel
theorem dX12_readDoes_119 : decode cX12_readDoes 119 = .ok (.aload_n 0, 1) := by decide +kernel
theorem dX12_readDoes_120 : decode cX12_readDoes 120 = .ok (.invokevirtual 156, 3) := by decide +kernel
theorem dX12_readDoes_123 : decode cX12_readDoes 123 = .ok (.aload_n 0, 1) := by decide +kernel
theorem dX12_readDoes_124 : decode cX12_readDoes 124 = .ok (.iconst 1, 1) := by decide +kernel
theorem dX12_readDoes_125 : decode cX12_readDoes 125 = .ok (.aload_n 0, 1) := by decide +kernel
theorem dX12_readDoes_126 : decode cX12_readDoes 126 = .ok (.getfield 73, 3) := by decide +kernel
theorem dX12_readDoes_129 : decode cX12_readDoes 129 = .ok (.iload_n 1, 1) := by decide +kernel
theorem dX12_readDoes_130 : decode cX12_readDoes 130 = .ok (.iaload, 1) := by decide +kernel
theorem dX12_readDoes_131 : decode cX12_readDoes 131 = .ok (.ifCond .ne 8, 3) := by decide +kernel
theorem dX12_readDoes_134 : decode cX12_readDoes 134 = .ok (.bipush 20, 2) := by decide +kernel
theorem dX12_readDoes_136 : decode cX12_readDoes 136 = .ok (.goto 5, 3) := by decide +kernel
theorem dX12_readDoes_139 : decode cX12_readDoes 139 = .ok (.bipush 40, 2) := by decide +kernel
theorem dX12_readDoes_141 : decode cX12_readDoes 141 = .ok (.invokevirtual 184, 3) := by decide +kernel
theorem dX12_readDoes_144 : decode cX12_readDoes 144 = .ok (.ifCond .ne 5, 3) := by decide +kernel
theorem dX12_readDoes_147 : decode cX12_readDoes 147 = .ok (.iconst 0, 1) := by decide +kernel
theorem dX12_readDoes_148 : decode cX12_readDoes 148 = .ok (.ireturn, 1) := by decide +kernel
theorem dX12_readDoes_149 : decode cX12_readDoes 149 = .ok (.aload_n 0, 1) := by decide +kernel
theorem dX12_readDoes_150 : decode cX12_readDoes 150 = .ok (.getfield 73, 3) := by decide +kernel
theorem dX12_readDoes_153 : decode cX12_readDoes 153 = .ok (.iload_n 1, 1) := by decide +kernel
theorem dX12_readDoes_154 : decode cX12_readDoes 154 = .ok (.iconst 3, 1) := by decide +kernel
theorem dX12_readDoes_155 : decode cX12_readDoes 155 = .ok (.iadd, 1) := by decide +kernel
theorem dX12_readDoes_156 : decode cX12_readDoes 156 = .ok (.aload_n 0, 1) := by decide +kernel
theorem dX12_readDoes_157 : decode cX12_readDoes 157 = .ok (.getfield 153, 3) := by decide +kernel
theorem dX12_readDoes_160 : decode cX12_readDoes 160 = .ok (.iastore, 1) := by decide +kernel
theorem dX12_readDoes_161 : decode cX12_readDoes 161 = .ok (.iconst 1, 1) := by decide +kernel
theorem dX12_readDoes_162 : decode cX12_readDoes 162 = .ok (.ireturn, 1) := by decide +kernel
theorem dX12_readOr_0 : decode cX12_readOr 0 = .ok (.aload_n 0, 1) := by decide +kernel
theorem dX12_readOr_1 : decode cX12_readOr 1 = .ok (.invokevirtual 383, 3) := by decide +kernel
theorem dX12_readOr_4 : decode cX12_readOr 4 = .ok (.ifCond .ne 5, 3) := by decide +kernel
theorem dX12_readOr_7 : decode cX12_readOr 7 = .ok (.iconst 0, 1) := by decide +kernel
theorem dX12_readOr_8 : decode cX12_readOr 8 = .ok (.ireturn, 1) := by decide +kernel
theorem dX12_readSaid_0 : decode cX12_readSaid 0 = .ok (.aload_n 0, 1) := by decide +kernel
theorem dX12_readSaid_1 : decode cX12_readSaid 1 = .ok (.bipush 40, 2) := by decide +kernel
theorem dX12_readSaid_3 : decode cX12_readSaid 3 = .ok (.invokevirtual 159, 3) := by decide +kernel
theorem dX12_readSaid_6 : decode cX12_readSaid 6 = .ok (.istore_n 1, 1) := by decide +kernel
theorem dX12_readSaid_7 : decode cX12_readSaid 7 = .ok (.bipush 18, 2) := by decide +kernel
theorem dX12_readSaid_9 : decode cX12_readSaid 9 = .ok (.istore_n 2, 1) := by decide +kernel
theorem dX12_readSaid_10 : decode cX12_readSaid 10 = .ok (.iload_n 2, 1) := by decide +kernel
theorem dX12_readSaid_11 : decode cX12_readSaid 11 = .ok (.bipush 27, 2) := by decide +kernel
theorem dX12_readSaid_13 : decode cX12_readSaid 13 = .ok (.if_icmp .gt 17, 3) := by decide +kernel
theorem dX12_readSaid_16 : decode cX12_readSaid 16 = .ok (.aload_n 0, 1) := by decide +kernel
theorem dX12_readSaid_17 : decode cX12_readSaid 17 = .ok (.iload_n 2, 1) := by decide +kernel
theorem dX12_readSaid_18 : decode cX12_readSaid 18 = .ok (.invokevirtual 191, 3) := by decide +kernel
theorem dX12_readSaid_21 : decode cX12_readSaid 21 = .ok (.ifCond .ne 9, 3) := by decide +kernel
theorem dX12_readSaid_24 : decode cX12_readSaid 24 = .ok (.iinc 2 1, 3) := by decide +kernel
theorem dX12_readSaid_27 : decode cX12_readSaid 27 = .ok (.goto (-17), 3) := by decide +kernel
theorem dX12_readSaid_30 : decode cX12_readSaid 30 = .ok (.iload_n 1, 1) := by decide +kernel
theorem dX12_readSaid_31 : decode cX12_readSaid 31 = .ok (.ifCond .ne 15, 3) := by decide +kernel
theorem dX12_readSaid_34 : decode cX12_readSaid 34 = .ok (.iload_n 2, 1) := by decide +kernel
theorem dX12_readSaid_35 : decode cX12_readSaid 35 = .ok (.bipush 27, 2) := by decide +kernel
theorem dX12_readSaid_37 : decode cX12_readSaid 37 = .ok (.if_icmp .le 9, 3) := by decide +kernel
theorem dX12_readSaid_40 : decode cX12_readSaid 40 = .ok (.aload_n 0, 1) := by decide +kernel
theorem dX12_readSaid_41 : decode cX12_readSaid 41 = .ok (.iconst 1, 1) := by decide +kernel
theorem dX12_readSaid_42 : decode cX12_readSaid 42 = .ok (.invokevirtual 146, 3) := by decide +kernel
theorem dX12_readSaid_45 : decode cX12_readSaid 45 = .ok (.ireturn, 1) := by decide +kernel
theorem dX12_readSaid_46 : decode cX12_readSaid 46 = .ok (.aload_n 0, 1) := by decide +kernel
theorem dX12_readSaid_47 : decode cX12_readSaid 47 = .ok (.getfield 395, 3) := by decide +kernel
theorem dX12_readSaid_50 : decode cX12_readSaid 50 = .ok (.bipush 20, 2) := by decide +kernel
theorem dX12_readSaid_52 : decode cX12_readSaid 52 = .ok (.if_icmp .eq 12, 3) := by decide +kernel
theorem dX12_readSaid_55 : decode cX12_readSaid 55 = .ok (.aload_n 0, 1) := by decide +kernel
theorem dX12_readSaid_56 : decode cX12_readSaid 56 = .ok (.getfield 398, 3) := by decide +kernel
theorem dX12_readSaid_59 : decode cX12_readSaid 59 = .ok (.bipush 8, 2) := by decide +kernel
theorem dX12_readSaid_61 : decode cX12_readSaid 61 = .ok (.if_icmp .ne 9, 3) := by decide +kernel
theorem dX12_readSaid_64 : decode cX12_readSaid 64 = .ok (.aload_n 0, 1) := by decide +kernel
theorem dX12_readSaid_65 : decode cX12_readSaid 65 = .ok (.iconst 4, 1) := by decide +kernel
theorem dX12_readSaid_66 : decode cX12_readSaid 66 = .ok (.invokevirtual 146, 3) := by decide +kernel
theorem dX12_readSaid_69 : decode cX12_readSaid 69 = .ok (.ireturn, 1) := by decide +kernel
theorem dX12_saysOne_0 : decode cX12_saysOne 0 = .ok (.iconst 4, 1) := by decide +kernel
theorem dX12_saysOne_1 : decode cX12_saysOne 1 = .ok (.aload_n 0, 1) := by decide +kernel
theorem dX12_saysOne_2 : decode cX12_saysOne 2 = .ok (.getfield 380, 3) := by decide +kernel
theorem dX12_saysOne_5 : decode cX12_saysOne 5 = .ok (.imul, 1) := by decide +kernel
theorem dX12_saysOne_6 : decode cX12_saysOne 6 = .ok (.istore 5, 2) := by decide +kernel
theorem dX12_saysOne_8 : decode cX12_saysOne 8 = .ok (.aload_n 0, 1) := by decide +kernel
theorem dX12_saysOne_9 : decode cX12_saysOne 9 = .ok (.getfield 79, 3) := by decide +kernel
theorem dX12_saysOne_12 : decode cX12_saysOne 12 = .ok (.iload 5, 2) := by decide +kernel
theorem dX12_saysOne_14 : decode cX12_saysOne 14 = .ok (.iload_n 1, 1) := by decide +kernel
theorem dX12_saysOne_15 : decode cX12_saysOne 15 = .ok (.iastore, 1) := by decide +kernel
theorem dX12_saysOne_16 : decode cX12_saysOne 16 = .ok (.aload_n 0, 1) := by decide +kernel
theorem dX12_saysOne_17 : decode cX12_saysOne 17 = .ok (.getfield 79, 3) := by decide +kernel
theorem dX12_saysOne_20 : decode cX12_saysOne 20 = .ok (.iload 5, 2) := by decide +kernel
theorem dX12_saysOne_22 : decode cX12_saysOne 22 = .ok (.iconst 1, 1) := by decide +kernel
theorem dX12_saysOne_23 : decode cX12_saysOne 23 = .ok (.iadd, 1) := by decide +kernel
theorem dX12_saysOne_24 : decode cX12_saysOne 24 = .ok (.iload_n 2, 1) := by decide +kernel
theorem dX12_saysOne_25 : decode cX12_saysOne 25 = .ok (.iastore, 1) := by decide +kernel
theorem dX12_saysOne_26 : decode cX12_saysOne 26 = .ok (.aload_n 0, 1) := by decide +kernel
theorem dX12_saysOne_27 : decode cX12_saysOne 27 = .ok (.getfield 79, 3) := by decide +kernel
theorem dX12_saysOne_30 : decode cX12_saysOne 30 = .ok (.iload 5, 2) := by decide +kernel
theorem dX12_saysOne_32 : decode cX12_saysOne 32 = .ok (.iconst 2, 1) := by decide +kernel
theorem dX12_saysOne_33 : decode cX12_saysOne 33 = .ok (.iadd, 1) := by decide +kernel
theorem dX12_saysOne_34 : decode cX12_saysOne 34 = .ok (.iload_n 3, 1) := by decide +kernel
theorem dX12_saysOne_35 : decode cX12_saysOne 35 = .ok (.iastore, 1) := by decide +kernel
theorem dX12_saysOne_36 : decode cX12_saysOne 36 = .ok (.aload_n 0, 1) := by decide +kernel
theorem dX12_saysOne_37 : decode cX12_saysOne 37 = .ok (.getfield 79, 3) := by decide +kernel
theorem dX12_saysOne_40 : decode cX12_saysOne 40 = .ok (.iload 5, 2) := by decide +kernel
theorem dX12_saysOne_42 : decode cX12_saysOne 42 = .ok (.iconst 3, 1) := by decide +kernel
theorem dX12_saysOne_43 : decode cX12_saysOne 43 = .ok (.iadd, 1) := by decide +kernel
theorem dX12_saysOne_44 : decode cX12_saysOne 44 = .ok (.iload 4, 2) := by decide +kernel
theorem dX12_saysOne_46 : decode cX12_saysOne 46 = .ok (.iastore, 1) := by decide +kernel
theorem dX12_saysOne_47 : decode cX12_saysOne 47 = .ok (.aload_n 0, 1) := by decide +kernel
theorem dX12_saysOne_48 : decode cX12_saysOne 48 = .ok (.dup, 1) := by decide +kernel
theorem dX12_saysOne_49 : decode cX12_saysOne 49 = .ok (.getfield 380, 3) := by decide +kernel
theorem dX12_saysOne_52 : decode cX12_saysOne 52 = .ok (.iconst 1, 1) := by decide +kernel
theorem dX12_saysOne_53 : decode cX12_saysOne 53 = .ok (.iadd, 1) := by decide +kernel
theorem dX12_saysOne_54 : decode cX12_saysOne 54 = .ok (.putfield 380, 3) := by decide +kernel
theorem dX12_saysOne_57 : decode cX12_saysOne 57 = .ok (.aload_n 0, 1) := by decide +kernel
theorem dX12_saysOne_58 : decode cX12_saysOne 58 = .ok (.getfield 380, 3) := by decide +kernel
theorem dX12_saysOne_61 : decode cX12_saysOne 61 = .ok (.iconst 1, 1) := by decide +kernel
theorem dX12_saysOne_62 : decode cX12_saysOne 62 = .ok (.isub, 1) := by decide +kernel
theorem dX12_saysOne_63 : decode cX12_saysOne 63 = .ok (.ireturn, 1) := by decide +kernel
theorem dX12_stay_0 : decode cX12_stay 0 = .ok (.iconst 0, 1) := by decide +kernel
theorem dX12_stay_1 : decode cX12_stay 1 = .ok (.istore_n 2, 1) := by decide +kernel
theorem dX12_stay_2 : decode cX12_stay 2 = .ok (.iload_n 2, 1) := by decide +kernel
theorem dX12_stay_3 : decode cX12_stay 3 = .ok (.bipush 75, 2) := by decide +kernel
theorem dX12_stay_5 : decode cX12_stay 5 = .ok (.if_icmp .ge 41, 3) := by decide +kernel
theorem dX12_stay_8 : decode cX12_stay 8 = .ok (.aload_n 0, 1) := by decide +kernel
theorem dX12_stay_9 : decode cX12_stay 9 = .ok (.getfield 13, 3) := by decide +kernel
theorem dX12_stay_12 : decode cX12_stay 12 = .ok (.bipush 72, 2) := by decide +kernel
theorem dX12_stay_14 : decode cX12_stay 14 = .ok (.iload_n 2, 1) := by decide +kernel
theorem dX12_stay_15 : decode cX12_stay 15 = .ok (.iadd, 1) := by decide +kernel
theorem dX12_stay_16 : decode cX12_stay 16 = .ok (.iaload, 1) := by decide +kernel
theorem dX12_stay_17 : decode cX12_stay 17 = .ok (.istore_n 3, 1) := by decide +kernel
theorem dX12_stay_18 : decode cX12_stay 18 = .ok (.aload_n 0, 1) := by decide +kernel
theorem dX12_stay_19 : decode cX12_stay 19 = .ok (.getfield 13, 3) := by decide +kernel
theorem dX12_stay_22 : decode cX12_stay 22 = .ok (.bipush 72, 2) := by decide +kernel
theorem dX12_stay_24 : decode cX12_stay 24 = .ok (.iload_n 2, 1) := by decide +kernel
theorem dX12_stay_25 : decode cX12_stay 25 = .ok (.iadd, 1) := by decide +kernel
theorem dX12_stay_26 : decode cX12_stay 26 = .ok (.aload_n 0, 1) := by decide +kernel
theorem dX12_stay_27 : decode cX12_stay 27 = .ok (.getfield 25, 3) := by decide +kernel
theorem dX12_stay_30 : decode cX12_stay 30 = .ok (.iload_n 2, 1) := by decide +kernel
theorem dX12_stay_31 : decode cX12_stay 31 = .ok (.iaload, 1) := by decide +kernel
theorem dX12_stay_32 : decode cX12_stay 32 = .ok (.iastore, 1) := by decide +kernel
theorem dX12_stay_33 : decode cX12_stay 33 = .ok (.aload_n 0, 1) := by decide +kernel
theorem dX12_stay_34 : decode cX12_stay 34 = .ok (.getfield 25, 3) := by decide +kernel
theorem dX12_stay_37 : decode cX12_stay 37 = .ok (.iload_n 2, 1) := by decide +kernel
theorem dX12_stay_38 : decode cX12_stay 38 = .ok (.iload_n 3, 1) := by decide +kernel
theorem dX12_stay_39 : decode cX12_stay 39 = .ok (.iastore, 1) := by decide +kernel
theorem dX12_stay_40 : decode cX12_stay 40 = .ok (.iinc 2 1, 3) := by decide +kernel
theorem dX12_stay_43 : decode cX12_stay 43 = .ok (.goto (-41), 3) := by decide +kernel
theorem dX12_stay_46 : decode cX12_stay 46 = .ok (.iload_n 1, 1) := by decide +kernel
theorem dX12_stay_47 : decode cX12_stay 47 = .ok (.ifCond .ne 4, 3) := by decide +kernel
theorem dX12_stay_50 : decode cX12_stay 50 = .ok (.return_, 1) := by decide +kernel
theorem dX12_stay_51 : decode cX12_stay 51 = .ok (.aload_n 0, 1) := by decide +kernel
theorem dX12_stay_52 : decode cX12_stay 52 = .ok (.invokevirtual 282, 3) := by decide +kernel
theorem dX12_stay_55 : decode cX12_stay 55 = .ok (.aload_n 0, 1) := by decide +kernel
theorem dX12_stay_56 : decode cX12_stay 56 = .ok (.invokevirtual 332, 3) := by decide +kernel
theorem dX12_stay_59 : decode cX12_stay 59 = .ok (.return_, 1) := by decide +kernel
theorem dX12_told_0 : decode cX12_told 0 = .ok (.aload_n 0, 1) := by decide +kernel
theorem dX12_told_1 : decode cX12_told 1 = .ok (.iconst 0, 1) := by decide +kernel
theorem dX12_told_2 : decode cX12_told 2 = .ok (.putfield 82, 3) := by decide +kernel
theorem dX12_told_5 : decode cX12_told 5 = .ok (.aload_n 0, 1) := by decide +kernel
theorem dX12_told_6 : decode cX12_told 6 = .ok (.getfield 373, 3) := by decide +kernel
theorem dX12_told_9 : decode cX12_told 9 = .ok (.ifCond .eq 21, 3) := by decide +kernel
theorem dX12_told_12 : decode cX12_told 12 = .ok (.iload_n 1, 1) := by decide +kernel
theorem dX12_told_13 : decode cX12_told 13 = .ok (.iconst 0, 1) := by decide +kernel
theorem dX12_told_14 : decode cX12_told 14 = .ok (.iconst 3, 1) := by decide +kernel
theorem dX12_told_15 : decode cX12_told 15 = .ok (.invokestatic 149, 3) := by decide +kernel
theorem dX12_told_18 : decode cX12_told 18 = .ok (.ifCond .eq 12, 3) := by decide +kernel
theorem dX12_told_21 : decode cX12_told 21 = .ok (.aload_n 0, 1) := by decide +kernel
theorem dX12_told_22 : decode cX12_told 22 = .ok (.getfield 76, 3) := by decide +kernel
theorem dX12_told_25 : decode cX12_told 25 = .ok (.iload_n 1, 1) := by decide +kernel
theorem dX12_told_26 : decode cX12_told 26 = .ok (.iaload, 1) := by decide +kernel
theorem dX12_told_27 : decode cX12_told 27 = .ok (.goto 4, 3) := by decide +kernel
theorem dX12_told_30 : decode cX12_told 30 = .ok (.iconst (-1), 1) := by decide +kernel
theorem dX12_told_31 : decode cX12_told 31 = .ok (.ireturn, 1) := by decide +kernel
set_option maxRecDepth 100000 in
set_option maxHeartbeats 8000000 in
theorem c_X12_goBy {l : Launch} {D : va_G} {cy : Nat → ClassId} {L : List Nat} {κ ln : Nat → Nat} {R : Nat → Nat → Option Nat} {I : Nat → Nat → Int32} {J : Nat → Nat → Int64} {ow : Nat → Nat × Nat} (W9 : ∀ a ∈ L, Shp L κ ln R ow a) {x : Nat} (hLx : x ∈ L) (hkx : κ x = 12) (a0 : Int32) (ra0 : Rg 0 156 a0) (hU : Iw L κ R ow I) (hm : a0.toInt % 4 = 0) (hb : ∀ rw, R x 42 = some rw → 0 ≤ (I rw (a0.toNatClampNeg + 2)).toInt) : CtI l yX12_goBy cX12_goBy 4 (some .int) { frames := 5, cells := 0, slots := 0, locals := 120 } D cy L κ ln R I J [.ref x, .int a0] (fun r I2 J2 => Iw L κ R ow I2 ∧ Fq L κ ow [83400] I I2 ∧ Fq L κ ow [] J J2 ∧ Rg 0 61 r ∧ (Hd_ R x I I2)) := by
  refine CtI.of (by decide +kernel) (Nat.le_of_ble_eq_true rfl) ?_
  intro p e s m below meth c B K
  have C := B.1
  have hF : Fq L κ ow [83400] I I := fq_rf
  have hG : Fq L κ ow [] J J := fq_rf
  obtain ⟨b_1, hb_1, hb_1L, hb_1k, hb_1n, hb_1o⟩ := shp_a (W9 x hLx) hkx 14 14 389 rfl (by decide)
  obtain ⟨b_2, hb_2, hb_2L, hb_2k, hb_2n, hb_2o⟩ := shp_a (W9 x hLx) hkx 42 14 160 rfl (by decide)
  refine g_lo (is := [0, 1]) (lo2 := [(0, .ref x), (1, .int a0)]) rfl ?_
  refine g_aload_n C 0 dX12_goBy_0 rfl rfl ?_
  refine g_getR C K hLx hkx f_12_73 hb_2 dX12_goBy_1 ?_
  refine g_iload_n C 1 dX12_goBy_4 rfl rfl ?_
  refine g_iconst C (v := 3) dX12_goBy_5 (by decide) ?_
  obtain ⟨x_3, hx_3, rx_3, tx_3⟩ := ex_add 3 159 ra0 rc_3 (by decide) (by decide) (by decide) (by decide)
  refine g_iadd C (v := x_3) dX12_goBy_6 hx_3 ?_
  obtain ⟨x_4, hx_4, rx_4⟩ := ex_getw (I := I) (a := b_2) (j := x_3.toNatClampNeg) (lo := 0) (hi := 60) hU.1 hb_2L (ro_a hb_2k (by decide) hb_2o hkx rfl) (bn_862.trans (rz_3 (ix_m (md_a (r2 := 3) tx_3 hm rc_3 (by decide)) rx_3 (by decide))))
  refine h_iald C K hb_2L hb_2k (v := x_4) (x_3.toNatClampNeg) (rfl) (ix_0 rx_3 (by decide)) (ix_lt rx_3 (by decide) hb_2n (by decide)) hx_4 dX12_goBy_7 ?_
  refine g_istore_n C dX12_goBy_8 rfl (by decide) (lo2 := [(2, .int x_4), (0, .ref x), (1, .int a0)]) rfl ?_
  refine g_aload_n C 1 dX12_goBy_9 rfl rfl ?_
  refine g_getR C K hLx hkx f_12_73 hb_2 dX12_goBy_10 ?_
  refine g_iload_n C 2 dX12_goBy_13 rfl rfl ?_
  obtain ⟨x_5, hx_5, rx_5⟩ := ex_getw (I := I) (a := b_2) (j := a0.toNatClampNeg) (lo := 0) (hi := 6) hU.1 hb_2L (ro_a hb_2k (by decide) hb_2o hkx rfl) (bn_862.trans (rz_0 (ix_m hm ra0 (by decide))))
  refine h_iald C K hb_2L hb_2k (v := x_5) (a0.toNatClampNeg) (rfl) (ix_0 ra0 (by decide)) (ix_lt ra0 (by decide) hb_2n (by decide)) hx_5 dX12_goBy_14 ?_
  refine g_bipush C (v := 6) dX12_goBy_15 (by decide) ?_
  refine g_icmp_ne C (tgt := 46) dX12_goBy_17 (by decide) (fun h_6 => ?_) (fun h_6 => ?_)
  · skip
    have n_7 : ¬ x_5 = 6 := h_6
    have r_8 := ne_hi (hi := 5) n_7 rx_5 rc_6 rfl (by decide)
    refine g_aload_n C 1 dX12_goBy_46 rfl rfl ?_
    refine g_aload_n C 1 dX12_goBy_47 rfl rfl ?_
    refine g_getR C K hLx hkx f_12_73 hb_2 dX12_goBy_48 ?_
    refine g_iload_n C 2 dX12_goBy_51 rfl rfl ?_
    refine h_iald C K hb_2L hb_2k (v := x_5) (a0.toNatClampNeg) (rfl) (ix_0 ra0 (by decide)) (ix_lt ra0 (by decide) hb_2n (by decide)) hx_5 dX12_goBy_52 ?_
    refine g_aload_n C 1 dX12_goBy_53 rfl rfl ?_
    refine g_getR C K hLx hkx f_12_73 hb_2 dX12_goBy_54 ?_
    refine g_iload_n C 2 dX12_goBy_57 rfl rfl ?_
    refine g_iconst C (v := 1) dX12_goBy_58 (by decide) ?_
    obtain ⟨x_10, hx_10, rx_10, tx_10⟩ := ex_add 1 157 ra0 rc_1 (by decide) (by decide) (by decide) (by decide)
    refine g_iadd C (v := x_10) dX12_goBy_59 hx_10 ?_
    obtain ⟨x_11, hx_11, rx_11⟩ := ex_getw (I := I) (a := b_2) (j := x_10.toNatClampNeg) (lo := 0) (hi := 6) hU.1 hb_2L (ro_a hb_2k (by decide) hb_2o hkx rfl) (bn_862.trans (rz_1 (ix_m (md_a (r2 := 1) tx_10 hm rc_1 (by decide)) rx_10 (by decide))))
    refine h_iald C K hb_2L hb_2k (v := x_11) (x_10.toNatClampNeg) (rfl) (ix_0 rx_10 (by decide)) (ix_lt rx_10 (by decide) hb_2n (by decide)) hx_11 dX12_goBy_60 ?_
    refine g_aload_n C 1 dX12_goBy_61 rfl rfl ?_
    refine g_getR C K hLx hkx f_12_73 hb_2 dX12_goBy_62 ?_
    refine g_iload_n C 2 dX12_goBy_65 rfl rfl ?_
    refine g_iconst C (v := 2) dX12_goBy_66 (by decide) ?_
    obtain ⟨x_12, hx_12, rx_12, tx_12⟩ := ex_add 2 158 ra0 rc_2 (by decide) (by decide) (by decide) (by decide)
    refine g_iadd C (v := x_12) dX12_goBy_67 hx_12 ?_
    obtain ⟨x_13, hx_13, rx_13⟩ := ex_getw (I := I) (a := b_2) (j := x_12.toNatClampNeg) (lo := (-1)) (hi := 5) hU.1 hb_2L (ro_a hb_2k (by decide) hb_2o hkx rfl) (bn_862.trans (rz_2 (ix_m (md_a (r2 := 2) tx_12 hm rc_2 (by decide)) rx_12 (by decide))))
    refine h_iald C K hb_2L hb_2k (v := x_13) (x_12.toNatClampNeg) (rfl) (ix_0 rx_12 (by decide)) (ix_lt rx_12 (by decide) hb_2n (by decide)) hx_13 dX12_goBy_68 ?_
    have r_14 := rg_g0 rx_13 hx_13 (by rw [(show x_12.toNatClampNeg = a0.toNatClampNeg + 2 from by rw [nx_a tx_12 ra0 rc_2 (by decide)]; simp only [show (2 : Int32).toNatClampNeg = 2 from rfl] <;> omega)]; exact hb _ hb_2)
    refine g_iload_n C 0 dX12_goBy_69 rfl rfl ?_
    refine g_callVI C K (c_X12_why W9 hLx hkx x_5 x_11 x_13 x_4 (r_8) (rx_11) (r_14) (rx_4) hU) hLx hkx (by decide) rfl v_12_278 rfl ⟨rfl, rfl⟩ ⟨Nat.le_of_ble_eq_true rfl, Nat.le_of_ble_eq_true rfl⟩ (Nat.le_of_ble_eq_true rfl) ⟨Nat.le_of_ble_eq_true rfl, Nat.le_of_ble_eq_true rfl⟩ dX12_goBy_70 rfl (st := []) (fun x_15 I_16 J_17 h_18 => ?_)
    obtain ⟨rfl, rfl, rx_15, ex_15⟩ := h_18
    refine g_istore_n C dX12_goBy_73 rfl (by decide) (lo2 := [(3, .int x_15), (2, .int x_4), (0, .ref x), (1, .int a0)]) rfl ?_
    refine g_iload_n C 0 dX12_goBy_74 rfl rfl ?_
    refine g_if_eq C (tgt := 90) dX12_goBy_75 (by decide) (fun h_19 => ?_) (fun h_19 => ?_)
    · skip
      have r_20 := (⟨(rx_15).1, (eq_rg (h_19) rc_0).2⟩ : Rg 0 0 x_15)
      refine g_aload_n C 2 dX12_goBy_90 rfl rfl ?_
      refine g_aload_n C 2 dX12_goBy_91 rfl rfl ?_
      refine g_getR C K hLx hkx f_12_73 hb_2 dX12_goBy_92 ?_
      refine g_iload_n C 3 dX12_goBy_95 rfl rfl ?_
      refine h_iald C K hb_2L hb_2k (v := x_5) (a0.toNatClampNeg) (rfl) (ix_0 ra0 (by decide)) (ix_lt ra0 (by decide) hb_2n (by decide)) hx_5 dX12_goBy_96 ?_
      refine g_aload_n C 2 dX12_goBy_97 rfl rfl ?_
      refine g_getR C K hLx hkx f_12_73 hb_2 dX12_goBy_98 ?_
      refine g_iload_n C 3 dX12_goBy_101 rfl rfl ?_
      refine g_iconst C (v := 1) dX12_goBy_102 (by decide) ?_
      refine g_iadd C (v := x_10) dX12_goBy_103 hx_10 ?_
      refine h_iald C K hb_2L hb_2k (v := x_11) (x_10.toNatClampNeg) (rfl) (ix_0 rx_10 (by decide)) (ix_lt rx_10 (by decide) hb_2n (by decide)) hx_11 dX12_goBy_104 ?_
      refine g_aload_n C 2 dX12_goBy_105 rfl rfl ?_
      refine g_getR C K hLx hkx f_12_73 hb_2 dX12_goBy_106 ?_
      refine g_iload_n C 3 dX12_goBy_109 rfl rfl ?_
      refine g_iconst C (v := 2) dX12_goBy_110 (by decide) ?_
      refine g_iadd C (v := x_12) dX12_goBy_111 hx_12 ?_
      refine h_iald C K hb_2L hb_2k (v := x_13) (x_12.toNatClampNeg) (rfl) (ix_0 rx_12 (by decide)) (ix_lt rx_12 (by decide) hb_2n (by decide)) hx_13 dX12_goBy_112 ?_
      refine g_iload_n C 1 dX12_goBy_113 rfl rfl ?_
      refine g_callVV C K (c_X12_live W9 hLx hkx x_5 x_11 x_13 x_4 (r_8) (rx_11) (r_14) (rx_4) hU  (fun a ha => by rw [hb_1] at ha; cases ha; exact (ex_15 (rg_1k r_20 rc_0)) _ hb_1)) hLx hkx (by decide) rfl v_12_285 rfl ⟨rfl, rfl⟩ ⟨Nat.le_of_ble_eq_true rfl, Nat.le_of_ble_eq_true rfl⟩ (Nat.le_of_ble_eq_true rfl) ⟨Nat.le_of_ble_eq_true rfl, Nat.le_of_ble_eq_true rfl⟩ dX12_goBy_114 rfl (st := []) (fun I_25 J_26 h_27 => ?_)
      obtain ⟨hUI_25, hFI_25, hGJ_26, ex_24⟩ := h_27
      have hF_28 := fq_tr hF hFI_25 (by decide)
      have hG_29 := fq_tr hG hGJ_26 (by decide)
      refine g_iconst C (v := 0) dX12_goBy_117 (by decide) ?_
      exact g_zret (ty := .int) (r := 0) B K rfl (rfl) ⟨hUI_25, hF_28, hG_29, rg_w rc_0 (by decide) (by decide), (hd_t hd_rf ex_24)⟩ dX12_goBy_118
    · skip
      have n_30 : ¬ x_15 = 0 := h_19
      have r_31 := ne_lo (lo := 1) n_30 rx_15 rc_0 rfl (by decide)
      refine g_bipush C (v := 10) dX12_goBy_78 (by decide) ?_
      refine g_aload_n C 2 dX12_goBy_80 rfl rfl ?_
      refine g_getR C K hLx hkx f_12_73 hb_2 dX12_goBy_81 ?_
      refine g_iload_n C 3 dX12_goBy_84 rfl rfl ?_
      refine h_iald C K hb_2L hb_2k (v := x_5) (a0.toNatClampNeg) (rfl) (ix_0 ra0 (by decide)) (ix_lt ra0 (by decide) hb_2n (by decide)) hx_5 dX12_goBy_85 ?_
      obtain ⟨x_33, hx_33, rx_33, tx_33⟩ := ex_mulT 0 50 rc_10 r_8 (by decide) (by decide) (by decide) (by decide) (by decide)
      refine g_imul C (v := x_33) dX12_goBy_86 hx_33 ?_
      refine g_iload_n C 0 dX12_goBy_87 rfl rfl ?_
      obtain ⟨x_34, hx_34, rx_34, tx_34⟩ := ex_add 1 53 rx_33 r_31 (by decide) (by decide) (by decide) (by decide)
      refine g_iadd C (v := x_34) dX12_goBy_88 hx_34 ?_
      exact g_zret (ty := .int) (r := x_34) B K rfl (rfl) ⟨hU, hF, hG, rg_w rx_34 (by decide) (by decide), hd_rf⟩ dX12_goBy_89
  · skip
    have r_35 := (⟨(eq_rg (h_6) rc_6).1, (rx_5).2⟩ : Rg 6 6 x_5)
    refine g_aload_n C 1 dX12_goBy_20 rfl rfl ?_
    refine g_getR C K hLx hkx f_12_13 hb_1 dX12_goBy_21 ?_
    refine g_bipush C (v := 72) dX12_goBy_24 (by decide) ?_
    obtain ⟨x_36, hx_36, rx_36⟩ := ex_any (z0 := I b_1 (72))
    refine h_iald C K hb_1L hb_1k (v := x_36) (72) (by decide) (by decide) (by rw [hb_1n]; decide) hx_36 dX12_goBy_26 ?_
    refine g_iload_n C 0 dX12_goBy_27 rfl rfl ?_
    obtain ⟨x_37, hx_37, rx_37⟩ := ex_any (z0 := x_36 + x_4)
    refine g_iadd C (v := x_37) dX12_goBy_28 hx_37 ?_
    refine g_sipush C (v := 200) dX12_goBy_29 (by decide) ?_
    refine g_icmp_le C (tgt := 38) dX12_goBy_32 (by decide) (fun h_38 => ?_) (fun h_38 => ?_)
    · skip
      have r_39 := le_l (h_38) rx_37 rc_200
      refine g_aload_n C 1 dX12_goBy_38 rfl rfl ?_
      refine g_iload_n C 0 dX12_goBy_39 rfl rfl ?_
      refine g_callVI C K (c_X12_passMeals W9 hLx hkx x_4 (rx_4) hU) hLx hkx (by decide) rfl v_12_295 rfl ⟨rfl, rfl⟩ ⟨Nat.le_of_ble_eq_true rfl, Nat.le_of_ble_eq_true rfl⟩ (Nat.le_of_ble_eq_true rfl) ⟨Nat.le_of_ble_eq_true rfl, Nat.le_of_ble_eq_true rfl⟩ dX12_goBy_40 rfl (st := []) (fun x_40 I_41 J_42 h_43 => ?_)
      obtain ⟨hUI_41, hFI_41, hGJ_42, rx_40, ex_40⟩ := h_43
      have hF_44 := fq_tr hF hFI_41 (by decide)
      have hG_45 := fq_tr hG hGJ_42 (by decide)
      refine g_pop C dX12_goBy_43 rfl ?_
      refine g_iconst C (v := 0) dX12_goBy_44 (by decide) ?_
      exact g_zret (ty := .int) (r := 0) B K rfl (rfl) ⟨hUI_41, hF_44, hG_45, rg_w rc_0 (by decide) (by decide), (hd_t hd_rf ex_40)⟩ dX12_goBy_45
    · skip
      have r_46 := lt_r (lo := 201) (nle h_38) rc_200 rx_37 (by decide)
      refine g_bipush C (v := 61) dX12_goBy_35 (by decide) ?_
      exact g_zret (ty := .int) (r := 61) B K rfl (rfl) ⟨hU, hF, hG, rg_w rc_61 (by decide) (by decide), hd_rf⟩ dX12_goBy_37
set_option maxRecDepth 100000 in
set_option maxHeartbeats 8000000 in
theorem c_X12_readNumber_1_20 {l : Launch} {D : va_G} {cy : Nat → ClassId} {L : List Nat} {κ ln : Nat → Nat} {R : Nat → Nat → Option Nat} {I : Nat → Nat → Int32} {J : Nat → Nat → Int64} {ow : Nat → Nat × Nat} (W9 : ∀ a ∈ L, Shp L κ ln R ow a) {x : Nat} (hLx : x ∈ L) (hkx : κ x = 12) (hU : Iw L κ R ow I) : CtI l yX12_readNumber cX12_readNumber 3 (some .boolean) { frames := 2, cells := 0, slots := 0, locals := 45 } D cy L κ ln R I J [.ref x, .int 1, .int 20] (fun r I2 J2 => Iw L κ R ow I2 ∧ Fq L κ ow [1205, 1206, 1207, 1208, 1209, 1210, 1211, 1213] I I2 ∧ Fq L κ ow [1212] J J2 ∧ Rg 0 1 r ∧ ((r, MTf R I2 J2 x, NRf R I2 J2 x) = mReadNumber (1) (20) (MTf R I J x) (NRf R I J x)) ∧ (Pg_ x I I2 ∧ (¬ r = 0 → Ps_ x I I2)) ∧ (¬ r = 0 → Rg 1 20 (I2 x 13))) := by
  refine CtI.of (by decide +kernel) (Nat.le_of_ble_eq_true rfl) ?_
  intro p e s m below meth c B K
  have C := B.1
  have hF : Fq L κ ow [1205, 1206, 1207, 1208, 1209, 1210, 1211, 1213] I I := fq_rf
  have hG : Fq L κ ow [1212] J J := fq_rf
  obtain ⟨b_1, hb_1, hb_1L, hb_1k, hb_1n, hb_1o⟩ := shp_a (W9 x hLx) hkx 1 14 940 rfl (by decide)
  have emqx : ∀ I J, MTf R I J x = MTq I J x b_1 := fun I J => by simp only [MTf, rr_, Option.getD_some, hb_1]
  have wmqx : mqw_ L κ ow x b_1 := ⟨⟨hLx, hb_1L⟩, ⟨(ro_o hkx (by decide)), (ro_a hb_1k (by decide) hb_1o hkx rfl)⟩⟩
  obtain ⟨s_2, hs_2⟩ : ∃ z, MTq I J x b_1 = z := ⟨_, rfl⟩
  obtain ⟨b_3, hb_3, hb_3L, hb_3k, hb_3n, hb_3o⟩ := shp_a (W9 x hLx) hkx 15 14 72 rfl (by decide)
  obtain ⟨b_4, hb_4, hb_4L, hb_4k, hb_4n, hb_4o⟩ := shp_a (W9 x hLx) hkx 20 15 13 rfl (by decide)
  have enqx : ∀ I J, NRf R I J x = NRq I J x b_3 b_4 := fun I J => by simp only [NRf, rr_, Option.getD_some, hb_3, hb_4]
  have wnqx : nqw_ L κ ow x b_3 b_4 := ⟨⟨hLx, hb_3L, hb_4L⟩, ⟨(ro_o hkx (by decide)), (ro_a hb_3k (by decide) hb_3o hkx rfl), (ro_a hb_4k (by decide) hb_4o hkx rfl)⟩⟩
  obtain ⟨s_5, hs_5⟩ : ∃ z, NRq I J x b_3 b_4 = z := ⟨_, rfl⟩
  refine g_lo (is := [0, 1, 2]) (lo2 := [(0, .ref x), (1, .int 1), (2, .int 20)]) rfl ?_
  refine g_aload_n C 0 dX12_readNumber_0 rfl rfl ?_
  obtain ⟨x_6, hx_6, rx_6⟩ := ex_getw (I := I) (a := x) (j := 7) (lo := 0) (hi := 4) hU.1 hLx (ro_o hkx (by decide)) rfl
  have f_7 : s_2.kind = x_6 := (congrArg MT_.kind hs_2).symm.trans hx_6
  refine g_getI C K hLx hkx f_12_104 (v := x_6) hx_6 dX12_readNumber_1 ?_
  refine g_iconst C (v := 3) dX12_readNumber_4 (by decide) ?_
  refine g_icmp_eq C (tgt := 14) dX12_readNumber_5 (by decide) (fun h_8 => ?_) (fun h_8 => ?_)
  · skip
    have r_9 := (⟨(eq_rg (h_8) rc_3).1, (eq_rg (h_8) rc_3).2⟩ : Rg 3 3 x_6)
    refine g_aload_n C 0 dX12_readNumber_14 rfl rfl ?_
    obtain ⟨x_10, hx_10, rx_10⟩ := ex_getw (I := I) (a := x) (j := 8) (lo := (-2147483648)) (hi := 2147483647) hU.1 hLx (ro_o hkx (by decide)) rfl
    have f_11 : s_2.number = x_10 := (congrArg MT_.number hs_2).symm.trans hx_10
    refine g_getI C K hLx hkx f_12_121 (v := x_10) hx_10 dX12_readNumber_15 ?_
    refine g_iload_n C 1 dX12_readNumber_18 rfl rfl ?_
    refine g_iload_n C 2 dX12_readNumber_19 rfl rfl ?_
    refine g_callSI C K (c_X12_isIn W9 x_10 1 20 (rg_w rc_1 (by decide) (by decide)) (rg_w rc_20 (by decide) (by decide)) hU) s_12_149 rfl ⟨rfl, rfl⟩ ⟨Nat.le_of_ble_eq_true rfl, Nat.le_of_ble_eq_true rfl⟩ (Nat.le_of_ble_eq_true rfl) ⟨Nat.le_of_ble_eq_true rfl, Nat.le_of_ble_eq_true rfl⟩ dX12_readNumber_20 rfl (st := []) (fun x_12 I_13 J_14 h_15 => ?_)
    obtain ⟨rfl, rfl, rx_12, fx_12, ex_12⟩ := h_15
    have c_16 : isIn_ (x_10) (1) (20) = x_12 := fx_12.symm
    refine g_if_ne C (tgt := 32) dX12_readNumber_23 (by decide) (fun h_17 => ?_) (fun h_17 => ?_)
    · skip
      have n_18 : ¬ x_12 = 0 := h_17
      have r_19 := ne_lo (lo := 1) n_18 rx_12 rc_0 rfl (by decide)
      have r_20 := le_r (((ex_12.1) n_18)) rc_1 rx_10
      have r_21 := le_l (((ex_12.2) n_18)) r_20 rc_20
      refine g_aload_n C 0 dX12_readNumber_32 rfl rfl ?_
      refine g_aload_n C 0 dX12_readNumber_33 rfl rfl ?_
      refine g_getI C K hLx hkx f_12_121 (v := x_10) hx_10 dX12_readNumber_34 ?_
      refine h_putI C K hLx hkx f_12_153 p_12_13 dX12_readNumber_37 (fun I_22 hI_22 => ?_)
      have hU_23 := iw_put W9 hU hI_22 (ro_o hkx (by decide)) (lo := (-2147483648)) (hi := 2147483647) (rfl) (rg_all _) rfl
      have hF_24 := fq_puto hF hI_22 hkx (by decide) (by decide)
      have hs_25 : MTq I_22 J x b_1 = s_2 := by rw [hI_22]; exact (mq_uIt wmqx (by decide)).trans hs_2
      have hs_26 : NRq I_22 J x b_3 b_4 = (NR_.w_told s_5 (x_10)) := by rw [hI_22]; exact ((nq_told wnqx).trans (congrArg (fun z : NR_ => NR_.w_told z (x_10)) hs_5)).trans rfl
      refine g_aload_n C 0 dX12_readNumber_40 rfl rfl ?_
      refine g_callVV C K (c_X12_go W9 hLx hkx   hU_23) hLx hkx (by decide) rfl v_12_156 rfl ⟨rfl, rfl⟩ ⟨Nat.le_of_ble_eq_true rfl, Nat.le_of_ble_eq_true rfl⟩ (Nat.le_of_ble_eq_true rfl) ⟨Nat.le_of_ble_eq_true rfl, Nat.le_of_ble_eq_true rfl⟩ dX12_readNumber_41 rfl (st := []) (fun I_28 J_29 h_30 => ?_)
      obtain ⟨hUI_28, hFI_28, hGJ_29, fx_27, ex_27⟩ := h_30
      have hF_31 := fq_tr hF_24 hFI_28 (by decide)
      have hG_32 := fq_tr hG hGJ_29 (by decide)
      obtain ⟨s_34, hs_34⟩ : ∃ z, MTq I_28 J_29 x b_1 = z := ⟨_, rfl⟩
      have c_33 : mGo (s_2) = s_34 := by have q := fx_27; simp only [emqx, hs_25, hs_34] at q; exact q.symm
      have hs_35 : NRq I_28 J_29 x b_3 b_4 = (NR_.w_told s_5 (x_10)) := (nq_fq wnqx hFI_28 hGJ_29 (by decide) (by decide)).trans hs_26
      refine g_iconst C (v := 1) dX12_readNumber_44 (by decide) ?_
      exact g_zret (ty := .boolean) (r := 1) B K rfl (rfl) ⟨hUI_28, hF_31, hG_32, rg_w rc_1 (by decide) (by decide), (by simp only [mReadNumber, emqx, hs_34, hs_2, enqx, hs_35, hs_5, hx_6, f_7, (eq_true h_8), hx_10, f_11, c_16, h_17, c_33, if_true, if_false, mqM_tp, mqM_size, mqM_limit, mqM_to, mqM_frm, mqM_kind, mqM_number, mqM_sign, mqM_word, MT_.w_tp, MT_.w_size, MT_.w_limit, MT_.w_to, MT_.w_frm, MT_.w_kind, MT_.w_number, MT_.w_sign, MT_.w_word, nqM_rd, nqM_rn, nqM_taped, nqM_mfault, nqM_mplace, nqM_told, nqM_hl, nqM_hd, NR_.w_rd, NR_.w_rn, NR_.w_taped, NR_.w_mfault, NR_.w_mplace, NR_.w_told, NR_.w_hl, NR_.w_hd]), ⟨(pg_s (ps_t2 (pg_u pg_rf hI_22 (Or.inr (by decide)) (Or.inr (by decide))) ex_27)), fun _ => (ps_t2 (pg_u pg_rf hI_22 (Or.inr (by decide)) (Or.inr (by decide))) ex_27)⟩, (fun _ => eq_rg (fq_at hFI_28 hLx hkx (by decide) (by decide) (kp_s hI_22)) (r_21))⟩ dX12_readNumber_45
    · skip
      have r_36 := (⟨(rx_12).1, (eq_rg (h_17) rc_0).2⟩ : Rg 0 0 x_12)
      refine g_aload_n C 0 dX12_readNumber_26 rfl rfl ?_
      refine g_iconst C (v := 2) dX12_readNumber_27 (by decide) ?_
      refine g_callVI C K (c_X12_bad W9 hLx hkx 2 (rg_w rc_2 (by decide) (by decide)) hU) hLx hkx (by decide) rfl v_12_146 rfl ⟨rfl, rfl⟩ ⟨Nat.le_of_ble_eq_true rfl, Nat.le_of_ble_eq_true rfl⟩ (Nat.le_of_ble_eq_true rfl) ⟨Nat.le_of_ble_eq_true rfl, Nat.le_of_ble_eq_true rfl⟩ dX12_readNumber_28 rfl (st := []) (fun x_37 I_38 J_39 h_40 => ?_)
      obtain ⟨hUI_38, hFI_38, hGJ_39, rx_37, fx_37⟩ := h_40
      have hF_41 := fq_tr hF hFI_38 (by decide)
      have hG_42 := fq_tr hG hGJ_39 (by decide)
      obtain ⟨s_44, hs_44⟩ : ∃ z, MTq I_38 J_39 x b_1 = z := ⟨_, rfl⟩
      obtain ⟨s_45, hs_45⟩ : ∃ z, NRq I_38 J_39 x b_3 b_4 = z := ⟨_, rfl⟩
      have c_43 : mBad (2) (s_2) (s_5) = (x_37, s_44, s_45) := by have q := fx_37; simp only [emqx, enqx, hs_2, hs_5, hs_44, hs_45] at q; exact q.symm
      exact g_zret (ty := .boolean) (r := x_37) B K rfl (nar_z (rg_w rx_37 (by decide) (by decide))) ⟨hUI_38, hF_41, hG_42, rg_w rx_37 (by decide) (by decide), (by simp only [mReadNumber, emqx, hs_44, hs_2, enqx, hs_45, hs_5, hx_6, f_7, (eq_true h_8), hx_10, f_11, c_16, (eq_true h_17), c_43, if_true, if_false, mqM_tp, mqM_size, mqM_limit, mqM_to, mqM_frm, mqM_kind, mqM_number, mqM_sign, mqM_word, MT_.w_tp, MT_.w_size, MT_.w_limit, MT_.w_to, MT_.w_frm, MT_.w_kind, MT_.w_number, MT_.w_sign, MT_.w_word, nqM_rd, nqM_rn, nqM_taped, nqM_mfault, nqM_mplace, nqM_told, nqM_hl, nqM_hd, NR_.w_rd, NR_.w_rn, NR_.w_taped, NR_.w_mfault, NR_.w_mplace, NR_.w_told, NR_.w_hl, NR_.w_hd]), ⟨(pg_fq pg_rf hFI_38 hLx hkx (by decide) (by decide)), fun q => ne_no q rx_37 rc_0⟩, (fun q => ne_no q rx_37 rc_0)⟩ dX12_readNumber_31
  · skip
    have n_46 : ¬ x_6 = 3 := h_8
    refine g_aload_n C 0 dX12_readNumber_8 rfl rfl ?_
    refine g_iconst C (v := 1) dX12_readNumber_9 (by decide) ?_
    refine g_callVI C K (c_X12_bad W9 hLx hkx 1 (rg_w rc_1 (by decide) (by decide)) hU) hLx hkx (by decide) rfl v_12_146 rfl ⟨rfl, rfl⟩ ⟨Nat.le_of_ble_eq_true rfl, Nat.le_of_ble_eq_true rfl⟩ (Nat.le_of_ble_eq_true rfl) ⟨Nat.le_of_ble_eq_true rfl, Nat.le_of_ble_eq_true rfl⟩ dX12_readNumber_10 rfl (st := []) (fun x_47 I_48 J_49 h_50 => ?_)
    obtain ⟨hUI_48, hFI_48, hGJ_49, rx_47, fx_47⟩ := h_50
    have hF_51 := fq_tr hF hFI_48 (by decide)
    have hG_52 := fq_tr hG hGJ_49 (by decide)
    obtain ⟨s_54, hs_54⟩ : ∃ z, MTq I_48 J_49 x b_1 = z := ⟨_, rfl⟩
    obtain ⟨s_55, hs_55⟩ : ∃ z, NRq I_48 J_49 x b_3 b_4 = z := ⟨_, rfl⟩
    have c_53 : mBad (1) (s_2) (s_5) = (x_47, s_54, s_55) := by have q := fx_47; simp only [emqx, enqx, hs_2, hs_5, hs_54, hs_55] at q; exact q.symm
    exact g_zret (ty := .boolean) (r := x_47) B K rfl (nar_z (rg_w rx_47 (by decide) (by decide))) ⟨hUI_48, hF_51, hG_52, rg_w rx_47 (by decide) (by decide), (by simp only [mReadNumber, emqx, hs_54, hs_2, enqx, hs_55, hs_5, hx_6, f_7, h_8, c_53, if_true, if_false, mqM_tp, mqM_size, mqM_limit, mqM_to, mqM_frm, mqM_kind, mqM_number, mqM_sign, mqM_word, MT_.w_tp, MT_.w_size, MT_.w_limit, MT_.w_to, MT_.w_frm, MT_.w_kind, MT_.w_number, MT_.w_sign, MT_.w_word, nqM_rd, nqM_rn, nqM_taped, nqM_mfault, nqM_mplace, nqM_told, nqM_hl, nqM_hd, NR_.w_rd, NR_.w_rn, NR_.w_taped, NR_.w_mfault, NR_.w_mplace, NR_.w_told, NR_.w_hl, NR_.w_hd]), ⟨(pg_fq pg_rf hFI_48 hLx hkx (by decide) (by decide)), fun q => ne_no q rx_47 rc_0⟩, (fun q => ne_no q rx_47 rc_0)⟩ dX12_readNumber_13
set_option maxRecDepth 100000 in
set_option maxHeartbeats 8000000 in
theorem c_X12_readDoes {l : Launch} {D : va_G} {cy : Nat → ClassId} {L : List Nat} {κ ln : Nat → Nat} {R : Nat → Nat → Option Nat} {I : Nat → Nat → Int32} {J : Nat → Nat → Int64} {ow : Nat → Nat × Nat} (W9 : ∀ a ∈ L, Shp L κ ln R ow a) {x : Nat} (hLx : x ∈ L) (hkx : κ x = 12) (a0 : Int32) (ra0 : Rg 0 156 a0) (hU : Iw L κ R ow I) (hp0 : Rg 0 39 (I x 44)) (hm : a0.toInt % 4 = 0) (hat : a0.toNatClampNeg = 4 * (I x 44).toNatClampNeg) (h2 : ∀ rw, R x 42 = some rw → 0 ≤ (I rw (a0.toNatClampNeg + 2)).toInt) : CtI l yX12_readDoes cX12_readDoes 3 (some .boolean) { frames := 3, cells := 0, slots := 0, locals := 69 } D cy L κ ln R I J [.ref x, .int a0] (fun r I2 J2 => Iw L κ R ow I2 ∧ Fq L κ ow [1205, 1206, 1207, 1208, 1209, 1210, 1211, 1213, 86200] I I2 ∧ Fq L κ ow [1212] J J2 ∧ Rg 0 1 r ∧ (¬ r = 0 → ∀ rw, R x 42 = some rw → 0 ≤ (I2 rw (a0.toNatClampNeg + 2)).toInt)) := by
  refine CtI.of (by decide +kernel) (Nat.le_of_ble_eq_true rfl) ?_
  intro p e s m below meth c B K
  have C := B.1
  have hF : Fq L κ ow [1205, 1206, 1207, 1208, 1209, 1210, 1211, 1213, 86200] I I := fq_rf
  have hG : Fq L κ ow [1212] J J := fq_rf
  obtain ⟨xp0, hxp0, rxp0⟩ : ∃ z, I x 44 = z ∧ Rg 0 39 z := ⟨_, rfl, hp0⟩
  obtain ⟨b_1, hb_1, hb_1L, hb_1k, hb_1n, hb_1o⟩ := shp_a (W9 x hLx) hkx 14 14 389 rfl (by decide)
  obtain ⟨b_2, hb_2, hb_2L, hb_2k, hb_2n, hb_2o⟩ := shp_a (W9 x hLx) hkx 19 15 13 rfl (by decide)
  obtain ⟨b_3, hb_3, hb_3L, hb_3k, hb_3n, hb_3o⟩ := shp_a (W9 x hLx) hkx 42 14 160 rfl (by decide)
  refine g_lo (is := [0, 1]) (lo2 := [(0, .ref x), (1, .int a0)]) rfl ?_
  have l_3 : ∀ (n_3 : Nat) (v_4 : Int32) (rv_4 : Rg 9 15 v_4) (q_5 : I x 44 = xp0) (hm_6 : 15 < (v_4 : Int32).toInt + (n_3 : Int)), WG p l e { frames := 3, cells := 0, slots := 0, locals := 69 } s m ([.ref x, .int a0] : List Value).toArray below meth c 3 0 0 (MQ below (Qi_ D cy L κ ln R (fun r I2 J2 => Iw L κ R ow I2 ∧ Fq L κ ow [1205, 1206, 1207, 1208, 1209, 1210, 1211, 1213, 86200] I I2 ∧ Fq L κ ow [1212] J J2 ∧ Rg 0 1 r ∧ (¬ r = 0 → ∀ rw, R x 42 = some rw → 0 ≤ (I2 rw (a0.toNatClampNeg + 2)).toInt))) ([.ref x, .int a0] : List Value).toArray s 0 0 (Al_ L)) D cy (Al_ L) s.heap L κ ln R I J 3 [(0, .ref x), (1, .int a0), (2, .int v_4)] [] := by
    intro n_3
    induction n_3 with
    | zero =>
      intro v_4 rv_4 q_5 hm_6
      exact ms_0 rv_4 hm_6
    | succ n_3 ih_3 =>
      intro v_4 rv_4 q_5 hm_6
      refine g_iload_n C 2 dX12_readDoes_3 rfl rfl ?_
      refine g_bipush C (v := 14) dX12_readDoes_4 (by decide) ?_
      refine g_icmp_gt C (tgt := 23) dX12_readDoes_6 (by decide) (fun h_7 => ?_) (fun h_7 => ?_)
      · skip
        have r_8 := lt_r (lo := 15) (h_7) rc_14 rv_4 (by decide)
        refine g_iload_n C 2 dX12_readDoes_23 rfl rfl ?_
        refine g_bipush C (v := 14) dX12_readDoes_24 (by decide) ?_
        refine g_icmp_le C (tgt := 35) dX12_readDoes_26 (by decide) (fun h_9 => ?_) (fun h_9 => ?_)
        · skip
          have r_10 := le_l (h_9) r_8 rc_14
          exact rg_no r_10 (by decide)
        · skip
          refine g_aload_n C 0 dX12_readDoes_29 rfl rfl ?_
          refine g_iconst C (v := 1) dX12_readDoes_30 (by decide) ?_
          refine g_callVI C K (c_X12_bad W9 hLx hkx 1 (rg_w rc_1 (by decide) (by decide)) hU) hLx hkx (by decide) rfl v_12_146 rfl ⟨rfl, rfl⟩ ⟨Nat.le_of_ble_eq_true rfl, Nat.le_of_ble_eq_true rfl⟩ (Nat.le_of_ble_eq_true rfl) ⟨Nat.le_of_ble_eq_true rfl, Nat.le_of_ble_eq_true rfl⟩ dX12_readDoes_31 rfl (st := []) (fun x_11 I_12 J_13 h_14 => ?_)
          obtain ⟨hUI_12, hFI_12, hGJ_13, rx_11, fx_11⟩ := h_14
          have hF_15 := fq_tr hF hFI_12 (by decide)
          have hG_16 := fq_tr hG hGJ_13 (by decide)
          exact g_zret (ty := .boolean) (r := x_11) B K rfl (nar_z (rg_w rx_11 (by decide) (by decide))) ⟨hUI_12, hF_15, hG_16, rg_w rx_11 (by decide) (by decide), (fun q => ne_no q rx_11 rc_0)⟩ dX12_readDoes_34
      · skip
        have r_17 := le_l (nlt h_7) rv_4 rc_14
        refine g_aload_n C 0 dX12_readDoes_9 rfl rfl ?_
        refine g_iload_n C 2 dX12_readDoes_10 rfl rfl ?_
        refine g_callVI C K (c_X12_isWord W9 hLx hkx v_4 (rg_w r_17 (by decide) (by decide)) hU) hLx hkx (by decide) rfl v_12_191 rfl ⟨rfl, rfl⟩ ⟨Nat.le_of_ble_eq_true rfl, Nat.le_of_ble_eq_true rfl⟩ (Nat.le_of_ble_eq_true rfl) ⟨Nat.le_of_ble_eq_true rfl, Nat.le_of_ble_eq_true rfl⟩ dX12_readDoes_11 rfl (st := []) (fun x_18 I_19 J_20 h_21 => ?_)
        obtain ⟨rfl, rfl, rx_18, fx_18⟩ := h_21
        refine g_if_ne C (tgt := 23) dX12_readDoes_14 (by decide) (fun h_22 => ?_) (fun h_22 => ?_)
        · skip
          have n_23 : ¬ x_18 = 0 := h_22
          have r_24 := ne_lo (lo := 1) n_23 rx_18 rc_0 rfl (by decide)
          refine g_iload_n C 2 dX12_readDoes_23 rfl rfl ?_
          refine g_bipush C (v := 14) dX12_readDoes_24 (by decide) ?_
          refine g_icmp_le C (tgt := 35) dX12_readDoes_26 (by decide) (fun h_25 => ?_) (fun h_25 => ?_)
          · skip
            refine g_aload_n C 0 dX12_readDoes_35 rfl rfl ?_
            refine g_getR C K hLx hkx f_12_73 hb_3 dX12_readDoes_36 ?_
            refine g_iload_n C 1 dX12_readDoes_39 rfl rfl ?_
            refine g_iload_n C 2 dX12_readDoes_40 rfl rfl ?_
            refine g_bipush C (v := 9) dX12_readDoes_41 (by decide) ?_
            obtain ⟨x_26, hx_26, rx_26, tx_26⟩ := ex_sub 0 5 r_17 rc_9 (by decide) (by decide) (by decide) (by decide)
            refine g_isub C (v := x_26) dX12_readDoes_43 hx_26 ?_
            refine h_iast C K hb_3L hb_3k (a0.toNatClampNeg) (rfl) (ix_0 ra0 (by decide)) (ix_lt ra0 (by decide) hb_3n (by decide)) dX12_readDoes_44 (fun I_27 hI_27 => ?_)
            have hU_28 := iw_rw W9 hU (uw_put hU.1 hI_27 (ro_a hb_3k (by decide) hb_3o hkx rfl) (lo := 0) (hi := 6) (bn_862.trans (rz_0 (ix_m hm ra0 (by decide)))) (rg_w rx_26 (by decide) (by decide))) hLx hkx hb_3 hI_27 q_5 (rxp0).1 (by have q9 := hat; rw [hxp0] at q9; omega)
            have hF_29 := fq_puta hF hI_27 (ro_a hb_3k (by decide) hb_3o hkx rfl) (by decide) (by decide)
            refine g_aload_n C 0 dX12_readDoes_45 rfl rfl ?_
            refine g_callVV C K (c_X12_go W9 hLx hkx   hU_28) hLx hkx (by decide) rfl v_12_156 rfl ⟨rfl, rfl⟩ ⟨Nat.le_of_ble_eq_true rfl, Nat.le_of_ble_eq_true rfl⟩ (Nat.le_of_ble_eq_true rfl) ⟨Nat.le_of_ble_eq_true rfl, Nat.le_of_ble_eq_true rfl⟩ dX12_readDoes_46 rfl (st := []) (fun I_31 J_32 h_33 => ?_)
            obtain ⟨hUI_31, hFI_31, hGJ_32, fx_30, ex_30⟩ := h_33
            have hF_34 := fq_tr hF_29 hFI_31 (by decide)
            have hG_35 := fq_tr hG hGJ_32 (by decide)
            refine g_aload_n C 0 dX12_readDoes_49 rfl rfl ?_
            refine g_getR C K hLx hkx f_12_73 hb_3 dX12_readDoes_50 ?_
            refine g_iload_n C 1 dX12_readDoes_53 rfl rfl ?_
            refine h_iald C K hb_3L hb_3k (v := x_26) (a0.toNatClampNeg) (rfl) (ix_0 ra0 (by decide)) (ix_lt ra0 (by decide) hb_3n (by decide)) (fq_ar hFI_31 hb_3L (ro_a hb_3k (by decide) hb_3o hkx rfl) (by decide) (by decide) (kp_s hI_27)) dX12_readDoes_54 ?_
            refine g_iconst C (v := 1) dX12_readDoes_55 (by decide) ?_
            refine g_icmp_le C (tgt := 61) dX12_readDoes_56 (by decide) (fun h_37 => ?_) (fun h_37 => ?_)
            · skip
              have r_38 := le_l (h_37) rx_26 rc_1
              have r_39 := rg_der (k := (-9)) (lo := 9) (hi := 10) (ti_s tx_26 rc_9 (by decide)) r_38 r_17 (by decide) (by decide)
              refine g_aload_n C 0 dX12_readDoes_61 rfl rfl ?_
              refine g_callVI C K (c_X12_isName W9 hLx hkx   hUI_31) hLx hkx (by decide) rfl v_12_166 rfl ⟨rfl, rfl⟩ ⟨Nat.le_of_ble_eq_true rfl, Nat.le_of_ble_eq_true rfl⟩ (Nat.le_of_ble_eq_true rfl) ⟨Nat.le_of_ble_eq_true rfl, Nat.le_of_ble_eq_true rfl⟩ dX12_readDoes_62 rfl (st := []) (fun x_40 I_41 J_42 h_43 => ?_)
              obtain ⟨rfl, rfl, rx_40, fx_40⟩ := h_43
              refine g_if_ne C (tgt := 74) dX12_readDoes_65 (by decide) (fun h_44 => ?_) (fun h_44 => ?_)
              · skip
                have n_45 : ¬ x_40 = 0 := h_44
                have r_46 := ne_lo (lo := 1) n_45 rx_40 rc_0 rfl (by decide)
                refine g_aload_n C 0 dX12_readDoes_74 rfl rfl ?_
                refine g_getR C K hLx hkx f_12_73 hb_3 dX12_readDoes_75 ?_
                refine g_iload_n C 1 dX12_readDoes_78 rfl rfl ?_
                refine g_iconst C (v := 2) dX12_readDoes_79 (by decide) ?_
                obtain ⟨x_47, hx_47, rx_47, tx_47⟩ := ex_add 2 158 ra0 rc_2 (by decide) (by decide) (by decide) (by decide)
                refine g_iadd C (v := x_47) dX12_readDoes_80 hx_47 ?_
                refine g_aload_n C 0 dX12_readDoes_81 rfl rfl ?_
                refine g_getR C K hLx hkx f_12_28 hb_2 dX12_readDoes_82 ?_
                refine g_bipush C (v := 7) dX12_readDoes_85 (by decide) ?_
                refine g_aload_n C 0 dX12_readDoes_87 rfl rfl ?_
                refine g_getR C K hLx hkx f_12_13 hb_1 dX12_readDoes_88 ?_
                refine g_iconst C (v := 1) dX12_readDoes_91 (by decide) ?_
                obtain ⟨x_48, hx_48, rx_48⟩ := ex_getw (I := I_31) (a := b_1) (j := 1) (lo := 0) (hi := 6) hUI_31.1 hb_1L (ro_a hb_1k (by decide) hb_1o hkx rfl) (by decide)
                refine h_iald C K hb_1L hb_1k (v := x_48) (1) (by decide) (by decide) (by rw [hb_1n]; decide) hx_48 dX12_readDoes_92 ?_
                refine g_aload_n C 0 dX12_readDoes_93 rfl rfl ?_
                obtain ⟨y_49, hy_49⟩ : ∃ z, J_32 x 12 = z := ⟨_, rfl⟩
                refine g_getJ C K hLx hkx f_12_117 (v := y_49) hy_49 dX12_readDoes_94 ?_
                refine g_callSI C K (c_X12_findIn_7 W9 hb_2L hb_2k hb_2n x_48 y_49 (rx_48) hUI_31) s_12_170 rfl ⟨rfl, rfl⟩ ⟨Nat.le_of_ble_eq_true rfl, Nat.le_of_ble_eq_true rfl⟩ (Nat.le_of_ble_eq_true rfl) ⟨Nat.le_of_ble_eq_true rfl, Nat.le_of_ble_eq_true rfl⟩ dX12_readDoes_97 rfl (st := [.int x_47, .ref b_3]) (fun x_50 I_51 J_52 h_53 => ?_)
                obtain ⟨rfl, rfl, rx_50, fx_50, ex_50⟩ := h_53
                refine h_iast C K hb_3L hb_3k (x_47.toNatClampNeg) (rfl) (ix_0 rx_47 (by decide)) (ix_lt rx_47 (by decide) hb_3n (by decide)) dX12_readDoes_100 (fun I_54 hI_54 => ?_)
                have hU_55 := iw_rw W9 hUI_31 (uw_put hUI_31.1 hI_54 (ro_a hb_3k (by decide) hb_3o hkx rfl) (lo := (-1)) (hi := 5) (bn_862.trans (rz_2 (ix_m (md_a (r2 := 2) tx_47 hm rc_2 (by decide)) rx_47 (by decide)))) (rx_50)) hLx hkx hb_3 hI_54 (fq_at hFI_31 hLx hkx (by decide) (by decide) (kp_k (κ := κ) hI_27 (by rw [hkx, hb_3k]; decide) q_5)) (rxp0).1 (by have q9 := hat; rw [hxp0] at q9; rw [nx_a tx_47 ra0 rc_2 (by decide)]; simp only [show (2 : Int32).toNatClampNeg = 2 from rfl] <;> omega)
                have hF_56 := fq_puta hF_34 hI_54 (ro_a hb_3k (by decide) hb_3o hkx rfl) (by decide) (by decide)
                refine g_aload_n C 0 dX12_readDoes_101 rfl rfl ?_
                refine g_getR C K hLx hkx f_12_73 hb_3 dX12_readDoes_102 ?_
                refine g_iload_n C 1 dX12_readDoes_105 rfl rfl ?_
                refine g_iconst C (v := 2) dX12_readDoes_106 (by decide) ?_
                refine g_iadd C (v := x_47) dX12_readDoes_107 hx_47 ?_
                refine h_iald C K hb_3L hb_3k (v := x_50) (x_47.toNatClampNeg) (rfl) (ix_0 rx_47 (by decide)) (ix_lt rx_47 (by decide) hb_3n (by decide)) (kp_s hI_54) dX12_readDoes_108 ?_
                refine g_iconst C (v := (-1)) dX12_readDoes_109 (by decide) ?_
                refine g_icmp_ne C (tgt := 119) dX12_readDoes_110 (by decide) (fun h_58 => ?_) (fun h_58 => ?_)
                · skip
                  have n_59 : ¬ x_50 = (-1) := h_58
                  have r_60 := ne_lo (lo := 0) n_59 rx_50 rc_m1 rfl (by decide)
                  refine g_aload_n C 0 dX12_readDoes_119 rfl rfl ?_
                  refine g_callVV C K (c_X12_go W9 hLx hkx   hU_55) hLx hkx (by decide) rfl v_12_156 rfl ⟨rfl, rfl⟩ ⟨Nat.le_of_ble_eq_true rfl, Nat.le_of_ble_eq_true rfl⟩ (Nat.le_of_ble_eq_true rfl) ⟨Nat.le_of_ble_eq_true rfl, Nat.le_of_ble_eq_true rfl⟩ dX12_readDoes_120 rfl (st := []) (fun I_62 J_63 h_64 => ?_)
                  obtain ⟨hUI_62, hFI_62, hGJ_63, fx_61, ex_61⟩ := h_64
                  have hF_65 := fq_tr hF_56 hFI_62 (by decide)
                  have hG_66 := fq_tr hG_35 hGJ_63 (by decide)
                  refine g_aload_n C 0 dX12_readDoes_123 rfl rfl ?_
                  refine g_iconst C (v := 1) dX12_readDoes_124 (by decide) ?_
                  refine g_aload_n C 0 dX12_readDoes_125 rfl rfl ?_
                  refine g_getR C K hLx hkx f_12_73 hb_3 dX12_readDoes_126 ?_
                  refine g_iload_n C 1 dX12_readDoes_129 rfl rfl ?_
                  obtain ⟨x_67, hx_67, rx_67⟩ := ex_getw (I := I_62) (a := b_3) (j := a0.toNatClampNeg) (lo := 0) (hi := 6) hUI_62.1 hb_3L (ro_a hb_3k (by decide) hb_3o hkx rfl) (bn_862.trans (rz_0 (ix_m hm ra0 (by decide))))
                  refine h_iald C K hb_3L hb_3k (v := x_67) (a0.toNatClampNeg) (rfl) (ix_0 ra0 (by decide)) (ix_lt ra0 (by decide) hb_3n (by decide)) hx_67 dX12_readDoes_130 ?_
                  refine g_if_ne C (tgt := 139) dX12_readDoes_131 (by decide) (fun h_68 => ?_) (fun h_68 => ?_)
                  · skip
                    have n_69 : ¬ x_67 = 0 := h_68
                    have r_70 := ne_lo (lo := 1) n_69 rx_67 rc_0 rfl (by decide)
                    refine g_bipush C (v := 40) dX12_readDoes_139 (by decide) ?_
                    obtain ⟨x_71, hx_71, rx_71⟩ := ex_getw (I := I_62) (a := x) (j := 13) (lo := (-2147483648)) (hi := 2147483647) hUI_62.1 hLx (ro_o hkx (by decide)) rfl
                    refine g_callVI C K (c_X12_readNumber_1_40 W9 hLx hkx   hUI_62) hLx hkx (by decide) rfl v_12_184 rfl ⟨rfl, rfl⟩ ⟨Nat.le_of_ble_eq_true rfl, Nat.le_of_ble_eq_true rfl⟩ (Nat.le_of_ble_eq_true rfl) ⟨Nat.le_of_ble_eq_true rfl, Nat.le_of_ble_eq_true rfl⟩ dX12_readDoes_141 rfl (st := []) (fun x_72 I_73 J_74 h_75 => ?_)
                    obtain ⟨hUI_73, hFI_73, hGJ_74, rx_72, fx_72, ex_72⟩ := h_75
                    have hF_76 := fq_tr hF_65 hFI_73 (by decide)
                    have hG_77 := fq_tr hG_66 hGJ_74 (by decide)
                    obtain ⟨x_78, hx_78, rx_78⟩ := ex_getw (I := I_73) (a := x) (j := 13) (lo := (-2147483648)) (hi := 2147483647) hUI_73.1 hLx (ro_o hkx (by decide)) rfl
                    have q_79 := hx_78
                    refine g_if_ne C (tgt := 149) dX12_readDoes_144 (by decide) (fun h_80 => ?_) (fun h_80 => ?_)
                    · skip
                      have n_81 : ¬ x_72 = 0 := h_80
                      have r_82 := ne_lo (lo := 1) n_81 rx_72 rc_0 rfl (by decide)
                      have r_83 := rg_i rx_78 (eq_rg q_79.symm ((ex_72.2) n_81)) (lo := 1) (hi := 40) (by decide) (by decide)
                      refine g_aload_n C 0 dX12_readDoes_149 rfl rfl ?_
                      refine g_getR C K hLx hkx f_12_73 hb_3 dX12_readDoes_150 ?_
                      refine g_iload_n C 1 dX12_readDoes_153 rfl rfl ?_
                      refine g_iconst C (v := 3) dX12_readDoes_154 (by decide) ?_
                      obtain ⟨x_84, hx_84, rx_84, tx_84⟩ := ex_add 3 159 ra0 rc_3 (by decide) (by decide) (by decide) (by decide)
                      refine g_iadd C (v := x_84) dX12_readDoes_155 hx_84 ?_
                      refine g_aload_n C 0 dX12_readDoes_156 rfl rfl ?_
                      refine g_getI C K hLx hkx f_12_153 (v := x_78) hx_78 dX12_readDoes_157 ?_
                      refine h_iast C K hb_3L hb_3k (x_84.toNatClampNeg) (rfl) (ix_0 rx_84 (by decide)) (ix_lt rx_84 (by decide) hb_3n (by decide)) dX12_readDoes_160 (fun I_85 hI_85 => ?_)
                      have q_86 := (fq_at hFI_73 hLx hkx (by decide) (by decide) (fq_at hFI_62 hLx hkx (by decide) (by decide) (kp_k (κ := κ) hI_54 (by rw [hkx, hb_3k]; decide) (fq_at hFI_31 hLx hkx (by decide) (by decide) (kp_k (κ := κ) hI_27 (by rw [hkx, hb_3k]; decide) q_5)))))
                      have hU_87 := iw_rw W9 hUI_73 (uw_put hUI_73.1 hI_85 (ro_a hb_3k (by decide) hb_3o hkx rfl) (lo := 0) (hi := 60) (bn_862.trans (rz_3 (ix_m (md_a (r2 := 3) tx_84 hm rc_3 (by decide)) rx_84 (by decide)))) (rg_w r_83 (by decide) (by decide))) hLx hkx hb_3 hI_85 q_86 (rxp0).1 (by have q9 := hat; rw [hxp0] at q9; rw [nx_a tx_84 ra0 rc_3 (by decide)]; simp only [show (3 : Int32).toNatClampNeg = 3 from rfl] <;> omega)
                      have hF_88 := fq_puta hF_76 hI_85 (ro_a hb_3k (by decide) hb_3o hkx rfl) (by decide) (by decide)
                      refine g_iconst C (v := 1) dX12_readDoes_161 (by decide) ?_
                      exact g_zret (ty := .boolean) (r := 1) B K rfl (rfl) ⟨hU_87, hF_88, hG_77, rg_w rc_1 (by decide) (by decide), (fun _ rw hr => by rw [hb_3] at hr; cases hr; rw [(kp_j hI_85 (show a0.toNatClampNeg + 2 ≠ x_84.toNatClampNeg from by rw [nx_a tx_84 ra0 rc_3 (by decide)]; simp only [show (3 : Int32).toNatClampNeg = 3 from rfl] <;> omega) (fq_ar hFI_73 hb_3L (ro_a hb_3k (by decide) hb_3o hkx rfl) (by decide) (by decide) (fq_ar hFI_62 hb_3L (ro_a hb_3k (by decide) hb_3o hkx rfl) (by decide) (by decide) (show I_54 b_3 (a0.toNatClampNeg + 2) = x_50 from by rw [← (show x_47.toNatClampNeg = a0.toNatClampNeg + 2 from by rw [nx_a tx_47 ra0 rc_2 (by decide)]; simp only [show (2 : Int32).toNatClampNeg = 2 from rfl] <;> omega)]; exact kp_s hI_54))))]; exact (r_60).1)⟩ dX12_readDoes_162
                    · skip
                      have r_89 := (⟨(rx_72).1, (eq_rg (h_80) rc_0).2⟩ : Rg 0 0 x_72)
                      refine g_iconst C (v := 0) dX12_readDoes_147 (by decide) ?_
                      exact g_zret (ty := .boolean) (r := 0) B K rfl (rfl) ⟨hUI_73, hF_76, hG_77, rg_w rc_0 (by decide) (by decide), (fun q => absurd rfl q)⟩ dX12_readDoes_148
                  · skip
                    have r_90 := (⟨(rx_67).1, (eq_rg (h_68) rc_0).2⟩ : Rg 0 0 x_67)
                    refine g_bipush C (v := 20) dX12_readDoes_134 (by decide) ?_
                    refine g_goto C (tgt := 141) dX12_readDoes_136 (by decide) ?_
                    obtain ⟨x_91, hx_91, rx_91⟩ := ex_getw (I := I_62) (a := x) (j := 13) (lo := (-2147483648)) (hi := 2147483647) hUI_62.1 hLx (ro_o hkx (by decide)) rfl
                    refine g_callVI C K (c_X12_readNumber_1_20 W9 hLx hkx   hUI_62) hLx hkx (by decide) rfl v_12_184 rfl ⟨rfl, rfl⟩ ⟨Nat.le_of_ble_eq_true rfl, Nat.le_of_ble_eq_true rfl⟩ (Nat.le_of_ble_eq_true rfl) ⟨Nat.le_of_ble_eq_true rfl, Nat.le_of_ble_eq_true rfl⟩ dX12_readDoes_141 rfl (st := []) (fun x_92 I_93 J_94 h_95 => ?_)
                    obtain ⟨hUI_93, hFI_93, hGJ_94, rx_92, fx_92, ex_92⟩ := h_95
                    have hF_96 := fq_tr hF_65 hFI_93 (by decide)
                    have hG_97 := fq_tr hG_66 hGJ_94 (by decide)
                    obtain ⟨x_98, hx_98, rx_98⟩ := ex_getw (I := I_93) (a := x) (j := 13) (lo := (-2147483648)) (hi := 2147483647) hUI_93.1 hLx (ro_o hkx (by decide)) rfl
                    have q_99 := hx_98
                    refine g_if_ne C (tgt := 149) dX12_readDoes_144 (by decide) (fun h_100 => ?_) (fun h_100 => ?_)
                    · skip
                      have n_101 : ¬ x_92 = 0 := h_100
                      have r_102 := ne_lo (lo := 1) n_101 rx_92 rc_0 rfl (by decide)
                      have r_103 := rg_i rx_98 (eq_rg q_99.symm ((ex_92.2) n_101)) (lo := 1) (hi := 20) (by decide) (by decide)
                      refine g_aload_n C 0 dX12_readDoes_149 rfl rfl ?_
                      refine g_getR C K hLx hkx f_12_73 hb_3 dX12_readDoes_150 ?_
                      refine g_iload_n C 1 dX12_readDoes_153 rfl rfl ?_
                      refine g_iconst C (v := 3) dX12_readDoes_154 (by decide) ?_
                      obtain ⟨x_104, hx_104, rx_104, tx_104⟩ := ex_add 3 159 ra0 rc_3 (by decide) (by decide) (by decide) (by decide)
                      refine g_iadd C (v := x_104) dX12_readDoes_155 hx_104 ?_
                      refine g_aload_n C 0 dX12_readDoes_156 rfl rfl ?_
                      refine g_getI C K hLx hkx f_12_153 (v := x_98) hx_98 dX12_readDoes_157 ?_
                      refine h_iast C K hb_3L hb_3k (x_104.toNatClampNeg) (rfl) (ix_0 rx_104 (by decide)) (ix_lt rx_104 (by decide) hb_3n (by decide)) dX12_readDoes_160 (fun I_105 hI_105 => ?_)
                      have q_106 := (fq_at hFI_93 hLx hkx (by decide) (by decide) (fq_at hFI_62 hLx hkx (by decide) (by decide) (kp_k (κ := κ) hI_54 (by rw [hkx, hb_3k]; decide) (fq_at hFI_31 hLx hkx (by decide) (by decide) (kp_k (κ := κ) hI_27 (by rw [hkx, hb_3k]; decide) q_5)))))
                      have hU_107 := iw_rw W9 hUI_93 (uw_put hUI_93.1 hI_105 (ro_a hb_3k (by decide) hb_3o hkx rfl) (lo := 0) (hi := 60) (bn_862.trans (rz_3 (ix_m (md_a (r2 := 3) tx_104 hm rc_3 (by decide)) rx_104 (by decide)))) (rg_w r_103 (by decide) (by decide))) hLx hkx hb_3 hI_105 q_106 (rxp0).1 (by have q9 := hat; rw [hxp0] at q9; rw [nx_a tx_104 ra0 rc_3 (by decide)]; simp only [show (3 : Int32).toNatClampNeg = 3 from rfl] <;> omega)
                      have hF_108 := fq_puta hF_96 hI_105 (ro_a hb_3k (by decide) hb_3o hkx rfl) (by decide) (by decide)
                      refine g_iconst C (v := 1) dX12_readDoes_161 (by decide) ?_
                      exact g_zret (ty := .boolean) (r := 1) B K rfl (rfl) ⟨hU_107, hF_108, hG_97, rg_w rc_1 (by decide) (by decide), (fun _ rw hr => by rw [hb_3] at hr; cases hr; rw [(kp_j hI_105 (show a0.toNatClampNeg + 2 ≠ x_104.toNatClampNeg from by rw [nx_a tx_104 ra0 rc_3 (by decide)]; simp only [show (3 : Int32).toNatClampNeg = 3 from rfl] <;> omega) (fq_ar hFI_93 hb_3L (ro_a hb_3k (by decide) hb_3o hkx rfl) (by decide) (by decide) (fq_ar hFI_62 hb_3L (ro_a hb_3k (by decide) hb_3o hkx rfl) (by decide) (by decide) (show I_54 b_3 (a0.toNatClampNeg + 2) = x_50 from by rw [← (show x_47.toNatClampNeg = a0.toNatClampNeg + 2 from by rw [nx_a tx_47 ra0 rc_2 (by decide)]; simp only [show (2 : Int32).toNatClampNeg = 2 from rfl] <;> omega)]; exact kp_s hI_54))))]; exact (r_60).1)⟩ dX12_readDoes_162
                    · skip
                      have r_109 := (⟨(rx_92).1, (eq_rg (h_100) rc_0).2⟩ : Rg 0 0 x_92)
                      refine g_iconst C (v := 0) dX12_readDoes_147 (by decide) ?_
                      exact g_zret (ty := .boolean) (r := 0) B K rfl (rfl) ⟨hUI_93, hF_96, hG_97, rg_w rc_0 (by decide) (by decide), (fun q => absurd rfl q)⟩ dX12_readDoes_148
                · skip
                  have r_110 := (⟨(rx_50).1, (eq_rg (h_58) rc_m1).2⟩ : Rg (-1) (-1) x_50)
                  refine g_aload_n C 0 dX12_readDoes_113 rfl rfl ?_
                  refine g_iconst C (v := 3) dX12_readDoes_114 (by decide) ?_
                  refine g_callVI C K (c_X12_bad W9 hLx hkx 3 (rg_w rc_3 (by decide) (by decide)) hU_55) hLx hkx (by decide) rfl v_12_146 rfl ⟨rfl, rfl⟩ ⟨Nat.le_of_ble_eq_true rfl, Nat.le_of_ble_eq_true rfl⟩ (Nat.le_of_ble_eq_true rfl) ⟨Nat.le_of_ble_eq_true rfl, Nat.le_of_ble_eq_true rfl⟩ dX12_readDoes_115 rfl (st := []) (fun x_111 I_112 J_113 h_114 => ?_)
                  obtain ⟨hUI_112, hFI_112, hGJ_113, rx_111, fx_111⟩ := h_114
                  have hF_115 := fq_tr hF_56 hFI_112 (by decide)
                  have hG_116 := fq_tr hG_35 hGJ_113 (by decide)
                  exact g_zret (ty := .boolean) (r := x_111) B K rfl (nar_z (rg_w rx_111 (by decide) (by decide))) ⟨hUI_112, hF_115, hG_116, rg_w rx_111 (by decide) (by decide), (fun q => ne_no q rx_111 rc_0)⟩ dX12_readDoes_118
              · skip
                have r_117 := (⟨(rx_40).1, (eq_rg (h_44) rc_0).2⟩ : Rg 0 0 x_40)
                refine g_aload_n C 0 dX12_readDoes_68 rfl rfl ?_
                refine g_iconst C (v := 1) dX12_readDoes_69 (by decide) ?_
                refine g_callVI C K (c_X12_bad W9 hLx hkx 1 (rg_w rc_1 (by decide) (by decide)) hUI_31) hLx hkx (by decide) rfl v_12_146 rfl ⟨rfl, rfl⟩ ⟨Nat.le_of_ble_eq_true rfl, Nat.le_of_ble_eq_true rfl⟩ (Nat.le_of_ble_eq_true rfl) ⟨Nat.le_of_ble_eq_true rfl, Nat.le_of_ble_eq_true rfl⟩ dX12_readDoes_70 rfl (st := []) (fun x_118 I_119 J_120 h_121 => ?_)
                obtain ⟨hUI_119, hFI_119, hGJ_120, rx_118, fx_118⟩ := h_121
                have hF_122 := fq_tr hF_34 hFI_119 (by decide)
                have hG_123 := fq_tr hG_35 hGJ_120 (by decide)
                exact g_zret (ty := .boolean) (r := x_118) B K rfl (nar_z (rg_w rx_118 (by decide) (by decide))) ⟨hUI_119, hF_122, hG_123, rg_w rx_118 (by decide) (by decide), (fun q => ne_no q rx_118 rc_0)⟩ dX12_readDoes_73
            · skip
              have r_124 := lt_r (lo := 2) (nle h_37) rc_1 rx_26 (by decide)
              have r_125 := rg_der (k := (-9)) (lo := 11) (hi := 14) (ti_s tx_26 rc_9 (by decide)) r_124 r_17 (by decide) (by decide)
              refine g_iconst C (v := 1) dX12_readDoes_59 (by decide) ?_
              exact g_zret (ty := .boolean) (r := 1) B K rfl (rfl) ⟨hUI_31, hF_34, hG_35, rg_w rc_1 (by decide) (by decide), (fun _ rw hr => by rw [hb_3] at hr; cases hr; rw [show I_31 b_3 (a0.toNatClampNeg + 2) = I b_3 (a0.toNatClampNeg + 2) from (fq_ar hFI_31 hb_3L (ro_a hb_3k (by decide) hb_3o hkx rfl) (by decide) (by decide) (kp_j hI_27 (show a0.toNatClampNeg + 2 ≠ a0.toNatClampNeg from by omega) rfl))]; exact h2 _ hb_3)⟩ dX12_readDoes_60
          · skip
            have r_126 := lt_r (lo := 15) (nle h_25) rc_14 r_17 (by decide)
            exact rg_no r_126 (by decide)
        · skip
          have r_127 := (⟨(rx_18).1, (eq_rg (h_22) rc_0).2⟩ : Rg 0 0 x_18)
          obtain ⟨x_128, hx_128, rx_128, tx_128⟩ := ex_add (y := 1) 10 15 r_17 rc_1 (by decide) (by decide) (by decide) (by decide)
          refine g_iinc C dX12_readDoes_17 (k := 2) (v := x_128) rfl hx_128 (by decide) (lo2 := [(2, .int x_128), (0, .ref x), (1, .int a0)]) rfl ?_
          refine g_goto C (tgt := 3) dX12_readDoes_20 (by decide) ?_
          refine g_lo (is := [1, 2, 0]) (lo2 := [(0, .ref x), (1, .int a0), (2, .int x_128)]) rfl ?_
          exact ih_3 x_128 (rg_w rx_128 (by decide) (by decide)) q_5 (ms_1 hm_6 (ti_k tx_128 rc_1) (by decide))
  refine g_bipush C (v := 9) dX12_readDoes_0 (by decide) ?_
  refine g_istore_n C dX12_readDoes_2 rfl (by decide) (lo2 := [(2, .int 9), (0, .ref x), (1, .int a0)]) rfl ?_
  refine g_lo (is := [1, 2, 0]) (lo2 := [(0, .ref x), (1, .int a0), (2, .int 9)]) rfl ?_
  exact l_3 7 9 (rg_w rc_9 (by decide) (by decide)) hxp0 (ms_s (a := 9) (b := 15) (N := 7) (rg_w rc_9 (by decide) (by decide)) (by decide))
set_option maxRecDepth 100000 in
set_option maxHeartbeats 8000000 in
theorem c_X12_readNumber_1_60 {l : Launch} {D : va_G} {cy : Nat → ClassId} {L : List Nat} {κ ln : Nat → Nat} {R : Nat → Nat → Option Nat} {I : Nat → Nat → Int32} {J : Nat → Nat → Int64} {ow : Nat → Nat × Nat} (W9 : ∀ a ∈ L, Shp L κ ln R ow a) {x : Nat} (hLx : x ∈ L) (hkx : κ x = 12) (hU : Iw L κ R ow I) : CtI l yX12_readNumber cX12_readNumber 3 (some .boolean) { frames := 2, cells := 0, slots := 0, locals := 45 } D cy L κ ln R I J [.ref x, .int 1, .int 60] (fun r I2 J2 => Iw L κ R ow I2 ∧ Fq L κ ow [1205, 1206, 1207, 1208, 1209, 1210, 1211, 1213] I I2 ∧ Fq L κ ow [1212] J J2 ∧ Rg 0 1 r ∧ ((r, MTf R I2 J2 x, NRf R I2 J2 x) = mReadNumber (1) (60) (MTf R I J x) (NRf R I J x)) ∧ (Pg_ x I I2 ∧ (¬ r = 0 → Ps_ x I I2)) ∧ (¬ r = 0 → Rg 1 60 (I2 x 13))) := by
  refine CtI.of (by decide +kernel) (Nat.le_of_ble_eq_true rfl) ?_
  intro p e s m below meth c B K
  have C := B.1
  have hF : Fq L κ ow [1205, 1206, 1207, 1208, 1209, 1210, 1211, 1213] I I := fq_rf
  have hG : Fq L κ ow [1212] J J := fq_rf
  obtain ⟨b_1, hb_1, hb_1L, hb_1k, hb_1n, hb_1o⟩ := shp_a (W9 x hLx) hkx 1 14 940 rfl (by decide)
  have emqx : ∀ I J, MTf R I J x = MTq I J x b_1 := fun I J => by simp only [MTf, rr_, Option.getD_some, hb_1]
  have wmqx : mqw_ L κ ow x b_1 := ⟨⟨hLx, hb_1L⟩, ⟨(ro_o hkx (by decide)), (ro_a hb_1k (by decide) hb_1o hkx rfl)⟩⟩
  obtain ⟨s_2, hs_2⟩ : ∃ z, MTq I J x b_1 = z := ⟨_, rfl⟩
  obtain ⟨b_3, hb_3, hb_3L, hb_3k, hb_3n, hb_3o⟩ := shp_a (W9 x hLx) hkx 15 14 72 rfl (by decide)
  obtain ⟨b_4, hb_4, hb_4L, hb_4k, hb_4n, hb_4o⟩ := shp_a (W9 x hLx) hkx 20 15 13 rfl (by decide)
  have enqx : ∀ I J, NRf R I J x = NRq I J x b_3 b_4 := fun I J => by simp only [NRf, rr_, Option.getD_some, hb_3, hb_4]
  have wnqx : nqw_ L κ ow x b_3 b_4 := ⟨⟨hLx, hb_3L, hb_4L⟩, ⟨(ro_o hkx (by decide)), (ro_a hb_3k (by decide) hb_3o hkx rfl), (ro_a hb_4k (by decide) hb_4o hkx rfl)⟩⟩
  obtain ⟨s_5, hs_5⟩ : ∃ z, NRq I J x b_3 b_4 = z := ⟨_, rfl⟩
  refine g_lo (is := [0, 1, 2]) (lo2 := [(0, .ref x), (1, .int 1), (2, .int 60)]) rfl ?_
  refine g_aload_n C 0 dX12_readNumber_0 rfl rfl ?_
  obtain ⟨x_6, hx_6, rx_6⟩ := ex_getw (I := I) (a := x) (j := 7) (lo := 0) (hi := 4) hU.1 hLx (ro_o hkx (by decide)) rfl
  have f_7 : s_2.kind = x_6 := (congrArg MT_.kind hs_2).symm.trans hx_6
  refine g_getI C K hLx hkx f_12_104 (v := x_6) hx_6 dX12_readNumber_1 ?_
  refine g_iconst C (v := 3) dX12_readNumber_4 (by decide) ?_
  refine g_icmp_eq C (tgt := 14) dX12_readNumber_5 (by decide) (fun h_8 => ?_) (fun h_8 => ?_)
  · skip
    have r_9 := (⟨(eq_rg (h_8) rc_3).1, (eq_rg (h_8) rc_3).2⟩ : Rg 3 3 x_6)
    refine g_aload_n C 0 dX12_readNumber_14 rfl rfl ?_
    obtain ⟨x_10, hx_10, rx_10⟩ := ex_getw (I := I) (a := x) (j := 8) (lo := (-2147483648)) (hi := 2147483647) hU.1 hLx (ro_o hkx (by decide)) rfl
    have f_11 : s_2.number = x_10 := (congrArg MT_.number hs_2).symm.trans hx_10
    refine g_getI C K hLx hkx f_12_121 (v := x_10) hx_10 dX12_readNumber_15 ?_
    refine g_iload_n C 1 dX12_readNumber_18 rfl rfl ?_
    refine g_iload_n C 2 dX12_readNumber_19 rfl rfl ?_
    refine g_callSI C K (c_X12_isIn W9 x_10 1 60 (rg_w rc_1 (by decide) (by decide)) (rg_w rc_60 (by decide) (by decide)) hU) s_12_149 rfl ⟨rfl, rfl⟩ ⟨Nat.le_of_ble_eq_true rfl, Nat.le_of_ble_eq_true rfl⟩ (Nat.le_of_ble_eq_true rfl) ⟨Nat.le_of_ble_eq_true rfl, Nat.le_of_ble_eq_true rfl⟩ dX12_readNumber_20 rfl (st := []) (fun x_12 I_13 J_14 h_15 => ?_)
    obtain ⟨rfl, rfl, rx_12, fx_12, ex_12⟩ := h_15
    have c_16 : isIn_ (x_10) (1) (60) = x_12 := fx_12.symm
    refine g_if_ne C (tgt := 32) dX12_readNumber_23 (by decide) (fun h_17 => ?_) (fun h_17 => ?_)
    · skip
      have n_18 : ¬ x_12 = 0 := h_17
      have r_19 := ne_lo (lo := 1) n_18 rx_12 rc_0 rfl (by decide)
      have r_20 := le_r (((ex_12.1) n_18)) rc_1 rx_10
      have r_21 := le_l (((ex_12.2) n_18)) r_20 rc_60
      refine g_aload_n C 0 dX12_readNumber_32 rfl rfl ?_
      refine g_aload_n C 0 dX12_readNumber_33 rfl rfl ?_
      refine g_getI C K hLx hkx f_12_121 (v := x_10) hx_10 dX12_readNumber_34 ?_
      refine h_putI C K hLx hkx f_12_153 p_12_13 dX12_readNumber_37 (fun I_22 hI_22 => ?_)
      have hU_23 := iw_put W9 hU hI_22 (ro_o hkx (by decide)) (lo := (-2147483648)) (hi := 2147483647) (rfl) (rg_all _) rfl
      have hF_24 := fq_puto hF hI_22 hkx (by decide) (by decide)
      have hs_25 : MTq I_22 J x b_1 = s_2 := by rw [hI_22]; exact (mq_uIt wmqx (by decide)).trans hs_2
      have hs_26 : NRq I_22 J x b_3 b_4 = (NR_.w_told s_5 (x_10)) := by rw [hI_22]; exact ((nq_told wnqx).trans (congrArg (fun z : NR_ => NR_.w_told z (x_10)) hs_5)).trans rfl
      refine g_aload_n C 0 dX12_readNumber_40 rfl rfl ?_
      refine g_callVV C K (c_X12_go W9 hLx hkx   hU_23) hLx hkx (by decide) rfl v_12_156 rfl ⟨rfl, rfl⟩ ⟨Nat.le_of_ble_eq_true rfl, Nat.le_of_ble_eq_true rfl⟩ (Nat.le_of_ble_eq_true rfl) ⟨Nat.le_of_ble_eq_true rfl, Nat.le_of_ble_eq_true rfl⟩ dX12_readNumber_41 rfl (st := []) (fun I_28 J_29 h_30 => ?_)
      obtain ⟨hUI_28, hFI_28, hGJ_29, fx_27, ex_27⟩ := h_30
      have hF_31 := fq_tr hF_24 hFI_28 (by decide)
      have hG_32 := fq_tr hG hGJ_29 (by decide)
      obtain ⟨s_34, hs_34⟩ : ∃ z, MTq I_28 J_29 x b_1 = z := ⟨_, rfl⟩
      have c_33 : mGo (s_2) = s_34 := by have q := fx_27; simp only [emqx, hs_25, hs_34] at q; exact q.symm
      have hs_35 : NRq I_28 J_29 x b_3 b_4 = (NR_.w_told s_5 (x_10)) := (nq_fq wnqx hFI_28 hGJ_29 (by decide) (by decide)).trans hs_26
      refine g_iconst C (v := 1) dX12_readNumber_44 (by decide) ?_
      exact g_zret (ty := .boolean) (r := 1) B K rfl (rfl) ⟨hUI_28, hF_31, hG_32, rg_w rc_1 (by decide) (by decide), (by simp only [mReadNumber, emqx, hs_34, hs_2, enqx, hs_35, hs_5, hx_6, f_7, (eq_true h_8), hx_10, f_11, c_16, h_17, c_33, if_true, if_false, mqM_tp, mqM_size, mqM_limit, mqM_to, mqM_frm, mqM_kind, mqM_number, mqM_sign, mqM_word, MT_.w_tp, MT_.w_size, MT_.w_limit, MT_.w_to, MT_.w_frm, MT_.w_kind, MT_.w_number, MT_.w_sign, MT_.w_word, nqM_rd, nqM_rn, nqM_taped, nqM_mfault, nqM_mplace, nqM_told, nqM_hl, nqM_hd, NR_.w_rd, NR_.w_rn, NR_.w_taped, NR_.w_mfault, NR_.w_mplace, NR_.w_told, NR_.w_hl, NR_.w_hd]), ⟨(pg_s (ps_t2 (pg_u pg_rf hI_22 (Or.inr (by decide)) (Or.inr (by decide))) ex_27)), fun _ => (ps_t2 (pg_u pg_rf hI_22 (Or.inr (by decide)) (Or.inr (by decide))) ex_27)⟩, (fun _ => eq_rg (fq_at hFI_28 hLx hkx (by decide) (by decide) (kp_s hI_22)) (r_21))⟩ dX12_readNumber_45
    · skip
      have r_36 := (⟨(rx_12).1, (eq_rg (h_17) rc_0).2⟩ : Rg 0 0 x_12)
      refine g_aload_n C 0 dX12_readNumber_26 rfl rfl ?_
      refine g_iconst C (v := 2) dX12_readNumber_27 (by decide) ?_
      refine g_callVI C K (c_X12_bad W9 hLx hkx 2 (rg_w rc_2 (by decide) (by decide)) hU) hLx hkx (by decide) rfl v_12_146 rfl ⟨rfl, rfl⟩ ⟨Nat.le_of_ble_eq_true rfl, Nat.le_of_ble_eq_true rfl⟩ (Nat.le_of_ble_eq_true rfl) ⟨Nat.le_of_ble_eq_true rfl, Nat.le_of_ble_eq_true rfl⟩ dX12_readNumber_28 rfl (st := []) (fun x_37 I_38 J_39 h_40 => ?_)
      obtain ⟨hUI_38, hFI_38, hGJ_39, rx_37, fx_37⟩ := h_40
      have hF_41 := fq_tr hF hFI_38 (by decide)
      have hG_42 := fq_tr hG hGJ_39 (by decide)
      obtain ⟨s_44, hs_44⟩ : ∃ z, MTq I_38 J_39 x b_1 = z := ⟨_, rfl⟩
      obtain ⟨s_45, hs_45⟩ : ∃ z, NRq I_38 J_39 x b_3 b_4 = z := ⟨_, rfl⟩
      have c_43 : mBad (2) (s_2) (s_5) = (x_37, s_44, s_45) := by have q := fx_37; simp only [emqx, enqx, hs_2, hs_5, hs_44, hs_45] at q; exact q.symm
      exact g_zret (ty := .boolean) (r := x_37) B K rfl (nar_z (rg_w rx_37 (by decide) (by decide))) ⟨hUI_38, hF_41, hG_42, rg_w rx_37 (by decide) (by decide), (by simp only [mReadNumber, emqx, hs_44, hs_2, enqx, hs_45, hs_5, hx_6, f_7, (eq_true h_8), hx_10, f_11, c_16, (eq_true h_17), c_43, if_true, if_false, mqM_tp, mqM_size, mqM_limit, mqM_to, mqM_frm, mqM_kind, mqM_number, mqM_sign, mqM_word, MT_.w_tp, MT_.w_size, MT_.w_limit, MT_.w_to, MT_.w_frm, MT_.w_kind, MT_.w_number, MT_.w_sign, MT_.w_word, nqM_rd, nqM_rn, nqM_taped, nqM_mfault, nqM_mplace, nqM_told, nqM_hl, nqM_hd, NR_.w_rd, NR_.w_rn, NR_.w_taped, NR_.w_mfault, NR_.w_mplace, NR_.w_told, NR_.w_hl, NR_.w_hd]), ⟨(pg_fq pg_rf hFI_38 hLx hkx (by decide) (by decide)), fun q => ne_no q rx_37 rc_0⟩, (fun q => ne_no q rx_37 rc_0)⟩ dX12_readNumber_31
  · skip
    have n_46 : ¬ x_6 = 3 := h_8
    refine g_aload_n C 0 dX12_readNumber_8 rfl rfl ?_
    refine g_iconst C (v := 1) dX12_readNumber_9 (by decide) ?_
    refine g_callVI C K (c_X12_bad W9 hLx hkx 1 (rg_w rc_1 (by decide) (by decide)) hU) hLx hkx (by decide) rfl v_12_146 rfl ⟨rfl, rfl⟩ ⟨Nat.le_of_ble_eq_true rfl, Nat.le_of_ble_eq_true rfl⟩ (Nat.le_of_ble_eq_true rfl) ⟨Nat.le_of_ble_eq_true rfl, Nat.le_of_ble_eq_true rfl⟩ dX12_readNumber_10 rfl (st := []) (fun x_47 I_48 J_49 h_50 => ?_)
    obtain ⟨hUI_48, hFI_48, hGJ_49, rx_47, fx_47⟩ := h_50
    have hF_51 := fq_tr hF hFI_48 (by decide)
    have hG_52 := fq_tr hG hGJ_49 (by decide)
    obtain ⟨s_54, hs_54⟩ : ∃ z, MTq I_48 J_49 x b_1 = z := ⟨_, rfl⟩
    obtain ⟨s_55, hs_55⟩ : ∃ z, NRq I_48 J_49 x b_3 b_4 = z := ⟨_, rfl⟩
    have c_53 : mBad (1) (s_2) (s_5) = (x_47, s_54, s_55) := by have q := fx_47; simp only [emqx, enqx, hs_2, hs_5, hs_54, hs_55] at q; exact q.symm
    exact g_zret (ty := .boolean) (r := x_47) B K rfl (nar_z (rg_w rx_47 (by decide) (by decide))) ⟨hUI_48, hF_51, hG_52, rg_w rx_47 (by decide) (by decide), (by simp only [mReadNumber, emqx, hs_54, hs_2, enqx, hs_55, hs_5, hx_6, f_7, h_8, c_53, if_true, if_false, mqM_tp, mqM_size, mqM_limit, mqM_to, mqM_frm, mqM_kind, mqM_number, mqM_sign, mqM_word, MT_.w_tp, MT_.w_size, MT_.w_limit, MT_.w_to, MT_.w_frm, MT_.w_kind, MT_.w_number, MT_.w_sign, MT_.w_word, nqM_rd, nqM_rn, nqM_taped, nqM_mfault, nqM_mplace, nqM_told, nqM_hl, nqM_hd, NR_.w_rd, NR_.w_rn, NR_.w_taped, NR_.w_mfault, NR_.w_mplace, NR_.w_told, NR_.w_hl, NR_.w_hd]), ⟨(pg_fq pg_rf hFI_48 hLx hkx (by decide) (by decide)), fun q => ne_no q rx_47 rc_0⟩, (fun q => ne_no q rx_47 rc_0)⟩ dX12_readNumber_13
set_option maxRecDepth 100000 in
set_option maxHeartbeats 8000000 in
theorem c_X12_readBookLine {l : Launch} {D : va_G} {cy : Nat → ClassId} {L : List Nat} {κ ln : Nat → Nat} {R : Nat → Nat → Option Nat} {I : Nat → Nat → Int32} {J : Nat → Nat → Int64} {ow : Nat → Nat × Nat} (W9 : ∀ a ∈ L, Shp L κ ln R ow a) {x : Nat} (hLx : x ∈ L) (hkx : κ x = 12) (hU : Iw L κ R ow I) : CtI l yX12_readBookLine cX12_readBookLine 3 (some .boolean) { frames := 4, cells := 0, slots := 0, locals := 91 } D cy L κ ln R I J [.ref x] (fun r I2 J2 => Iw L κ R ow I2 ∧ Fq L κ ow [1205, 1206, 1207, 1208, 1209, 1210, 1211, 1213, 86200] I I2 ∧ Fq L κ ow [1212] J J2 ∧ Rg 0 1 r ∧ (¬ r = 0 → ∀ rw, R x 42 = some rw → 0 ≤ (I2 rw (4 * (I2 x 44).toNatClampNeg + 2)).toInt) ∧ (¬ r = 0 → Rg 0 39 (I2 x 44))) := by
  refine CtI.of (by decide +kernel) (Nat.le_of_ble_eq_true rfl) ?_
  intro p e s m below meth c B K
  have C := B.1
  have hF : Fq L κ ow [1205, 1206, 1207, 1208, 1209, 1210, 1211, 1213, 86200] I I := fq_rf
  have hG : Fq L κ ow [1212] J J := fq_rf
  obtain ⟨b_1, hb_1, hb_1L, hb_1k, hb_1n, hb_1o⟩ := shp_a (W9 x hLx) hkx 14 14 389 rfl (by decide)
  obtain ⟨b_2, hb_2, hb_2L, hb_2k, hb_2n, hb_2o⟩ := shp_a (W9 x hLx) hkx 19 15 13 rfl (by decide)
  obtain ⟨b_3, hb_3, hb_3L, hb_3k, hb_3n, hb_3o⟩ := shp_a (W9 x hLx) hkx 42 14 160 rfl (by decide)
  refine g_lo (is := [0]) (lo2 := [(0, .ref x)]) rfl ?_
  refine g_aload_n C 0 dX12_readBookLine_0 rfl rfl ?_
  refine g_bipush C (v := 15) dX12_readBookLine_1 (by decide) ?_
  refine g_callVI C K (c_X12_isWord W9 hLx hkx 15 (rg_w rc_15 (by decide) (by decide)) hU) hLx hkx (by decide) rfl v_12_191 rfl ⟨rfl, rfl⟩ ⟨Nat.le_of_ble_eq_true rfl, Nat.le_of_ble_eq_true rfl⟩ (Nat.le_of_ble_eq_true rfl) ⟨Nat.le_of_ble_eq_true rfl, Nat.le_of_ble_eq_true rfl⟩ dX12_readBookLine_3 rfl (st := []) (fun x_4 I_5 J_6 h_7 => ?_)
  obtain ⟨rfl, rfl, rx_4, fx_4⟩ := h_7
  refine g_istore_n C dX12_readBookLine_6 rfl (by decide) (lo2 := [(1, .int x_4), (0, .ref x)]) rfl ?_
  refine g_iload_n C 0 dX12_readBookLine_7 rfl rfl ?_
  refine g_if_ne C (tgt := 52) dX12_readBookLine_8 (by decide) (fun h_8 => ?_) (fun h_8 => ?_)
  · skip
    have n_9 : ¬ x_4 = 0 := h_8
    have r_10 := ne_lo (lo := 1) n_9 rx_4 rc_0 rfl (by decide)
    refine g_aload_n C 1 dX12_readBookLine_52 rfl rfl ?_
    obtain ⟨x_11, hx_11, rx_11⟩ := ex_getw (I := I) (a := x) (j := 44) (lo := 0) (hi := 40) hU.1 hLx (ro_o hkx (by decide)) rfl
    refine g_getI C K hLx hkx f_12_361 (v := x_11) hx_11 dX12_readBookLine_53 ?_
    refine g_bipush C (v := 40) dX12_readBookLine_56 (by decide) ?_
    refine g_icmp_ne C (tgt := 67) dX12_readBookLine_58 (by decide) (fun h_12 => ?_) (fun h_12 => ?_)
    · skip
      have n_13 : ¬ x_11 = 40 := h_12
      have r_14 := ne_hi (hi := 39) n_13 rx_11 rc_40 rfl (by decide)
      refine g_iconst C (v := 4) dX12_readBookLine_67 (by decide) ?_
      refine g_aload_n C 1 dX12_readBookLine_68 rfl rfl ?_
      refine g_getI C K hLx hkx f_12_361 (v := x_11) hx_11 dX12_readBookLine_69 ?_
      obtain ⟨x_15, hx_15, rx_15, tx_15⟩ := ex_mulT 0 156 rc_4 r_14 (by decide) (by decide) (by decide) (by decide) (by decide)
      refine g_imul C (v := x_15) dX12_readBookLine_72 hx_15 ?_
      refine g_istore_n C dX12_readBookLine_73 rfl (by decide) (lo2 := [(2, .int x_15), (1, .int x_4), (0, .ref x)]) rfl ?_
      refine g_aload_n C 2 dX12_readBookLine_74 rfl rfl ?_
      refine g_getR C K hLx hkx f_12_73 hb_3 dX12_readBookLine_75 ?_
      refine g_iload_n C 0 dX12_readBookLine_78 rfl rfl ?_
      refine g_bipush C (v := 6) dX12_readBookLine_79 (by decide) ?_
      refine h_iast C K hb_3L hb_3k (x_15.toNatClampNeg) (rfl) (ix_0 rx_15 (by decide)) (ix_lt rx_15 (by decide) hb_3n (by decide)) dX12_readBookLine_81 (fun I_16 hI_16 => ?_)
      have hU_17 := iw_rw W9 hU (uw_put hU.1 hI_16 (ro_a hb_3k (by decide) hb_3o hkx rfl) (lo := 0) (hi := 6) (bn_862.trans (rz_0 (ix_m (md_m tx_15) rx_15 (by decide)))) (rg_w rc_6 (by decide) (by decide))) hLx hkx hb_3 hI_16 hx_11 (r_14).1 (by rw [nx_m (k := 4) tx_15 r_14 (by decide)]; omega)
      have hF_18 := fq_puta hF hI_16 (ro_a hb_3k (by decide) hb_3o hkx rfl) (by decide) (by decide)
      refine g_aload_n C 2 dX12_readBookLine_82 rfl rfl ?_
      refine g_getR C K hLx hkx f_12_73 hb_3 dX12_readBookLine_83 ?_
      refine g_iload_n C 0 dX12_readBookLine_86 rfl rfl ?_
      refine g_iconst C (v := 1) dX12_readBookLine_87 (by decide) ?_
      obtain ⟨x_19, hx_19, rx_19, tx_19⟩ := ex_add 1 157 rx_15 rc_1 (by decide) (by decide) (by decide) (by decide)
      refine g_iadd C (v := x_19) dX12_readBookLine_88 hx_19 ?_
      refine g_iload_n C 1 dX12_readBookLine_89 rfl rfl ?_
      refine g_if_eq C (tgt := 97) dX12_readBookLine_90 (by decide) (fun h_20 => ?_) (fun h_20 => ?_)
      · skip
        exact eq_no (h_20) r_10 rc_0 (by decide)
      · skip
        have n_21 : ¬ x_4 = 0 := h_20
        refine g_iconst C (v := 0) dX12_readBookLine_93 (by decide) ?_
        refine g_goto C (tgt := 115) dX12_readBookLine_94 (by decide) ?_
        refine h_iast C K hb_3L hb_3k (x_19.toNatClampNeg) (rfl) (ix_0 rx_19 (by decide)) (ix_lt rx_19 (by decide) hb_3n (by decide)) dX12_readBookLine_115 (fun I_22 hI_22 => ?_)
        have hU_23 := iw_rw W9 hU_17 (uw_put hU_17.1 hI_22 (ro_a hb_3k (by decide) hb_3o hkx rfl) (lo := 0) (hi := 6) (bn_862.trans (rz_1 (ix_m (md_a (r2 := 1) tx_19 (md_m tx_15) rc_1 (by decide)) rx_19 (by decide)))) (rg_w rc_0 (by decide) (by decide))) hLx hkx hb_3 hI_22 (kp_k (κ := κ) hI_16 (by rw [hkx, hb_3k]; decide) hx_11) (r_14).1 (by rw [nx_a tx_19 rx_15 rc_1 (by decide), nx_m (k := 4) tx_15 r_14 (by decide)]; simp only [show (1 : Int32).toNatClampNeg = 1 from rfl] <;> omega)
        have hF_24 := fq_puta hF_18 hI_22 (ro_a hb_3k (by decide) hb_3o hkx rfl) (by decide) (by decide)
        refine g_aload_n C 2 dX12_readBookLine_116 rfl rfl ?_
        refine g_getR C K hLx hkx f_12_73 hb_3 dX12_readBookLine_117 ?_
        refine g_iload_n C 0 dX12_readBookLine_120 rfl rfl ?_
        refine g_iconst C (v := 2) dX12_readBookLine_121 (by decide) ?_
        obtain ⟨x_25, hx_25, rx_25, tx_25⟩ := ex_add 2 158 rx_15 rc_2 (by decide) (by decide) (by decide) (by decide)
        refine g_iadd C (v := x_25) dX12_readBookLine_122 hx_25 ?_
        refine g_iconst C (v := 0) dX12_readBookLine_123 (by decide) ?_
        refine h_iast C K hb_3L hb_3k (x_25.toNatClampNeg) (rfl) (ix_0 rx_25 (by decide)) (ix_lt rx_25 (by decide) hb_3n (by decide)) dX12_readBookLine_124 (fun I_26 hI_26 => ?_)
        have hU_27 := iw_rw W9 hU_23 (uw_put hU_23.1 hI_26 (ro_a hb_3k (by decide) hb_3o hkx rfl) (lo := (-1)) (hi := 5) (bn_862.trans (rz_2 (ix_m (md_a (r2 := 2) tx_25 (md_m tx_15) rc_2 (by decide)) rx_25 (by decide)))) (rg_w rc_0 (by decide) (by decide))) hLx hkx hb_3 hI_26 (kp_k (κ := κ) hI_22 (by rw [hkx, hb_3k]; decide) (kp_k (κ := κ) hI_16 (by rw [hkx, hb_3k]; decide) hx_11)) (r_14).1 (by rw [nx_a tx_25 rx_15 rc_2 (by decide), nx_m (k := 4) tx_15 r_14 (by decide)]; simp only [show (2 : Int32).toNatClampNeg = 2 from rfl] <;> omega)
        have hF_28 := fq_puta hF_24 hI_26 (ro_a hb_3k (by decide) hb_3o hkx rfl) (by decide) (by decide)
        refine g_aload_n C 2 dX12_readBookLine_125 rfl rfl ?_
        refine g_callVV C K (c_X12_go W9 hLx hkx   hU_27) hLx hkx (by decide) rfl v_12_156 rfl ⟨rfl, rfl⟩ ⟨Nat.le_of_ble_eq_true rfl, Nat.le_of_ble_eq_true rfl⟩ (Nat.le_of_ble_eq_true rfl) ⟨Nat.le_of_ble_eq_true rfl, Nat.le_of_ble_eq_true rfl⟩ dX12_readBookLine_126 rfl (st := []) (fun I_30 J_31 h_32 => ?_)
        obtain ⟨hUI_30, hFI_30, hGJ_31, fx_29, ex_29⟩ := h_32
        have hF_33 := fq_tr hF_28 hFI_30 (by decide)
        have hG_34 := fq_tr hG hGJ_31 (by decide)
        refine g_iload_n C 1 dX12_readBookLine_129 rfl rfl ?_
        refine g_if_ne C (tgt := 154) dX12_readBookLine_130 (by decide) (fun h_35 => ?_) (fun h_35 => ?_)
        · skip
          have n_36 : ¬ x_4 = 0 := h_35
          refine g_aload_n C 2 dX12_readBookLine_154 rfl rfl ?_
          refine g_iconst C (v := 1) dX12_readBookLine_155 (by decide) ?_
          refine g_bipush C (v := 60) dX12_readBookLine_156 (by decide) ?_
          obtain ⟨x_37, hx_37, rx_37⟩ := ex_getw (I := I_30) (a := x) (j := 13) (lo := (-2147483648)) (hi := 2147483647) hUI_30.1 hLx (ro_o hkx (by decide)) rfl
          refine g_callVI C K (c_X12_readNumber_1_60 W9 hLx hkx   hUI_30) hLx hkx (by decide) rfl v_12_184 rfl ⟨rfl, rfl⟩ ⟨Nat.le_of_ble_eq_true rfl, Nat.le_of_ble_eq_true rfl⟩ (Nat.le_of_ble_eq_true rfl) ⟨Nat.le_of_ble_eq_true rfl, Nat.le_of_ble_eq_true rfl⟩ dX12_readBookLine_158 rfl (st := []) (fun x_38 I_39 J_40 h_41 => ?_)
          obtain ⟨hUI_39, hFI_39, hGJ_40, rx_38, fx_38, ex_38⟩ := h_41
          have hF_42 := fq_tr hF_33 hFI_39 (by decide)
          have hG_43 := fq_tr hG_34 hGJ_40 (by decide)
          obtain ⟨x_44, hx_44, rx_44⟩ := ex_getw (I := I_39) (a := x) (j := 13) (lo := (-2147483648)) (hi := 2147483647) hUI_39.1 hLx (ro_o hkx (by decide)) rfl
          have q_45 := hx_44
          refine g_if_ne C (tgt := 166) dX12_readBookLine_161 (by decide) (fun h_46 => ?_) (fun h_46 => ?_)
          · skip
            have n_47 : ¬ x_38 = 0 := h_46
            have r_48 := ne_lo (lo := 1) n_47 rx_38 rc_0 rfl (by decide)
            have r_49 := rg_i rx_44 (eq_rg q_45.symm ((ex_38.2) n_47)) (lo := 1) (hi := 60) (by decide) (by decide)
            refine g_aload_n C 2 dX12_readBookLine_166 rfl rfl ?_
            refine g_getR C K hLx hkx f_12_73 hb_3 dX12_readBookLine_167 ?_
            refine g_iload_n C 0 dX12_readBookLine_170 rfl rfl ?_
            refine g_iconst C (v := 3) dX12_readBookLine_171 (by decide) ?_
            obtain ⟨x_50, hx_50, rx_50, tx_50⟩ := ex_add 3 159 rx_15 rc_3 (by decide) (by decide) (by decide) (by decide)
            refine g_iadd C (v := x_50) dX12_readBookLine_172 hx_50 ?_
            refine g_aload_n C 2 dX12_readBookLine_173 rfl rfl ?_
            refine g_getI C K hLx hkx f_12_153 (v := x_44) hx_44 dX12_readBookLine_174 ?_
            refine h_iast C K hb_3L hb_3k (x_50.toNatClampNeg) (rfl) (ix_0 rx_50 (by decide)) (ix_lt rx_50 (by decide) hb_3n (by decide)) dX12_readBookLine_177 (fun I_51 hI_51 => ?_)
            have q_52 := (fq_at hFI_39 hLx hkx (by decide) (by decide) (fq_at hFI_30 hLx hkx (by decide) (by decide) (kp_k (κ := κ) hI_26 (by rw [hkx, hb_3k]; decide) (kp_k (κ := κ) hI_22 (by rw [hkx, hb_3k]; decide) (kp_k (κ := κ) hI_16 (by rw [hkx, hb_3k]; decide) hx_11)))))
            have hU_53 := iw_rw W9 hUI_39 (uw_put hUI_39.1 hI_51 (ro_a hb_3k (by decide) hb_3o hkx rfl) (lo := 0) (hi := 60) (bn_862.trans (rz_3 (ix_m (md_a (r2 := 3) tx_50 (md_m tx_15) rc_3 (by decide)) rx_50 (by decide)))) (rg_w r_49 (by decide) (by decide))) hLx hkx hb_3 hI_51 q_52 (r_14).1 (by rw [nx_a tx_50 rx_15 rc_3 (by decide), nx_m (k := 4) tx_15 r_14 (by decide)]; simp only [show (3 : Int32).toNatClampNeg = 3 from rfl] <;> omega)
            have hF_54 := fq_puta hF_42 hI_51 (ro_a hb_3k (by decide) hb_3o hkx rfl) (by decide) (by decide)
            refine g_aload_n C 2 dX12_readBookLine_178 rfl rfl ?_
            refine g_callVI C K (c_X12_readEnd W9 hLx hkx   hU_53) hLx hkx (by decide) rfl v_12_222 rfl ⟨rfl, rfl⟩ ⟨Nat.le_of_ble_eq_true rfl, Nat.le_of_ble_eq_true rfl⟩ (Nat.le_of_ble_eq_true rfl) ⟨Nat.le_of_ble_eq_true rfl, Nat.le_of_ble_eq_true rfl⟩ dX12_readBookLine_179 rfl (st := []) (fun x_55 I_56 J_57 h_58 => ?_)
            obtain ⟨hUI_56, hFI_56, hGJ_57, rx_55, fx_55, ex_55⟩ := h_58
            have hF_59 := fq_tr hF_54 hFI_56 (by decide)
            have hG_60 := fq_tr hG_43 hGJ_57 (by decide)
            exact g_zret (ty := .boolean) (r := x_55) B K rfl (nar_z (rx_55)) ⟨hUI_56, hF_59, hG_60, rx_55, (fun _ rw hr => by rw [hb_3] at hr; cases hr; rw [(fq_at hFI_56 hLx hkx (by decide) (by decide) (kp_k (κ := κ) hI_51 (by rw [hkx, hb_3k]; decide) q_52)), show 4 * x_11.toNatClampNeg + 2 = x_25.toNatClampNeg from ((show x_25.toNatClampNeg = 4 * x_11.toNatClampNeg + 2 from by rw [nx_a tx_25 rx_15 rc_2 (by decide), nx_m (k := 4) tx_15 r_14 (by decide)]; simp only [show (2 : Int32).toNatClampNeg = 2 from rfl] <;> omega)).symm, (fq_ar hFI_56 hb_3L (ro_a hb_3k (by decide) hb_3o hkx rfl) (by decide) (by decide) (kp_j hI_51 (show x_25.toNatClampNeg ≠ x_50.toNatClampNeg from by rw [nx_a tx_50 rx_15 rc_3 (by decide), nx_a tx_25 rx_15 rc_2 (by decide), nx_m (k := 4) tx_15 r_14 (by decide)]; simp only [show (2 : Int32).toNatClampNeg = 2 from rfl, show (3 : Int32).toNatClampNeg = 3 from rfl] <;> omega) (fq_ar hFI_39 hb_3L (ro_a hb_3k (by decide) hb_3o hkx rfl) (by decide) (by decide) (fq_ar hFI_30 hb_3L (ro_a hb_3k (by decide) hb_3o hkx rfl) (by decide) (by decide) (kp_s hI_26)))))]; exact (rc_0).1), (fun hq => by have n_61 : ¬ x_55 = 0 := hq; have r_62 := ne_lo (lo := 1) n_61 rx_55 rc_0 rfl (by decide); exact eq_rg (fq_at hFI_56 hLx hkx (by decide) (by decide) (kp_k (κ := κ) hI_51 (by rw [hkx, hb_3k]; decide) q_52)) (r_14))⟩ dX12_readBookLine_182
          · skip
            have r_63 := (⟨(rx_38).1, (eq_rg (h_46) rc_0).2⟩ : Rg 0 0 x_38)
            refine g_iconst C (v := 0) dX12_readBookLine_164 (by decide) ?_
            exact g_zret (ty := .boolean) (r := 0) B K rfl (rfl) ⟨hUI_39, hF_42, hG_43, rg_w rc_0 (by decide) (by decide), (fun q => absurd rfl q), (fun q => absurd rfl q)⟩ dX12_readBookLine_165
        · skip
          exact eq_no (h_35) r_10 rc_0 (by decide)
    · skip
      have r_64 := (⟨(eq_rg (h_12) rc_40).1, (rx_11).2⟩ : Rg 40 40 x_11)
      refine g_aload_n C 1 dX12_readBookLine_61 rfl rfl ?_
      refine g_iconst C (v := 4) dX12_readBookLine_62 (by decide) ?_
      refine g_callVI C K (c_X12_bad W9 hLx hkx 4 (rg_w rc_4 (by decide) (by decide)) hU) hLx hkx (by decide) rfl v_12_146 rfl ⟨rfl, rfl⟩ ⟨Nat.le_of_ble_eq_true rfl, Nat.le_of_ble_eq_true rfl⟩ (Nat.le_of_ble_eq_true rfl) ⟨Nat.le_of_ble_eq_true rfl, Nat.le_of_ble_eq_true rfl⟩ dX12_readBookLine_63 rfl (st := []) (fun x_65 I_66 J_67 h_68 => ?_)
      obtain ⟨hUI_66, hFI_66, hGJ_67, rx_65, fx_65⟩ := h_68
      have hF_69 := fq_tr hF hFI_66 (by decide)
      have hG_70 := fq_tr hG hGJ_67 (by decide)
      exact g_zret (ty := .boolean) (r := x_65) B K rfl (nar_z (rg_w rx_65 (by decide) (by decide))) ⟨hUI_66, hF_69, hG_70, rg_w rx_65 (by decide) (by decide), (fun q => ne_no q rx_65 rc_0), (fun q => ne_no q rx_65 rc_0)⟩ dX12_readBookLine_66
  · skip
    have r_71 := (⟨(rx_4).1, (eq_rg (h_8) rc_0).2⟩ : Rg 0 0 x_4)
    refine g_aload_n C 1 dX12_readBookLine_11 rfl rfl ?_
    refine g_callVI C K (c_X12_isName W9 hLx hkx   hU) hLx hkx (by decide) rfl v_12_166 rfl ⟨rfl, rfl⟩ ⟨Nat.le_of_ble_eq_true rfl, Nat.le_of_ble_eq_true rfl⟩ (Nat.le_of_ble_eq_true rfl) ⟨Nat.le_of_ble_eq_true rfl, Nat.le_of_ble_eq_true rfl⟩ dX12_readBookLine_12 rfl (st := []) (fun x_72 I_73 J_74 h_75 => ?_)
    obtain ⟨rfl, rfl, rx_72, fx_72⟩ := h_75
    refine g_if_ne C (tgt := 24) dX12_readBookLine_15 (by decide) (fun h_76 => ?_) (fun h_76 => ?_)
    · skip
      have n_77 : ¬ x_72 = 0 := h_76
      have r_78 := ne_lo (lo := 1) n_77 rx_72 rc_0 rfl (by decide)
      refine g_aload_n C 1 dX12_readBookLine_24 rfl rfl ?_
      refine g_getR C K hLx hkx f_12_28 hb_2 dX12_readBookLine_25 ?_
      refine g_iconst C (v := 0) dX12_readBookLine_28 (by decide) ?_
      refine g_aload_n C 1 dX12_readBookLine_29 rfl rfl ?_
      refine g_getR C K hLx hkx f_12_13 hb_1 dX12_readBookLine_30 ?_
      refine g_iconst C (v := 0) dX12_readBookLine_33 (by decide) ?_
      obtain ⟨x_79, hx_79, rx_79⟩ := ex_getw (I := I) (a := b_1) (j := 0) (lo := 0) (hi := 7) hU.1 hb_1L (ro_a hb_1k (by decide) hb_1o hkx rfl) (by decide)
      refine h_iald C K hb_1L hb_1k (v := x_79) (0) (by decide) (by decide) (by rw [hb_1n]; decide) hx_79 dX12_readBookLine_34 ?_
      refine g_aload_n C 1 dX12_readBookLine_35 rfl rfl ?_
      obtain ⟨y_80, hy_80⟩ : ∃ z, J x 12 = z := ⟨_, rfl⟩
      refine g_getJ C K hLx hkx f_12_117 (v := y_80) hy_80 dX12_readBookLine_36 ?_
      refine g_callSI C K (c_X12_findIn_0 W9 hb_2L hb_2k hb_2n x_79 y_80 (rx_79) hU) s_12_170 rfl ⟨rfl, rfl⟩ ⟨Nat.le_of_ble_eq_true rfl, Nat.le_of_ble_eq_true rfl⟩ (Nat.le_of_ble_eq_true rfl) ⟨Nat.le_of_ble_eq_true rfl, Nat.le_of_ble_eq_true rfl⟩ dX12_readBookLine_39 rfl (st := []) (fun x_81 I_82 J_83 h_84 => ?_)
      obtain ⟨rfl, rfl, rx_81, fx_81, ex_81⟩ := h_84
      refine g_iconst C (v := (-1)) dX12_readBookLine_42 (by decide) ?_
      refine g_icmp_ne C (tgt := 52) dX12_readBookLine_43 (by decide) (fun h_85 => ?_) (fun h_85 => ?_)
      · skip
        have n_86 : ¬ x_81 = (-1) := h_85
        have r_87 := ne_lo (lo := 0) n_86 rx_81 rc_m1 rfl (by decide)
        refine g_aload_n C 1 dX12_readBookLine_52 rfl rfl ?_
        obtain ⟨x_88, hx_88, rx_88⟩ := ex_getw (I := I) (a := x) (j := 44) (lo := 0) (hi := 40) hU.1 hLx (ro_o hkx (by decide)) rfl
        refine g_getI C K hLx hkx f_12_361 (v := x_88) hx_88 dX12_readBookLine_53 ?_
        refine g_bipush C (v := 40) dX12_readBookLine_56 (by decide) ?_
        refine g_icmp_ne C (tgt := 67) dX12_readBookLine_58 (by decide) (fun h_89 => ?_) (fun h_89 => ?_)
        · skip
          have n_90 : ¬ x_88 = 40 := h_89
          have r_91 := ne_hi (hi := 39) n_90 rx_88 rc_40 rfl (by decide)
          refine g_iconst C (v := 4) dX12_readBookLine_67 (by decide) ?_
          refine g_aload_n C 1 dX12_readBookLine_68 rfl rfl ?_
          refine g_getI C K hLx hkx f_12_361 (v := x_88) hx_88 dX12_readBookLine_69 ?_
          obtain ⟨x_92, hx_92, rx_92, tx_92⟩ := ex_mulT 0 156 rc_4 r_91 (by decide) (by decide) (by decide) (by decide) (by decide)
          refine g_imul C (v := x_92) dX12_readBookLine_72 hx_92 ?_
          refine g_istore_n C dX12_readBookLine_73 rfl (by decide) (lo2 := [(2, .int x_92), (1, .int x_4), (0, .ref x)]) rfl ?_
          refine g_aload_n C 2 dX12_readBookLine_74 rfl rfl ?_
          refine g_getR C K hLx hkx f_12_73 hb_3 dX12_readBookLine_75 ?_
          refine g_iload_n C 0 dX12_readBookLine_78 rfl rfl ?_
          refine g_bipush C (v := 6) dX12_readBookLine_79 (by decide) ?_
          refine h_iast C K hb_3L hb_3k (x_92.toNatClampNeg) (rfl) (ix_0 rx_92 (by decide)) (ix_lt rx_92 (by decide) hb_3n (by decide)) dX12_readBookLine_81 (fun I_93 hI_93 => ?_)
          have hU_94 := iw_rw W9 hU (uw_put hU.1 hI_93 (ro_a hb_3k (by decide) hb_3o hkx rfl) (lo := 0) (hi := 6) (bn_862.trans (rz_0 (ix_m (md_m tx_92) rx_92 (by decide)))) (rg_w rc_6 (by decide) (by decide))) hLx hkx hb_3 hI_93 hx_88 (r_91).1 (by rw [nx_m (k := 4) tx_92 r_91 (by decide)]; omega)
          have hF_95 := fq_puta hF hI_93 (ro_a hb_3k (by decide) hb_3o hkx rfl) (by decide) (by decide)
          refine g_aload_n C 2 dX12_readBookLine_82 rfl rfl ?_
          refine g_getR C K hLx hkx f_12_73 hb_3 dX12_readBookLine_83 ?_
          refine g_iload_n C 0 dX12_readBookLine_86 rfl rfl ?_
          refine g_iconst C (v := 1) dX12_readBookLine_87 (by decide) ?_
          obtain ⟨x_96, hx_96, rx_96, tx_96⟩ := ex_add 1 157 rx_92 rc_1 (by decide) (by decide) (by decide) (by decide)
          refine g_iadd C (v := x_96) dX12_readBookLine_88 hx_96 ?_
          refine g_iload_n C 1 dX12_readBookLine_89 rfl rfl ?_
          refine g_if_eq C (tgt := 97) dX12_readBookLine_90 (by decide) (fun h_97 => ?_) (fun h_97 => ?_)
          · skip
            refine g_aload_n C 2 dX12_readBookLine_97 rfl rfl ?_
            refine g_getR C K hLx hkx f_12_28 hb_2 dX12_readBookLine_98 ?_
            refine g_iconst C (v := 0) dX12_readBookLine_101 (by decide) ?_
            refine g_aload_n C 2 dX12_readBookLine_102 rfl rfl ?_
            refine g_getR C K hLx hkx f_12_13 hb_1 dX12_readBookLine_103 ?_
            refine g_iconst C (v := 0) dX12_readBookLine_106 (by decide) ?_
            refine h_iald C K hb_1L hb_1k (v := x_79) (0) (by decide) (by decide) (by rw [hb_1n]; decide) (kp_r hI_93 (ro_a hb_1k (by decide) hb_1o hkx rfl) (ro_a hb_3k (by decide) hb_3o hkx rfl) (by decide) hx_79) dX12_readBookLine_107 ?_
            refine g_aload_n C 2 dX12_readBookLine_108 rfl rfl ?_
            refine g_getJ C K hLx hkx f_12_117 (v := y_80) hy_80 dX12_readBookLine_109 ?_
            refine g_callSI C K (c_X12_findIn_0 W9 hb_2L hb_2k hb_2n x_79 y_80 (rx_79) hU_94) s_12_170 rfl ⟨rfl, rfl⟩ ⟨Nat.le_of_ble_eq_true rfl, Nat.le_of_ble_eq_true rfl⟩ (Nat.le_of_ble_eq_true rfl) ⟨Nat.le_of_ble_eq_true rfl, Nat.le_of_ble_eq_true rfl⟩ dX12_readBookLine_112 rfl (st := [.int x_96, .ref b_3]) (fun x_99 I_100 J_101 h_102 => ?_)
            obtain ⟨rfl, rfl, rx_99, fx_99, ex_99⟩ := h_102
            have n_103 : ¬ x_99 = (-1) := (fun q => by obtain ⟨k, h1, h2⟩ := ex_81.2 n_86; exact ex_99.1 q k h1 h2)
            have r_104 := ne_lo (lo := 0) n_103 rx_99 rc_m1 rfl (by decide)
            refine h_iast C K hb_3L hb_3k (x_96.toNatClampNeg) (rfl) (ix_0 rx_96 (by decide)) (ix_lt rx_96 (by decide) hb_3n (by decide)) dX12_readBookLine_115 (fun I_105 hI_105 => ?_)
            have hU_106 := iw_rw W9 hU_94 (uw_put hU_94.1 hI_105 (ro_a hb_3k (by decide) hb_3o hkx rfl) (lo := 0) (hi := 6) (bn_862.trans (rz_1 (ix_m (md_a (r2 := 1) tx_96 (md_m tx_92) rc_1 (by decide)) rx_96 (by decide)))) (r_104)) hLx hkx hb_3 hI_105 (kp_k (κ := κ) hI_93 (by rw [hkx, hb_3k]; decide) hx_88) (r_91).1 (by rw [nx_a tx_96 rx_92 rc_1 (by decide), nx_m (k := 4) tx_92 r_91 (by decide)]; simp only [show (1 : Int32).toNatClampNeg = 1 from rfl] <;> omega)
            have hF_107 := fq_puta hF_95 hI_105 (ro_a hb_3k (by decide) hb_3o hkx rfl) (by decide) (by decide)
            refine g_aload_n C 2 dX12_readBookLine_116 rfl rfl ?_
            refine g_getR C K hLx hkx f_12_73 hb_3 dX12_readBookLine_117 ?_
            refine g_iload_n C 0 dX12_readBookLine_120 rfl rfl ?_
            refine g_iconst C (v := 2) dX12_readBookLine_121 (by decide) ?_
            obtain ⟨x_108, hx_108, rx_108, tx_108⟩ := ex_add 2 158 rx_92 rc_2 (by decide) (by decide) (by decide) (by decide)
            refine g_iadd C (v := x_108) dX12_readBookLine_122 hx_108 ?_
            refine g_iconst C (v := 0) dX12_readBookLine_123 (by decide) ?_
            refine h_iast C K hb_3L hb_3k (x_108.toNatClampNeg) (rfl) (ix_0 rx_108 (by decide)) (ix_lt rx_108 (by decide) hb_3n (by decide)) dX12_readBookLine_124 (fun I_109 hI_109 => ?_)
            have hU_110 := iw_rw W9 hU_106 (uw_put hU_106.1 hI_109 (ro_a hb_3k (by decide) hb_3o hkx rfl) (lo := (-1)) (hi := 5) (bn_862.trans (rz_2 (ix_m (md_a (r2 := 2) tx_108 (md_m tx_92) rc_2 (by decide)) rx_108 (by decide)))) (rg_w rc_0 (by decide) (by decide))) hLx hkx hb_3 hI_109 (kp_k (κ := κ) hI_105 (by rw [hkx, hb_3k]; decide) (kp_k (κ := κ) hI_93 (by rw [hkx, hb_3k]; decide) hx_88)) (r_91).1 (by rw [nx_a tx_108 rx_92 rc_2 (by decide), nx_m (k := 4) tx_92 r_91 (by decide)]; simp only [show (2 : Int32).toNatClampNeg = 2 from rfl] <;> omega)
            have hF_111 := fq_puta hF_107 hI_109 (ro_a hb_3k (by decide) hb_3o hkx rfl) (by decide) (by decide)
            refine g_aload_n C 2 dX12_readBookLine_125 rfl rfl ?_
            refine g_callVV C K (c_X12_go W9 hLx hkx   hU_110) hLx hkx (by decide) rfl v_12_156 rfl ⟨rfl, rfl⟩ ⟨Nat.le_of_ble_eq_true rfl, Nat.le_of_ble_eq_true rfl⟩ (Nat.le_of_ble_eq_true rfl) ⟨Nat.le_of_ble_eq_true rfl, Nat.le_of_ble_eq_true rfl⟩ dX12_readBookLine_126 rfl (st := []) (fun I_113 J_114 h_115 => ?_)
            obtain ⟨hUI_113, hFI_113, hGJ_114, fx_112, ex_112⟩ := h_115
            have hF_116 := fq_tr hF_111 hFI_113 (by decide)
            have hG_117 := fq_tr hG hGJ_114 (by decide)
            refine g_iload_n C 1 dX12_readBookLine_129 rfl rfl ?_
            refine g_if_ne C (tgt := 154) dX12_readBookLine_130 (by decide) (fun h_118 => ?_) (fun h_118 => ?_)
            · skip
              exact ne_no (h_118) r_71 rc_0
            · skip
              refine g_aload_n C 2 dX12_readBookLine_133 rfl rfl ?_
              refine g_iload_n C 0 dX12_readBookLine_134 rfl rfl ?_
              have q_119 := (fq_at hFI_113 hLx hkx (by decide) (by decide) (kp_k (κ := κ) hI_109 (by rw [hkx, hb_3k]; decide) (kp_k (κ := κ) hI_105 (by rw [hkx, hb_3k]; decide) (kp_k (κ := κ) hI_93 (by rw [hkx, hb_3k]; decide) hx_88))))
              refine g_callVI C K (c_X12_readDoes W9 hLx hkx x_92 (rx_92) hUI_113  (eq_rg q_119 (r_91)) ((md_m tx_92)) (by rw [q_119]; exact (show x_92.toNatClampNeg = 4 * x_88.toNatClampNeg from by rw [nx_m (k := 4) tx_92 r_91 (by decide)] <;> omega)) (fun rw hr => by rw [hb_3] at hr; cases hr; rw [show x_92.toNatClampNeg + 2 = x_108.toNatClampNeg from (by rw [nx_a tx_108 rx_92 rc_2 (by decide)]; rfl), (fq_ar hFI_113 hb_3L (ro_a hb_3k (by decide) hb_3o hkx rfl) (by decide) (by decide) (kp_s hI_109))]; exact (rc_0).1)) hLx hkx (by decide) rfl v_12_364 rfl ⟨rfl, rfl⟩ ⟨Nat.le_of_ble_eq_true rfl, Nat.le_of_ble_eq_true rfl⟩ (Nat.le_of_ble_eq_true rfl) ⟨Nat.le_of_ble_eq_true rfl, Nat.le_of_ble_eq_true rfl⟩ dX12_readBookLine_135 rfl (st := []) (fun x_120 I_121 J_122 h_123 => ?_)
              obtain ⟨hUI_121, hFI_121, hGJ_122, rx_120, ex_120⟩ := h_123
              have hF_124 := fq_tr hF_116 hFI_121 (by decide)
              have hG_125 := fq_tr hG_117 hGJ_122 (by decide)
              refine g_if_eq C (tgt := 152) dX12_readBookLine_138 (by decide) (fun h_126 => ?_) (fun h_126 => ?_)
              · skip
                have r_127 := (⟨(rx_120).1, (eq_rg (h_126) rc_0).2⟩ : Rg 0 0 x_120)
                refine g_iconst C (v := 0) dX12_readBookLine_152 (by decide) ?_
                exact g_zret (ty := .boolean) (r := 0) B K rfl (rfl) ⟨hUI_121, hF_124, hG_125, rg_w rc_0 (by decide) (by decide), (fun q => absurd rfl q), (fun q => absurd rfl q)⟩ dX12_readBookLine_153
              · skip
                have n_128 : ¬ x_120 = 0 := h_126
                have r_129 := ne_lo (lo := 1) n_128 rx_120 rc_0 rfl (by decide)
                refine g_aload_n C 2 dX12_readBookLine_141 rfl rfl ?_
                refine g_callVI C K (c_X12_readEnd W9 hLx hkx   hUI_121) hLx hkx (by decide) rfl v_12_222 rfl ⟨rfl, rfl⟩ ⟨Nat.le_of_ble_eq_true rfl, Nat.le_of_ble_eq_true rfl⟩ (Nat.le_of_ble_eq_true rfl) ⟨Nat.le_of_ble_eq_true rfl, Nat.le_of_ble_eq_true rfl⟩ dX12_readBookLine_142 rfl (st := []) (fun x_130 I_131 J_132 h_133 => ?_)
                obtain ⟨hUI_131, hFI_131, hGJ_132, rx_130, fx_130, ex_130⟩ := h_133
                have hF_134 := fq_tr hF_124 hFI_131 (by decide)
                have hG_135 := fq_tr hG_125 hGJ_132 (by decide)
                refine g_if_eq C (tgt := 152) dX12_readBookLine_145 (by decide) (fun h_136 => ?_) (fun h_136 => ?_)
                · skip
                  have r_137 := (⟨(rx_130).1, (eq_rg (h_136) rc_0).2⟩ : Rg 0 0 x_130)
                  refine g_iconst C (v := 0) dX12_readBookLine_152 (by decide) ?_
                  exact g_zret (ty := .boolean) (r := 0) B K rfl (rfl) ⟨hUI_131, hF_134, hG_135, rg_w rc_0 (by decide) (by decide), (fun q => absurd rfl q), (fun q => absurd rfl q)⟩ dX12_readBookLine_153
                · skip
                  have n_138 : ¬ x_130 = 0 := h_136
                  have r_139 := ne_lo (lo := 1) n_138 rx_130 rc_0 rfl (by decide)
                  refine g_iconst C (v := 1) dX12_readBookLine_148 (by decide) ?_
                  refine g_goto C (tgt := 153) dX12_readBookLine_149 (by decide) ?_
                  exact g_zret (ty := .boolean) (r := 1) B K rfl (rfl) ⟨hUI_131, hF_134, hG_135, rg_w rc_1 (by decide) (by decide), (fun _ rw hr => by rw [hb_3] at hr; cases hr; rw [(fq_at hFI_131 hLx hkx (by decide) (by decide) (fq_at hFI_121 hLx hkx (by decide) (by decide) q_119)), show 4 * x_88.toNatClampNeg = x_92.toNatClampNeg from ((show x_92.toNatClampNeg = 4 * x_88.toNatClampNeg from by rw [nx_m (k := 4) tx_92 r_91 (by decide)] <;> omega)).symm, show I_131 b_3 (x_92.toNatClampNeg + 2) = _ from (fq_ar hFI_131 hb_3L (ro_a hb_3k (by decide) hb_3o hkx rfl) (by decide) (by decide) rfl)]; exact (ex_120 (rg_nz r_129 (by decide)) _ hb_3)), (fun _ => eq_rg (fq_at hFI_131 hLx hkx (by decide) (by decide) (fq_at hFI_121 hLx hkx (by decide) (by decide) q_119)) (r_91))⟩ dX12_readBookLine_153
          · skip
            exact ne_no (h_97) r_71 rc_0
        · skip
          have r_140 := (⟨(eq_rg (h_89) rc_40).1, (rx_88).2⟩ : Rg 40 40 x_88)
          refine g_aload_n C 1 dX12_readBookLine_61 rfl rfl ?_
          refine g_iconst C (v := 4) dX12_readBookLine_62 (by decide) ?_
          refine g_callVI C K (c_X12_bad W9 hLx hkx 4 (rg_w rc_4 (by decide) (by decide)) hU) hLx hkx (by decide) rfl v_12_146 rfl ⟨rfl, rfl⟩ ⟨Nat.le_of_ble_eq_true rfl, Nat.le_of_ble_eq_true rfl⟩ (Nat.le_of_ble_eq_true rfl) ⟨Nat.le_of_ble_eq_true rfl, Nat.le_of_ble_eq_true rfl⟩ dX12_readBookLine_63 rfl (st := []) (fun x_141 I_142 J_143 h_144 => ?_)
          obtain ⟨hUI_142, hFI_142, hGJ_143, rx_141, fx_141⟩ := h_144
          have hF_145 := fq_tr hF hFI_142 (by decide)
          have hG_146 := fq_tr hG hGJ_143 (by decide)
          exact g_zret (ty := .boolean) (r := x_141) B K rfl (nar_z (rg_w rx_141 (by decide) (by decide))) ⟨hUI_142, hF_145, hG_146, rg_w rx_141 (by decide) (by decide), (fun q => ne_no q rx_141 rc_0), (fun q => ne_no q rx_141 rc_0)⟩ dX12_readBookLine_66
      · skip
        have r_147 := (⟨(rx_81).1, (eq_rg (h_85) rc_m1).2⟩ : Rg (-1) (-1) x_81)
        refine g_aload_n C 1 dX12_readBookLine_46 rfl rfl ?_
        refine g_iconst C (v := 3) dX12_readBookLine_47 (by decide) ?_
        refine g_callVI C K (c_X12_bad W9 hLx hkx 3 (rg_w rc_3 (by decide) (by decide)) hU) hLx hkx (by decide) rfl v_12_146 rfl ⟨rfl, rfl⟩ ⟨Nat.le_of_ble_eq_true rfl, Nat.le_of_ble_eq_true rfl⟩ (Nat.le_of_ble_eq_true rfl) ⟨Nat.le_of_ble_eq_true rfl, Nat.le_of_ble_eq_true rfl⟩ dX12_readBookLine_48 rfl (st := []) (fun x_148 I_149 J_150 h_151 => ?_)
        obtain ⟨hUI_149, hFI_149, hGJ_150, rx_148, fx_148⟩ := h_151
        have hF_152 := fq_tr hF hFI_149 (by decide)
        have hG_153 := fq_tr hG hGJ_150 (by decide)
        exact g_zret (ty := .boolean) (r := x_148) B K rfl (nar_z (rg_w rx_148 (by decide) (by decide))) ⟨hUI_149, hF_152, hG_153, rg_w rx_148 (by decide) (by decide), (fun q => ne_no q rx_148 rc_0), (fun q => ne_no q rx_148 rc_0)⟩ dX12_readBookLine_51
    · skip
      have r_154 := (⟨(rx_72).1, (eq_rg (h_76) rc_0).2⟩ : Rg 0 0 x_72)
      refine g_aload_n C 1 dX12_readBookLine_18 rfl rfl ?_
      refine g_iconst C (v := 1) dX12_readBookLine_19 (by decide) ?_
      refine g_callVI C K (c_X12_bad W9 hLx hkx 1 (rg_w rc_1 (by decide) (by decide)) hU) hLx hkx (by decide) rfl v_12_146 rfl ⟨rfl, rfl⟩ ⟨Nat.le_of_ble_eq_true rfl, Nat.le_of_ble_eq_true rfl⟩ (Nat.le_of_ble_eq_true rfl) ⟨Nat.le_of_ble_eq_true rfl, Nat.le_of_ble_eq_true rfl⟩ dX12_readBookLine_20 rfl (st := []) (fun x_155 I_156 J_157 h_158 => ?_)
      obtain ⟨hUI_156, hFI_156, hGJ_157, rx_155, fx_155⟩ := h_158
      have hF_159 := fq_tr hF hFI_156 (by decide)
      have hG_160 := fq_tr hG hGJ_157 (by decide)
      exact g_zret (ty := .boolean) (r := x_155) B K rfl (nar_z (rg_w rx_155 (by decide) (by decide))) ⟨hUI_156, hF_159, hG_160, rg_w rx_155 (by decide) (by decide), (fun q => ne_no q rx_155 rc_0), (fun q => ne_no q rx_155 rc_0)⟩ dX12_readBookLine_23
set_option maxRecDepth 100000 in
set_option maxHeartbeats 8000000 in
theorem c_X12_stay {l : Launch} {D : va_G} {cy : Nat → ClassId} {L : List Nat} {κ ln : Nat → Nat} {R : Nat → Nat → Option Nat} {I : Nat → Nat → Int32} {J : Nat → Nat → Int64} {ow : Nat → Nat × Nat} (W9 : ∀ a ∈ L, Shp L κ ln R ow a) {x : Nat} (hLx : x ∈ L) (hkx : κ x = 12) (a0 : Int32) (ra0 : Rg 0 1 a0) (hU : Iw L κ R ow I) (hga : Ga_ R x I) : CtV l yX12_stay cX12_stay 4 none { frames := 1, cells := 0, slots := 0, locals := 21 } D cy L κ ln R I J [.ref x, .int a0] (fun I2 J2 => Iw L κ R ow I2 ∧ Fq L κ ow [1223, 83400, 83700, 83800] I I2 ∧ Fq L κ ow [] J J2 ∧ (Hd_ R x I I2)) := by
  refine CtV.of (by decide +kernel) (Nat.le_of_ble_eq_true rfl) ?_
  intro p e s m below meth c B K
  have C := B.1
  have hF : Fq L κ ow [1223, 83400, 83700, 83800] I I := fq_rf
  have hG : Fq L κ ow [] J J := fq_rf
  obtain ⟨b_1, hb_1, hb_1L, hb_1k, hb_1n, hb_1o⟩ := shp_a (W9 x hLx) hkx 18 14 75 rfl (by decide)
  obtain ⟨b_2, hb_2, hb_2L, hb_2k, hb_2n, hb_2o⟩ := shp_a (W9 x hLx) hkx 14 14 389 rfl (by decide)
  refine g_lo (is := [0, 1]) (lo2 := [(0, .ref x), (1, .int a0)]) rfl ?_
  refine g_iconst C (v := 0) dX12_stay_0 (by decide) ?_
  refine g_istore_n C dX12_stay_1 rfl (by decide) (lo2 := [(2, .int 0), (0, .ref x), (1, .int a0)]) rfl ?_
  refine g_lo (is := [1, 2, 0]) (lo2 := [(0, .ref x), (1, .int a0), (2, .int 0)]) rfl ?_
  have ex_2 : ∀ (I_4 : Nat → Nat → Int32) (hI_4 : I_4 = swp_ I b_2 b_1 75) (v_3 : Int32) (rv_3 : Rg 75 75 v_3), WG p l e { frames := 1, cells := 0, slots := 0, locals := 21 } s m ([.ref x, .int a0] : List Value).toArray below meth c 4 0 0 (MQ below (Qv_ D cy L κ ln R (fun I2 J2 => Iw L κ R ow I2 ∧ Fq L κ ow [1223, 83400, 83700, 83800] I I2 ∧ Fq L κ ow [] J J2 ∧ (Hd_ R x I I2))) ([.ref x, .int a0] : List Value).toArray s 0 0 (Al_ L)) D cy (Al_ L) s.heap L κ ln R I_4 J 46 [(0, .ref x), (1, .int a0), (2, .int v_3)] [] := by
    intro I_4 hI_4 v_3 rv_3
    have hF_5 := fq_swp hF hI_4 (ro_a hb_2k (by decide) hb_2o hkx rfl) (ro_a hb_1k (by decide) hb_1o hkx rfl) (by decide) (by decide)
    have hU_6 := uw_swp hU.1 hb_2L hb_1L hI_4 (ro_a hb_2k (by decide) hb_2o hkx rfl) (ro_a hb_1k (by decide) hb_1o hkx rfl)
    have q_7 := iw_sw W9 hU hU_6 hLx hkx hb_2 hb_1 hI_4 hga
    refine g_iload_n C 1 dX12_stay_46 rfl rfl ?_
    refine g_if_ne C (tgt := 51) dX12_stay_47 (by decide) (fun h_8 => ?_) (fun h_8 => ?_)
    · skip
      have n_9 : ¬ a0 = 0 := h_8
      have r_10 := ne_lo (lo := 1) n_9 ra0 rc_0 rfl (by decide)
      refine g_aload_n C 0 dX12_stay_51 rfl rfl ?_
      refine g_callVV C K (c_X12_snap W9 hLx hkx   q_7.1) hLx hkx (by decide) rfl v_12_282 rfl ⟨rfl, rfl⟩ ⟨Nat.le_of_ble_eq_true rfl, Nat.le_of_ble_eq_true rfl⟩ (Nat.le_of_ble_eq_true rfl) ⟨Nat.le_of_ble_eq_true rfl, Nat.le_of_ble_eq_true rfl⟩ dX12_stay_52 rfl (st := []) (fun I_12 J_13 h_14 => ?_)
      obtain ⟨hUI_12, hFI_12, hGJ_13, ex_11⟩ := h_14
      have hF_15 := fq_tr hF_5 hFI_12 (by decide)
      have hG_16 := fq_tr hG hGJ_13 (by decide)
      refine g_aload_n C 0 dX12_stay_55 rfl rfl ?_
      refine g_callVV C K (c_X12_takeBack W9 hLx hkx   hUI_12  ((ga_mv W9 hLx hkx q_7.2 ex_11 hFI_12 (by decide)))) hLx hkx (by decide) rfl v_12_332 rfl ⟨rfl, rfl⟩ ⟨Nat.le_of_ble_eq_true rfl, Nat.le_of_ble_eq_true rfl⟩ (Nat.le_of_ble_eq_true rfl) ⟨Nat.le_of_ble_eq_true rfl, Nat.le_of_ble_eq_true rfl⟩ dX12_stay_56 rfl (st := []) (fun I_18 J_19 h_20 => ?_)
      obtain ⟨hUI_18, hFI_18, hGJ_19, ex_17⟩ := h_20
      have hF_21 := fq_tr hF_15 hFI_18 (by decide)
      have hG_22 := fq_tr hG_16 hGJ_19 (by decide)
      exact g_vret B K rfl ⟨hUI_18, hF_21, hG_22, (hd_t (hd_t (hd_sw hb_2 (ro_a hb_2k (by decide) hb_2o hkx rfl) (ro_a hb_1k (by decide) hb_1o hkx rfl) hd_rf hI_4) ex_11) ex_17)⟩ dX12_stay_59
    · skip
      have r_23 := (⟨(ra0).1, (eq_rg (h_8) rc_0).2⟩ : Rg 0 0 a0)
      exact g_vret B K rfl ⟨q_7.1, hF_5, hG, (hd_sw hb_2 (ro_a hb_2k (by decide) hb_2o hkx rfl) (ro_a hb_1k (by decide) hb_1o hkx rfl) hd_rf hI_4)⟩ dX12_stay_50
  have l_2 : ∀ (m_2 : Nat) (v_24 : Int32) (I_25 : Nat → Nat → Int32), v_24.toInt + (m_2 : Int) = 75 → 0 ≤ v_24.toInt → I_25 = swp_ I b_2 b_1 v_24.toNatClampNeg → WG p l e { frames := 1, cells := 0, slots := 0, locals := 21 } s m ([.ref x, .int a0] : List Value).toArray below meth c 4 0 0 (MQ below (Qv_ D cy L κ ln R (fun I2 J2 => Iw L κ R ow I2 ∧ Fq L κ ow [1223, 83400, 83700, 83800] I I2 ∧ Fq L κ ow [] J J2 ∧ (Hd_ R x I I2))) ([.ref x, .int a0] : List Value).toArray s 0 0 (Al_ L)) D cy (Al_ L) s.heap L κ ln R I_25 J 2 [(0, .ref x), (1, .int a0), (2, .int v_24)] [] := by
    intro m_2
    induction m_2 with
    | zero =>
      intro v_24 I_25 hk_2 h0_2 hI_25
      have rv_24 : Rg 75 75 v_24 := by unfold Rg; omega
      refine g_iload_n C 2 dX12_stay_2 rfl rfl ?_
      refine g_bipush C (v := 75) dX12_stay_3 (by decide) ?_
      refine g_icmp_ge C (tgt := 46) dX12_stay_5 (by decide) (fun h_26 => ?_) (fun h_26 => ?_)
      · skip
        refine g_lo (is := [0, 1, 2]) (lo2 := [(0, .ref x), (1, .int a0), (2, .int v_24)]) rfl ?_
        exact ex_2 I_25 (hI_25.trans (congrArg (fun q => swp_ I b_2 b_1 q) (show v_24.toNatClampNeg = 75 from by have := ix_n rv_24 (by decide); have := rv_24.1; have := rv_24.2; omega))) v_24 rv_24
      · skip
        have r_27 := lt_l (hi := 74) (nle h_26) rv_24 rc_75 (by decide)
        exact rg_no r_27 (by decide)
    | succ m_2 ih_2 =>
      intro v_24 I_25 hk_2 h0_2 hI_25
      have rv_24 : Rg 0 74 v_24 := by unfold Rg; omega
      refine g_iload_n C 2 dX12_stay_2 rfl rfl ?_
      refine g_bipush C (v := 75) dX12_stay_3 (by decide) ?_
      refine g_icmp_ge C (tgt := 46) dX12_stay_5 (by decide) (fun h_28 => ?_) (fun h_28 => ?_)
      · skip
        have r_29 := le_r (h_28) rc_75 rv_24
        exact rg_no r_29 (by decide)
      · skip
        refine g_aload_n C 0 dX12_stay_8 rfl rfl ?_
        refine g_getR C K hLx hkx f_12_13 hb_2 dX12_stay_9 ?_
        refine g_bipush C (v := 72) dX12_stay_12 (by decide) ?_
        refine g_iload_n C 2 dX12_stay_14 rfl rfl ?_
        obtain ⟨x_30, hx_30, rx_30, tx_30⟩ := ex_add 72 146 rc_72 rv_24 (by decide) (by decide) (by decide) (by decide)
        refine g_iadd C (v := x_30) dX12_stay_15 hx_30 ?_
        obtain ⟨x_31, hx_31, rx_31⟩ := ex_any (z0 := I_25 b_2 (x_30.toNatClampNeg))
        refine h_iald C K hb_2L hb_2k (v := x_31) (x_30.toNatClampNeg) (rfl) (ix_0 rx_30 (by decide)) (ix_lt rx_30 (by decide) hb_2n (by decide)) hx_31 dX12_stay_16 ?_
        refine g_istore_n C dX12_stay_17 rfl (by decide) (lo2 := [(3, .int x_31), (0, .ref x), (1, .int a0), (2, .int v_24)]) rfl ?_
        refine g_aload_n C 1 dX12_stay_18 rfl rfl ?_
        refine g_getR C K hLx hkx f_12_13 hb_2 dX12_stay_19 ?_
        refine g_bipush C (v := 72) dX12_stay_22 (by decide) ?_
        refine g_iload_n C 3 dX12_stay_24 rfl rfl ?_
        refine g_iadd C (v := x_30) dX12_stay_25 hx_30 ?_
        refine g_aload_n C 1 dX12_stay_26 rfl rfl ?_
        refine g_getR C K hLx hkx f_12_25 hb_1 dX12_stay_27 ?_
        refine g_iload_n C 3 dX12_stay_30 rfl rfl ?_
        obtain ⟨x_32, hx_32, rx_32⟩ := ex_any (z0 := I_25 b_1 (v_24.toNatClampNeg))
        refine h_iald C K hb_1L hb_1k (v := x_32) (v_24.toNatClampNeg) (rfl) (ix_0 rv_24 (by decide)) (ix_lt rv_24 (by decide) hb_1n (by decide)) hx_32 dX12_stay_31 ?_
        refine h_iast C K hb_2L hb_2k (x_30.toNatClampNeg) (rfl) (ix_0 rx_30 (by decide)) (ix_lt rx_30 (by decide) hb_2n (by decide)) dX12_stay_32 (fun I_33 hI_33 => ?_)
        refine g_aload_n C 1 dX12_stay_33 rfl rfl ?_
        refine g_getR C K hLx hkx f_12_25 hb_1 dX12_stay_34 ?_
        refine g_iload_n C 3 dX12_stay_37 rfl rfl ?_
        refine g_iload_n C 0 dX12_stay_38 rfl rfl ?_
        refine h_iast C K hb_1L hb_1k (v_24.toNatClampNeg) (rfl) (ix_0 rv_24 (by decide)) (ix_lt rv_24 (by decide) hb_1n (by decide)) dX12_stay_39 (fun I_34 hI_34 => ?_)
        obtain ⟨x_35, hx_35, rx_35, tx_35⟩ := ex_add (y := 1) 1 75 rv_24 rc_1 (by decide) (by decide) (by decide) (by decide)
        refine g_iinc C dX12_stay_40 (k := 3) (v := x_35) rfl hx_35 (by decide) (lo2 := [(2, .int x_35), (3, .int x_31), (0, .ref x), (1, .int a0)]) rfl ?_
        refine g_goto C (tgt := 2) dX12_stay_43 (by decide) ?_
        refine g_lo (is := [2, 3, 0]) (lo2 := [(0, .ref x), (1, .int a0), (2, .int x_35)]) rfl ?_
        have kk_2 : x_35.toNatClampNeg = v_24.toNatClampNeg + 1 := by have q1 := ix_n rv_24 (by decide); have q2 := (ti_k tx_35 rc_1); have q3 : x_35.toNatClampNeg = x_35.toInt.toNat := rfl; omega
        exact ih_2 x_35 I_34 (by have := (ti_k tx_35 rc_1); omega) (by have := (ti_k tx_35 rc_1); omega) (by rw [kk_2]; exact swp_s hI_25 (ne_ro (ro_a hb_2k (by decide) hb_2o hkx rfl) (ro_a hb_1k (by decide) hb_1o hkx rfl) (by decide)) hx_31 hx_32 hI_33 hI_34 (show x_30.toNatClampNeg = 72 + v_24.toNatClampNeg from by rw [nx_a tx_30 rc_72 rv_24 (by decide)]; simp only [show (72 : Int32).toNatClampNeg = 72 from rfl] <;> omega) rfl rfl)
  exact l_2 75 0 I (by decide) (by decide) swp_0
set_option maxRecDepth 100000 in
set_option maxHeartbeats 8000000 in
theorem c_X12_book {l : Launch} {D : va_G} {cy : Nat → ClassId} {L : List Nat} {κ ln : Nat → Nat} {R : Nat → Nat → Option Nat} {I : Nat → Nat → Int32} {J : Nat → Nat → Int64} {ow : Nat → Nat × Nat} (W9 : ∀ a ∈ L, Shp L κ ln R ow a) {x : Nat} (hLx : x ∈ L) (hkx : κ x = 12) (a0 : Int32) (hU : Iw L κ R ow I) : CtI l yX12_book cX12_book 4 (some .int) { frames := 6, cells := 0, slots := 0, locals := 143 } D cy L κ ln R I J [.ref x, .int a0] (fun r I2 J2 => Iw L κ R ow I2 ∧ Fq L κ ow [1200, 1202, 1203, 1204, 1205, 1206, 1207, 1208, 1209, 1210, 1211, 1213, 1223, 1244, 1245, 83400, 83700, 83800, 86200, 86300] I I2 ∧ Fq L κ ow [1212] J J2 ∧ Rg (-2147483648) 2147483647 r ∧ (Hd_ R x I I2)) := by
  refine CtI.of (by decide +kernel) (Nat.le_of_ble_eq_true rfl) ?_
  intro p e s m below meth c B K
  have C := B.1
  have hF : Fq L κ ow [1200, 1202, 1203, 1204, 1205, 1206, 1207, 1208, 1209, 1210, 1211, 1213, 1223, 1244, 1245, 83400, 83700, 83800, 86200, 86300] I I := fq_rf
  have hG : Fq L κ ow [1212] J J := fq_rf
  obtain ⟨b_1, hb_1, hb_1L, hb_1k, hb_1n, hb_1o⟩ := shp_a (W9 x hLx) hkx 14 14 389 rfl (by decide)
  obtain ⟨b_2, hb_2, hb_2L, hb_2k, hb_2n, hb_2o⟩ := shp_a (W9 x hLx) hkx 43 14 4 rfl (by decide)
  obtain ⟨b_3, hb_3, hb_3L, hb_3k, hb_3n, hb_3o⟩ := shp_a (W9 x hLx) hkx 42 14 160 rfl (by decide)
  refine g_lo (is := [0, 1]) (lo2 := [(0, .ref x), (1, .int a0)]) rfl ?_
  have j_103 : ∀ (I_4 : Nat → Nat → Int32) (J_5 : Nat → Nat → Int64) (hU_6 : Iw L κ R ow I_4) (hF_7 : Fq L κ ow [1200, 1202, 1203, 1204, 1205, 1206, 1207, 1208, 1209, 1210, 1211, 1213, 1223, 1244, 1245, 83400, 83700, 83800, 86200, 86300] I I_4) (hG_8 : Fq L κ ow [1212] J J_5) (r_9 : Rg 0 1 a0) (v_10 : Int32) (rv_10 : Rg 0 40 v_10) (v_11 : Int32) (rv_11 : Rg 0 61 v_11) (v_12 : Int32) (rv_12 : Rg 0 40 v_12) (v_13 : Int32) (rv_13 : Rg 0 0 v_13) (q_14 : I_4 x 44 = v_12) (q_15 : I_4 x 7 = v_13) (hd_16 : Hd_ R x I I_4) (ga_17 : Ga_ R x I_4), WG p l e { frames := 6, cells := 0, slots := 0, locals := 143 } s m ([.ref x, .int a0] : List Value).toArray below meth c 4 0 0 (MQ below (Qi_ D cy L κ ln R (fun r I2 J2 => Iw L κ R ow I2 ∧ Fq L κ ow [1200, 1202, 1203, 1204, 1205, 1206, 1207, 1208, 1209, 1210, 1211, 1213, 1223, 1244, 1245, 83400, 83700, 83800, 86200, 86300] I I2 ∧ Fq L κ ow [1212] J J2 ∧ Rg (-2147483648) 2147483647 r ∧ (Hd_ R x I I2))) ([.ref x, .int a0] : List Value).toArray s 0 0 (Al_ L)) D cy (Al_ L) s.heap L κ ln R I_4 J_5 103 [(0, .ref x), (1, .int a0), (2, .int v_10), (3, .int v_11)] [] := by
    intro I_4 J_5 hU_6 hF_7 hG_8 r_9 v_10 rv_10 v_11 rv_11 v_12 rv_12 v_13 rv_13 q_14 q_15 hd_16 ga_17
    refine g_aload_n C 0 dX12_book_103 rfl rfl ?_
    refine g_getR C K hLx hkx f_12_76 hb_2 dX12_book_104 ?_
    refine g_iconst C (v := 0) dX12_book_107 (by decide) ?_
    refine g_iload_n C 3 dX12_book_108 rfl rfl ?_
    refine h_iast C K hb_2L hb_2k (0) (by decide) (by decide) (by rw [hb_2n]; decide) dX12_book_109 (fun I_18 hI_18 => ?_)
    have hU_19 := iw_put W9 hU_6 hI_18 (ro_a hb_2k (by decide) hb_2o hkx rfl) (lo := (-2147483648)) (hi := 2147483647) (rfl) (rg_all _) rfl
    have hF_20 := fq_puta hF_7 hI_18 (ro_a hb_2k (by decide) hb_2o hkx rfl) (by decide) (by decide)
    refine g_aload_n C 0 dX12_book_110 rfl rfl ?_
    refine g_getR C K hLx hkx f_12_76 hb_2 dX12_book_111 ?_
    refine g_iconst C (v := 1) dX12_book_114 (by decide) ?_
    refine g_iload_n C 2 dX12_book_115 rfl rfl ?_
    refine h_iast C K hb_2L hb_2k (1) (by decide) (by decide) (by rw [hb_2n]; decide) dX12_book_116 (fun I_21 hI_21 => ?_)
    have hU_22 := iw_put W9 hU_19 hI_21 (ro_a hb_2k (by decide) hb_2o hkx rfl) (lo := (-2147483648)) (hi := 2147483647) (rfl) (rg_all _) rfl
    have hF_23 := fq_puta hF_20 hI_21 (ro_a hb_2k (by decide) hb_2o hkx rfl) (by decide) (by decide)
    refine g_aload_n C 0 dX12_book_117 rfl rfl ?_
    refine g_getR C K hLx hkx f_12_76 hb_2 dX12_book_118 ?_
    refine g_iconst C (v := 2) dX12_book_121 (by decide) ?_
    refine g_aload_n C 0 dX12_book_122 rfl rfl ?_
    refine g_getR C K hLx hkx f_12_13 hb_1 dX12_book_123 ?_
    refine g_bipush C (v := 72) dX12_book_126 (by decide) ?_
    obtain ⟨x_24, hx_24, rx_24⟩ := ex_any (z0 := I_21 b_1 (72))
    refine h_iald C K hb_1L hb_1k (v := x_24) (72) (by decide) (by decide) (by rw [hb_1n]; decide) hx_24 dX12_book_128 ?_
    refine h_iast C K hb_2L hb_2k (2) (by decide) (by decide) (by rw [hb_2n]; decide) dX12_book_129 (fun I_25 hI_25 => ?_)
    have hU_26 := iw_put W9 hU_22 hI_25 (ro_a hb_2k (by decide) hb_2o hkx rfl) (lo := (-2147483648)) (hi := 2147483647) (rfl) (rx_24) rfl
    have hF_27 := fq_puta hF_23 hI_25 (ro_a hb_2k (by decide) hb_2o hkx rfl) (by decide) (by decide)
    refine g_aload_n C 0 dX12_book_130 rfl rfl ?_
    refine g_getR C K hLx hkx f_12_76 hb_2 dX12_book_131 ?_
    refine g_iconst C (v := 3) dX12_book_134 (by decide) ?_
    refine g_aload_n C 0 dX12_book_135 rfl rfl ?_
    refine g_getR C K hLx hkx f_12_13 hb_1 dX12_book_136 ?_
    refine g_bipush C (v := 73) dX12_book_139 (by decide) ?_
    obtain ⟨x_28, hx_28, rx_28⟩ := ex_any (z0 := I_25 b_1 (73))
    refine h_iald C K hb_1L hb_1k (v := x_28) (73) (by decide) (by decide) (by rw [hb_1n]; decide) hx_28 dX12_book_141 ?_
    refine h_iast C K hb_2L hb_2k (3) (by decide) (by decide) (by rw [hb_2n]; decide) dX12_book_142 (fun I_29 hI_29 => ?_)
    have hU_30 := iw_put W9 hU_26 hI_29 (ro_a hb_2k (by decide) hb_2o hkx rfl) (lo := (-2147483648)) (hi := 2147483647) (rfl) (rx_28) rfl
    have hF_31 := fq_puta hF_27 hI_29 (ro_a hb_2k (by decide) hb_2o hkx rfl) (by decide) (by decide)
    refine g_aload_n C 0 dX12_book_143 rfl rfl ?_
    refine g_iconst C (v := 1) dX12_book_144 (by decide) ?_
    refine h_putZ C K hLx hkx f_12_373 p_12_45 (rg_bool (rg_w rc_1 (by decide) (by decide))) dX12_book_145 (fun I_32 hI_32 => ?_)
    have hU_33 := iw_put W9 hU_30 hI_32 (ro_o hkx (by decide)) (lo := 0) (hi := 1) (rfl) (rg_w rc_1 (by decide) (by decide)) rfl
    have hF_34 := fq_puto hF_31 hI_32 hkx (by decide) (by decide)
    refine g_aload_n C 0 dX12_book_148 rfl rfl ?_
    refine g_iload_n C 1 dX12_book_149 rfl rfl ?_
    refine g_iconst C (v := 1) dX12_book_150 (by decide) ?_
    refine g_icmp_ne C (tgt := 162) dX12_book_151 (by decide) (fun h_35 => ?_) (fun h_35 => ?_)
    · skip
      have n_36 : ¬ a0 = 1 := h_35
      have r_37 := ne_hi (hi := 0) n_36 r_9 rc_1 rfl (by decide)
      refine g_iconst C (v := 0) dX12_book_162 (by decide) ?_
      refine g_callVV C K (c_X12_stay W9 hLx hkx 0 (rg_w rc_0 (by decide) (by decide)) hU_33  ((ga_u (r := 0) W9 hLx hkx (ga_u W9 hLx hkx (ga_u W9 hLx hkx (ga_u W9 hLx hkx (ga_u W9 hLx hkx ga_17 hI_18 (Or.inr (Or.inl ⟨(ro_a hb_2k (by decide) hb_2o hkx rfl), by decide, by decide⟩))) hI_21 (Or.inr (Or.inl ⟨(ro_a hb_2k (by decide) hb_2o hkx rfl), by decide, by decide⟩))) hI_25 (Or.inr (Or.inl ⟨(ro_a hb_2k (by decide) hb_2o hkx rfl), by decide, by decide⟩))) hI_29 (Or.inr (Or.inl ⟨(ro_a hb_2k (by decide) hb_2o hkx rfl), by decide, by decide⟩))) hI_32 (Or.inl (ro_o hkx (by decide)))))) hLx hkx (by decide) rfl v_12_376 rfl ⟨rfl, rfl⟩ ⟨Nat.le_of_ble_eq_true rfl, Nat.le_of_ble_eq_true rfl⟩ (Nat.le_of_ble_eq_true rfl) ⟨Nat.le_of_ble_eq_true rfl, Nat.le_of_ble_eq_true rfl⟩ dX12_book_163 rfl (st := []) (fun I_39 J_40 h_41 => ?_)
      obtain ⟨hUI_39, hFI_39, hGJ_40, ex_38⟩ := h_41
      have hF_42 := fq_tr hF_34 hFI_39 (by decide)
      have hG_43 := fq_tr hG_8 hGJ_40 (by decide)
      refine g_iload_n C 3 dX12_book_166 rfl rfl ?_
      refine g_if_ne C (tgt := 174) dX12_book_167 (by decide) (fun h_44 => ?_) (fun h_44 => ?_)
      · skip
        have n_45 : ¬ v_11 = 0 := h_44
        have r_46 := ne_lo (lo := 1) n_45 rv_11 rc_0 rfl (by decide)
        refine g_iload_n C 2 dX12_book_174 rfl rfl ?_
        exact g_zret (ty := .int) (r := v_10) B K rfl (rfl) ⟨hUI_39, hF_42, hG_43, rg_all _, (hd_t (hd_u (r := 0) W9 hLx hkx (hd_u W9 hLx hkx (hd_u W9 hLx hkx (hd_u W9 hLx hkx (hd_u W9 hLx hkx hd_16 hI_18 (Or.inr (Or.inl ⟨(ro_a hb_2k (by decide) hb_2o hkx rfl), by decide⟩))) hI_21 (Or.inr (Or.inl ⟨(ro_a hb_2k (by decide) hb_2o hkx rfl), by decide⟩))) hI_25 (Or.inr (Or.inl ⟨(ro_a hb_2k (by decide) hb_2o hkx rfl), by decide⟩))) hI_29 (Or.inr (Or.inl ⟨(ro_a hb_2k (by decide) hb_2o hkx rfl), by decide⟩))) hI_32 (Or.inl (ro_o hkx (by decide)))) ex_38)⟩ dX12_book_175
      · skip
        have r_47 := (⟨(rv_11).1, (eq_rg (h_44) rc_0).2⟩ : Rg 0 0 v_11)
        refine g_iconst C (v := (-1)) dX12_book_170 (by decide) ?_
        refine g_goto C (tgt := 175) dX12_book_171 (by decide) ?_
        exact g_zret (ty := .int) (r := (-1)) B K rfl (rfl) ⟨hUI_39, hF_42, hG_43, rg_all _, (hd_t (hd_u (r := 0) W9 hLx hkx (hd_u W9 hLx hkx (hd_u W9 hLx hkx (hd_u W9 hLx hkx (hd_u W9 hLx hkx hd_16 hI_18 (Or.inr (Or.inl ⟨(ro_a hb_2k (by decide) hb_2o hkx rfl), by decide⟩))) hI_21 (Or.inr (Or.inl ⟨(ro_a hb_2k (by decide) hb_2o hkx rfl), by decide⟩))) hI_25 (Or.inr (Or.inl ⟨(ro_a hb_2k (by decide) hb_2o hkx rfl), by decide⟩))) hI_29 (Or.inr (Or.inl ⟨(ro_a hb_2k (by decide) hb_2o hkx rfl), by decide⟩))) hI_32 (Or.inl (ro_o hkx (by decide)))) ex_38)⟩ dX12_book_175
    · skip
      have r_48 := (⟨(eq_rg (h_35) rc_1).1, (r_9).2⟩ : Rg 1 1 a0)
      refine g_iload_n C 2 dX12_book_154 rfl rfl ?_
      refine g_if_le C (tgt := 162) dX12_book_155 (by decide) (fun h_49 => ?_) (fun h_49 => ?_)
      · skip
        have r_50 := le_l (h_49) rv_10 rc_0
        refine g_iconst C (v := 0) dX12_book_162 (by decide) ?_
        refine g_callVV C K (c_X12_stay W9 hLx hkx 0 (rg_w rc_0 (by decide) (by decide)) hU_33  ((ga_u (r := 0) W9 hLx hkx (ga_u W9 hLx hkx (ga_u W9 hLx hkx (ga_u W9 hLx hkx (ga_u W9 hLx hkx ga_17 hI_18 (Or.inr (Or.inl ⟨(ro_a hb_2k (by decide) hb_2o hkx rfl), by decide, by decide⟩))) hI_21 (Or.inr (Or.inl ⟨(ro_a hb_2k (by decide) hb_2o hkx rfl), by decide, by decide⟩))) hI_25 (Or.inr (Or.inl ⟨(ro_a hb_2k (by decide) hb_2o hkx rfl), by decide, by decide⟩))) hI_29 (Or.inr (Or.inl ⟨(ro_a hb_2k (by decide) hb_2o hkx rfl), by decide, by decide⟩))) hI_32 (Or.inl (ro_o hkx (by decide)))))) hLx hkx (by decide) rfl v_12_376 rfl ⟨rfl, rfl⟩ ⟨Nat.le_of_ble_eq_true rfl, Nat.le_of_ble_eq_true rfl⟩ (Nat.le_of_ble_eq_true rfl) ⟨Nat.le_of_ble_eq_true rfl, Nat.le_of_ble_eq_true rfl⟩ dX12_book_163 rfl (st := []) (fun I_52 J_53 h_54 => ?_)
        obtain ⟨hUI_52, hFI_52, hGJ_53, ex_51⟩ := h_54
        have hF_55 := fq_tr hF_34 hFI_52 (by decide)
        have hG_56 := fq_tr hG_8 hGJ_53 (by decide)
        refine g_iload_n C 3 dX12_book_166 rfl rfl ?_
        refine g_if_ne C (tgt := 174) dX12_book_167 (by decide) (fun h_57 => ?_) (fun h_57 => ?_)
        · skip
          have n_58 : ¬ v_11 = 0 := h_57
          have r_59 := ne_lo (lo := 1) n_58 rv_11 rc_0 rfl (by decide)
          refine g_iload_n C 2 dX12_book_174 rfl rfl ?_
          exact g_zret (ty := .int) (r := v_10) B K rfl (rfl) ⟨hUI_52, hF_55, hG_56, rg_all _, (hd_t (hd_u (r := 0) W9 hLx hkx (hd_u W9 hLx hkx (hd_u W9 hLx hkx (hd_u W9 hLx hkx (hd_u W9 hLx hkx hd_16 hI_18 (Or.inr (Or.inl ⟨(ro_a hb_2k (by decide) hb_2o hkx rfl), by decide⟩))) hI_21 (Or.inr (Or.inl ⟨(ro_a hb_2k (by decide) hb_2o hkx rfl), by decide⟩))) hI_25 (Or.inr (Or.inl ⟨(ro_a hb_2k (by decide) hb_2o hkx rfl), by decide⟩))) hI_29 (Or.inr (Or.inl ⟨(ro_a hb_2k (by decide) hb_2o hkx rfl), by decide⟩))) hI_32 (Or.inl (ro_o hkx (by decide)))) ex_51)⟩ dX12_book_175
        · skip
          have r_60 := (⟨(rv_11).1, (eq_rg (h_57) rc_0).2⟩ : Rg 0 0 v_11)
          refine g_iconst C (v := (-1)) dX12_book_170 (by decide) ?_
          refine g_goto C (tgt := 175) dX12_book_171 (by decide) ?_
          exact g_zret (ty := .int) (r := (-1)) B K rfl (rfl) ⟨hUI_52, hF_55, hG_56, rg_all _, (hd_t (hd_u (r := 0) W9 hLx hkx (hd_u W9 hLx hkx (hd_u W9 hLx hkx (hd_u W9 hLx hkx (hd_u W9 hLx hkx hd_16 hI_18 (Or.inr (Or.inl ⟨(ro_a hb_2k (by decide) hb_2o hkx rfl), by decide⟩))) hI_21 (Or.inr (Or.inl ⟨(ro_a hb_2k (by decide) hb_2o hkx rfl), by decide⟩))) hI_25 (Or.inr (Or.inl ⟨(ro_a hb_2k (by decide) hb_2o hkx rfl), by decide⟩))) hI_29 (Or.inr (Or.inl ⟨(ro_a hb_2k (by decide) hb_2o hkx rfl), by decide⟩))) hI_32 (Or.inl (ro_o hkx (by decide)))) ex_51)⟩ dX12_book_175
      · skip
        have r_61 := lt_r (lo := 1) (nle h_49) rc_0 rv_10 (by decide)
        refine g_iconst C (v := 1) dX12_book_158 (by decide) ?_
        refine g_goto C (tgt := 163) dX12_book_159 (by decide) ?_
        refine g_callVV C K (c_X12_stay W9 hLx hkx 1 (rg_w rc_1 (by decide) (by decide)) hU_33  ((ga_u (r := 0) W9 hLx hkx (ga_u W9 hLx hkx (ga_u W9 hLx hkx (ga_u W9 hLx hkx (ga_u W9 hLx hkx ga_17 hI_18 (Or.inr (Or.inl ⟨(ro_a hb_2k (by decide) hb_2o hkx rfl), by decide, by decide⟩))) hI_21 (Or.inr (Or.inl ⟨(ro_a hb_2k (by decide) hb_2o hkx rfl), by decide, by decide⟩))) hI_25 (Or.inr (Or.inl ⟨(ro_a hb_2k (by decide) hb_2o hkx rfl), by decide, by decide⟩))) hI_29 (Or.inr (Or.inl ⟨(ro_a hb_2k (by decide) hb_2o hkx rfl), by decide, by decide⟩))) hI_32 (Or.inl (ro_o hkx (by decide)))))) hLx hkx (by decide) rfl v_12_376 rfl ⟨rfl, rfl⟩ ⟨Nat.le_of_ble_eq_true rfl, Nat.le_of_ble_eq_true rfl⟩ (Nat.le_of_ble_eq_true rfl) ⟨Nat.le_of_ble_eq_true rfl, Nat.le_of_ble_eq_true rfl⟩ dX12_book_163 rfl (st := []) (fun I_63 J_64 h_65 => ?_)
        obtain ⟨hUI_63, hFI_63, hGJ_64, ex_62⟩ := h_65
        have hF_66 := fq_tr hF_34 hFI_63 (by decide)
        have hG_67 := fq_tr hG_8 hGJ_64 (by decide)
        refine g_iload_n C 3 dX12_book_166 rfl rfl ?_
        refine g_if_ne C (tgt := 174) dX12_book_167 (by decide) (fun h_68 => ?_) (fun h_68 => ?_)
        · skip
          have n_69 : ¬ v_11 = 0 := h_68
          have r_70 := ne_lo (lo := 1) n_69 rv_11 rc_0 rfl (by decide)
          refine g_iload_n C 2 dX12_book_174 rfl rfl ?_
          exact g_zret (ty := .int) (r := v_10) B K rfl (rfl) ⟨hUI_63, hF_66, hG_67, rg_all _, (hd_t (hd_u (r := 0) W9 hLx hkx (hd_u W9 hLx hkx (hd_u W9 hLx hkx (hd_u W9 hLx hkx (hd_u W9 hLx hkx hd_16 hI_18 (Or.inr (Or.inl ⟨(ro_a hb_2k (by decide) hb_2o hkx rfl), by decide⟩))) hI_21 (Or.inr (Or.inl ⟨(ro_a hb_2k (by decide) hb_2o hkx rfl), by decide⟩))) hI_25 (Or.inr (Or.inl ⟨(ro_a hb_2k (by decide) hb_2o hkx rfl), by decide⟩))) hI_29 (Or.inr (Or.inl ⟨(ro_a hb_2k (by decide) hb_2o hkx rfl), by decide⟩))) hI_32 (Or.inl (ro_o hkx (by decide)))) ex_62)⟩ dX12_book_175
        · skip
          have r_71 := (⟨(rv_11).1, (eq_rg (h_68) rc_0).2⟩ : Rg 0 0 v_11)
          refine g_iconst C (v := (-1)) dX12_book_170 (by decide) ?_
          refine g_goto C (tgt := 175) dX12_book_171 (by decide) ?_
          exact g_zret (ty := .int) (r := (-1)) B K rfl (rfl) ⟨hUI_63, hF_66, hG_67, rg_all _, (hd_t (hd_u (r := 0) W9 hLx hkx (hd_u W9 hLx hkx (hd_u W9 hLx hkx (hd_u W9 hLx hkx (hd_u W9 hLx hkx hd_16 hI_18 (Or.inr (Or.inl ⟨(ro_a hb_2k (by decide) hb_2o hkx rfl), by decide⟩))) hI_21 (Or.inr (Or.inl ⟨(ro_a hb_2k (by decide) hb_2o hkx rfl), by decide⟩))) hI_25 (Or.inr (Or.inl ⟨(ro_a hb_2k (by decide) hb_2o hkx rfl), by decide⟩))) hI_29 (Or.inr (Or.inl ⟨(ro_a hb_2k (by decide) hb_2o hkx rfl), by decide⟩))) hI_32 (Or.inl (ro_o hkx (by decide)))) ex_62)⟩ dX12_book_175
  have l_73 : ∀ (n_73 : Nat) (I_72 : Nat → Nat → Int32) (J_73 : Nat → Nat → Int64) (hU_74 : Iw L κ R ow I_72) (hF_75 : Fq L κ ow [1200, 1202, 1203, 1204, 1205, 1206, 1207, 1208, 1209, 1210, 1211, 1213, 1223, 1244, 1245, 83400, 83700, 83800, 86200, 86300] I I_72) (hG_76 : Fq L κ ow [1212] J J_73) (r_77 : Rg 0 1 a0) (v_78 : Int32) (rv_78 : Rg 0 40 v_78) (v_79 : Int32) (rv_79 : Rg 0 0 v_79) (v_80 : Int32) (rv_80 : Rg 0 40 v_80) (v_81 : Int32) (rv_81 : Rg 0 0 v_81) (q_82 : I_72 x 44 = v_80) (q_83 : I_72 x 7 = v_81) (hd_84 : Hd_ R x I I_72) (ga_85 : Ga_ R x I_72) (hm_86 : 40 < (v_78 : Int32).toInt + (n_73 : Int)), WG p l e { frames := 6, cells := 0, slots := 0, locals := 143 } s m ([.ref x, .int a0] : List Value).toArray below meth c 4 0 0 (MQ below (Qi_ D cy L κ ln R (fun r I2 J2 => Iw L κ R ow I2 ∧ Fq L κ ow [1200, 1202, 1203, 1204, 1205, 1206, 1207, 1208, 1209, 1210, 1211, 1213, 1223, 1244, 1245, 83400, 83700, 83800, 86200, 86300] I I2 ∧ Fq L κ ow [1212] J J2 ∧ Rg (-2147483648) 2147483647 r ∧ (Hd_ R x I I2))) ([.ref x, .int a0] : List Value).toArray s 0 0 (Al_ L)) D cy (Al_ L) s.heap L κ ln R I_72 J_73 73 [(0, .ref x), (1, .int a0), (2, .int v_78), (3, .int v_79)] [] := by
    intro n_73
    induction n_73 with
    | zero =>
      intro I_72 J_73 hU_74 hF_75 hG_76 r_77 v_78 rv_78 v_79 rv_79 v_80 rv_80 v_81 rv_81 q_82 q_83 hd_84 ga_85 hm_86
      exact ms_0 rv_78 hm_86
    | succ n_73 ih_73 =>
      intro I_72 J_73 hU_74 hF_75 hG_76 r_77 v_78 rv_78 v_79 rv_79 v_80 rv_80 v_81 rv_81 q_82 q_83 hd_84 ga_85 hm_86
      refine g_iload_n C 2 dX12_book_73 rfl rfl ?_
      refine g_aload_n C 0 dX12_book_74 rfl rfl ?_
      refine g_getI C K hLx hkx f_12_361 (v := v_80) q_82 dX12_book_75 ?_
      refine g_icmp_ge C (tgt := 103) dX12_book_78 (by decide) (fun h_87 => ?_) (fun h_87 => ?_)
      · skip
        refine g_lo (is := [0, 1, 2, 3]) (lo2 := [(0, .ref x), (1, .int a0), (2, .int v_78), (3, .int v_79)]) rfl ?_
        exact j_103 I_72 J_73 hU_74 hF_75 hG_76 (r_77) v_78 (rv_78) v_79 (rg_w rv_79 (by decide) (by decide)) v_80 (rv_80) v_81 (rv_81) q_82 q_83 hd_84 ga_85
      · skip
        have r_88 := lt_l (hi := 39) (nle h_87) rv_78 rv_80 (by decide)
        have r_89 := lt_r (lo := 1) (nle h_87) rv_78 rv_80 (by decide)
        refine g_iload_n C 3 dX12_book_81 rfl rfl ?_
        refine g_if_ne C (tgt := 103) dX12_book_82 (by decide) (fun h_90 => ?_) (fun h_90 => ?_)
        · skip
          exact ne_no (h_90) rv_79 rc_0
        · skip
          refine g_aload_n C 0 dX12_book_85 rfl rfl ?_
          refine g_iconst C (v := 4) dX12_book_86 (by decide) ?_
          refine g_iload_n C 2 dX12_book_87 rfl rfl ?_
          obtain ⟨x_91, hx_91, rx_91, tx_91⟩ := ex_mulT 0 156 rc_4 r_88 (by decide) (by decide) (by decide) (by decide) (by decide)
          refine g_imul C (v := x_91) dX12_book_88 hx_91 ?_
          refine g_callVI C K (c_X12_goBy W9 hLx hkx x_91 (rx_91) hU_74  ((md_m tx_91)) (fun rw hr => by rw [nx_m (k := 4) tx_91 r_88 (by decide)]; exact gm_ln W9 hU_74.2 hLx hkx hr (by rw [ix_n r_88 (by decide), q_82]; exact Int32.lt_iff_toInt_lt.mp (nle h_87)))) hLx hkx (by decide) rfl v_12_370 rfl ⟨rfl, rfl⟩ ⟨Nat.le_of_ble_eq_true rfl, Nat.le_of_ble_eq_true rfl⟩ (Nat.le_of_ble_eq_true rfl) ⟨Nat.le_of_ble_eq_true rfl, Nat.le_of_ble_eq_true rfl⟩ dX12_book_89 rfl (st := []) (fun x_92 I_93 J_94 h_95 => ?_)
          obtain ⟨hUI_93, hFI_93, hGJ_94, rx_92, ex_92⟩ := h_95
          have hF_96 := fq_tr hF_75 hFI_93 (by decide)
          have hG_97 := fq_tr hG_76 hGJ_94 (by decide)
          refine g_istore_n C dX12_book_92 rfl (by decide) (lo2 := [(3, .int x_92), (0, .ref x), (1, .int a0), (2, .int v_78)]) rfl ?_
          refine g_iload_n C 0 dX12_book_93 rfl rfl ?_
          refine g_if_ne C (tgt := 73) dX12_book_94 (by decide) (fun h_98 => ?_) (fun h_98 => ?_)
          · skip
            have n_99 : ¬ x_92 = 0 := h_98
            have r_100 := ne_lo (lo := 1) n_99 rx_92 rc_0 rfl (by decide)
            refine g_iload_n C 3 dX12_book_73 rfl rfl ?_
            refine g_aload_n C 1 dX12_book_74 rfl rfl ?_
            refine g_getI C K hLx hkx f_12_361 (v := v_80) (fq_at hFI_93 hLx hkx (by decide) (by decide) q_82) dX12_book_75 ?_
            refine g_icmp_ge C (tgt := 103) dX12_book_78 (by decide) (fun h_101 => ?_) (fun h_101 => ?_)
            · skip
              have r_102 := le_l (h_101) r_89 r_88
              have r_103 := le_r (h_101) r_89 r_88
              refine g_lo (is := [1, 2, 3, 0]) (lo2 := [(0, .ref x), (1, .int a0), (2, .int v_78), (3, .int x_92)]) rfl ?_
              exact j_103 I_93 J_94 hUI_93 hF_96 hG_97 (r_77) v_78 (rg_w r_103 (by decide) (by decide)) x_92 (rg_w r_100 (by decide) (by decide)) v_80 (rg_w r_102 (by decide) (by decide)) v_81 (rv_81) (fq_at hFI_93 hLx hkx (by decide) (by decide) q_82) (fq_at hFI_93 hLx hkx (by decide) (by decide) q_83) (hd_t hd_84 ex_92) (ga_mv W9 hLx hkx ga_85 ex_92 hFI_93 (by decide))
            · skip
              refine g_iload_n C 0 dX12_book_81 rfl rfl ?_
              refine g_if_ne C (tgt := 103) dX12_book_82 (by decide) (fun h_104 => ?_) (fun h_104 => ?_)
              · skip
                have n_105 : ¬ x_92 = 0 := h_104
                refine g_lo (is := [1, 2, 3, 0]) (lo2 := [(0, .ref x), (1, .int a0), (2, .int v_78), (3, .int x_92)]) rfl ?_
                exact j_103 I_93 J_94 hUI_93 hF_96 hG_97 (r_77) v_78 (rg_w r_88 (by decide) (by decide)) x_92 (rg_w r_100 (by decide) (by decide)) v_80 (rg_w r_89 (by decide) (by decide)) v_81 (rv_81) (fq_at hFI_93 hLx hkx (by decide) (by decide) q_82) (fq_at hFI_93 hLx hkx (by decide) (by decide) q_83) (hd_t hd_84 ex_92) (ga_mv W9 hLx hkx ga_85 ex_92 hFI_93 (by decide))
              · skip
                exact eq_no (h_104) r_100 rc_0 (by decide)
          · skip
            have r_106 := (⟨(rx_92).1, (eq_rg (h_98) rc_0).2⟩ : Rg 0 0 x_92)
            obtain ⟨x_107, hx_107, rx_107, tx_107⟩ := ex_add (y := 1) 1 40 r_88 rc_1 (by decide) (by decide) (by decide) (by decide)
            refine g_iinc C dX12_book_97 (k := 3) (v := x_107) rfl hx_107 (by decide) (lo2 := [(2, .int x_107), (3, .int x_92), (0, .ref x), (1, .int a0)]) rfl ?_
            refine g_goto C (tgt := 73) dX12_book_100 (by decide) ?_
            refine g_lo (is := [2, 3, 0, 1]) (lo2 := [(0, .ref x), (1, .int a0), (2, .int x_107), (3, .int x_92)]) rfl ?_
            exact ih_73 I_93 J_94 hUI_93 hF_96 hG_97 (r_77) x_107 (rg_w rx_107 (by decide) (by decide)) x_92 (r_106) v_80 (rg_w r_89 (by decide) (by decide)) v_81 (rv_81) (fq_at hFI_93 hLx hkx (by decide) (by decide) q_82) (fq_at hFI_93 hLx hkx (by decide) (by decide) q_83) (hd_t hd_84 ex_92) (ga_mv W9 hLx hkx ga_85 ex_92 hFI_93 (by decide)) (ms_1 hm_86 (ti_k tx_107 rc_1) (by decide))
  have l_30 : ∀ (n_30 : Nat) (I_108 : Nat → Nat → Int32) (J_109 : Nat → Nat → Int64) (hU_110 : Iw L κ R ow I_108) (hF_111 : Fq L κ ow [1200, 1202, 1203, 1204, 1205, 1206, 1207, 1208, 1209, 1210, 1211, 1213, 1223, 1244, 1245, 83400, 83700, 83800, 86200, 86300] I I_108) (hG_112 : Fq L κ ow [1212] J J_109) (r_113 : Rg 0 1 a0) (v_114 : Int32) (rv_114 : Rg 0 40 v_114) (q_115 : I_108 x 44 = v_114) (hd_116 : Hd_ R x I I_108) (hm_117 : 40 < (v_114 : Int32).toInt + (n_30 : Int)), WG p l e { frames := 6, cells := 0, slots := 0, locals := 143 } s m ([.ref x, .int a0] : List Value).toArray below meth c 4 0 0 (MQ below (Qi_ D cy L κ ln R (fun r I2 J2 => Iw L κ R ow I2 ∧ Fq L κ ow [1200, 1202, 1203, 1204, 1205, 1206, 1207, 1208, 1209, 1210, 1211, 1213, 1223, 1244, 1245, 83400, 83700, 83800, 86200, 86300] I I2 ∧ Fq L κ ow [1212] J J2 ∧ Rg (-2147483648) 2147483647 r ∧ (Hd_ R x I I2))) ([.ref x, .int a0] : List Value).toArray s 0 0 (Al_ L)) D cy (Al_ L) s.heap L κ ln R I_108 J_109 30 [(0, .ref x), (1, .int a0)] [] := by
    intro n_30
    induction n_30 with
    | zero =>
      intro I_108 J_109 hU_110 hF_111 hG_112 r_113 v_114 rv_114 q_115 hd_116 hm_117
      exact ms_0 rv_114 hm_117
    | succ n_30 ih_30 =>
      intro I_108 J_109 hU_110 hF_111 hG_112 r_113 v_114 rv_114 q_115 hd_116 hm_117
      refine g_aload_n C 0 dX12_book_30 rfl rfl ?_
      obtain ⟨x_118, hx_118, rx_118⟩ := ex_getw (I := I_108) (a := x) (j := 7) (lo := 0) (hi := 4) hU_110.1 hLx (ro_o hkx (by decide)) rfl
      refine g_getI C K hLx hkx f_12_104 (v := x_118) hx_118 dX12_book_31 ?_
      refine g_if_eq C (tgt := 65) dX12_book_34 (by decide) (fun h_119 => ?_) (fun h_119 => ?_)
      · skip
        have r_120 := (⟨(rx_118).1, (eq_rg (h_119) rc_0).2⟩ : Rg 0 0 x_118)
        refine g_aload_n C 0 dX12_book_65 rfl rfl ?_
        refine g_callVV C K (c_X12_layAside W9 hLx hkx   hU_110) hLx hkx (by decide) rfl v_12_329 rfl ⟨rfl, rfl⟩ ⟨Nat.le_of_ble_eq_true rfl, Nat.le_of_ble_eq_true rfl⟩ (Nat.le_of_ble_eq_true rfl) ⟨Nat.le_of_ble_eq_true rfl, Nat.le_of_ble_eq_true rfl⟩ dX12_book_66 rfl (st := []) (fun I_122 J_123 h_124 => ?_)
        obtain ⟨hUI_122, hFI_122, hGJ_123, ex_121⟩ := h_124
        have hF_125 := fq_tr hF_111 hFI_122 (by decide)
        have hG_126 := fq_tr hG_112 hGJ_123 (by decide)
        refine g_iconst C (v := 0) dX12_book_69 (by decide) ?_
        refine g_istore_n C dX12_book_70 rfl (by decide) (lo2 := [(2, .int 0), (0, .ref x), (1, .int a0)]) rfl ?_
        refine g_iconst C (v := 0) dX12_book_71 (by decide) ?_
        refine g_istore_n C dX12_book_72 rfl (by decide) (lo2 := [(3, .int 0), (2, .int 0), (0, .ref x), (1, .int a0)]) rfl ?_
        refine g_lo (is := [2, 3, 1, 0]) (lo2 := [(0, .ref x), (1, .int a0), (2, .int 0), (3, .int 0)]) rfl ?_
        exact l_73 41 I_122 J_123 hUI_122 hF_125 hG_126 (r_113) 0 (rg_w rc_0 (by decide) (by decide)) 0 (rc_0) v_114 (rv_114) x_118 (r_120) (fq_at hFI_122 hLx hkx (by decide) (by decide) q_115) (fq_at hFI_122 hLx hkx (by decide) (by decide) hx_118) (hd_t hd_116 ex_121.1) ex_121.2 (ms_s (a := 0) (b := 40) (N := 41) (rg_w rc_0 (by decide) (by decide)) (by decide))
      · skip
        have n_127 : ¬ x_118 = 0 := h_119
        have r_128 := ne_lo (lo := 1) n_127 rx_118 rc_0 rfl (by decide)
        refine g_aload_n C 0 dX12_book_37 rfl rfl ?_
        refine g_callVI C K (c_X12_readBookLine W9 hLx hkx   hU_110) hLx hkx (by decide) rfl v_12_367 rfl ⟨rfl, rfl⟩ ⟨Nat.le_of_ble_eq_true rfl, Nat.le_of_ble_eq_true rfl⟩ (Nat.le_of_ble_eq_true rfl) ⟨Nat.le_of_ble_eq_true rfl, Nat.le_of_ble_eq_true rfl⟩ dX12_book_38 rfl (st := []) (fun x_129 I_130 J_131 h_132 => ?_)
        obtain ⟨hUI_130, hFI_130, hGJ_131, rx_129, ex_129⟩ := h_132
        have hF_133 := fq_tr hF_111 hFI_130 (by decide)
        have hG_134 := fq_tr hG_112 hGJ_131 (by decide)
        have q_135 := (fq_at hFI_130 hLx hkx (by decide) (by decide) q_115)
        refine g_if_ne C (tgt := 52) dX12_book_41 (by decide) (fun h_136 => ?_) (fun h_136 => ?_)
        · skip
          have n_137 : ¬ x_129 = 0 := h_136
          have r_138 := ne_lo (lo := 1) n_137 rx_129 rc_0 rfl (by decide)
          have r_139 := rg_i rv_114 (eq_rg q_135.symm ((ex_129.2) n_137)) (lo := 0) (hi := 39) (by decide) (by decide)
          refine g_aload_n C 0 dX12_book_52 rfl rfl ?_
          refine g_dup C dX12_book_53 rfl ?_
          refine g_getI C K hLx hkx f_12_361 (v := v_114) (fq_at hFI_130 hLx hkx (by decide) (by decide) q_115) dX12_book_54 ?_
          refine g_iconst C (v := 1) dX12_book_57 (by decide) ?_
          obtain ⟨x_140, hx_140, rx_140, tx_140⟩ := ex_add 1 40 r_139 rc_1 (by decide) (by decide) (by decide) (by decide)
          refine g_iadd C (v := x_140) dX12_book_58 hx_140 ?_
          refine h_putI C K hLx hkx f_12_361 p_12_44 dX12_book_59 (fun I_141 hI_141 => ?_)
          have hU_142 := iw_ln W9 hUI_130 (uw_put hUI_130.1 hI_141 (ro_o hkx (by decide)) (lo := 0) (hi := 40) (rfl) (rg_w rx_140 (by decide) (by decide))) hLx hkx hb_3 hI_141 (fun j hj => by by_cases q : (j : Int) < (I_130 x 44).toInt; exact Or.inl q; refine Or.inr ?_; have q0 := ex_129.1 (rg_nz r_138 (by decide)) _ hb_3; have q1 := (ti_k tx_140 rc_1); have q2 := (fq_at hFI_130 hLx hkx (by decide) (by decide) q_115); rw [q2] at q q0; have q3 := ix_n (r_139) (by decide); rw [show j = v_114.toNatClampNeg from by omega]; exact q0)
          have hF_143 := fq_puto hF_133 hI_141 hkx (by decide) (by decide)
          refine g_goto C (tgt := 30) dX12_book_62 (by decide) ?_
          refine g_lo (is := [0, 1]) (lo2 := [(0, .ref x), (1, .int a0)]) rfl ?_
          exact ih_30 I_141 J_131 hU_142 hF_143 hG_134 (r_113) x_140 (rg_w rx_140 (by decide) (by decide)) (kp_s hI_141) (hd_u (r := 0) W9 hLx hkx (hd_fq W9 hLx hkx hd_116 hFI_130 (by decide)) hI_141 (Or.inl (ro_o hkx (by decide)))) (ms_1 hm_117 (ti_k tx_140 rc_1) (by decide))
        · skip
          have r_144 := (⟨(rx_129).1, (eq_rg (h_136) rc_0).2⟩ : Rg 0 0 x_129)
          refine g_bipush C (v := (-2)) dX12_book_44 (by decide) ?_
          refine g_aload_n C 0 dX12_book_46 rfl rfl ?_
          obtain ⟨x_145, hx_145, rx_145⟩ := ex_getw (I := I_130) (a := x) (j := 11) (lo := (-2147483648)) (hi := 2147483647) hUI_130.1 hLx (ro_o hkx (by decide)) rfl
          refine g_getI C K hLx hkx f_12_143 (v := x_145) hx_145 dX12_book_47 ?_
          obtain ⟨x_146, hx_146, rx_146⟩ := ex_any (z0 := (-2) - x_145)
          refine g_isub C (v := x_146) dX12_book_50 hx_146 ?_
          exact g_zret (ty := .int) (r := x_146) B K rfl (rfl) ⟨hUI_130, hF_133, hG_134, rx_146, (hd_fq W9 hLx hkx hd_116 hFI_130 (by decide))⟩ dX12_book_51
  refine g_aload_n C 0 dX12_book_0 rfl rfl ?_
  refine g_iconst C (v := 0) dX12_book_1 (by decide) ?_
  refine h_putI C K hLx hkx f_12_82 p_12_0 dX12_book_2 (fun I_147 hI_147 => ?_)
  have hU_148 := iw_put W9 hU hI_147 (ro_o hkx (by decide)) (lo := (-2147483648)) (hi := 2147483647) (rfl) (rg_all _) rfl
  have hF_149 := fq_puto hF hI_147 hkx (by decide) (by decide)
  refine g_iload_n C 1 dX12_book_5 rfl rfl ?_
  refine g_iconst C (v := 0) dX12_book_6 (by decide) ?_
  refine g_iconst C (v := 1) dX12_book_7 (by decide) ?_
  refine g_callSI C K (c_X12_isIn W9 a0 0 1 (rg_w rc_0 (by decide) (by decide)) (rg_w rc_1 (by decide) (by decide)) hU_148) s_12_149 rfl ⟨rfl, rfl⟩ ⟨Nat.le_of_ble_eq_true rfl, Nat.le_of_ble_eq_true rfl⟩ (Nat.le_of_ble_eq_true rfl) ⟨Nat.le_of_ble_eq_true rfl, Nat.le_of_ble_eq_true rfl⟩ dX12_book_8 rfl (st := []) (fun x_150 I_151 J_152 h_153 => ?_)
  obtain ⟨rfl, rfl, rx_150, fx_150, ex_150⟩ := h_153
  refine g_if_ne C (tgt := 18) dX12_book_11 (by decide) (fun h_154 => ?_) (fun h_154 => ?_)
  · skip
    have n_155 : ¬ x_150 = 0 := h_154
    have r_156 := ne_lo (lo := 1) n_155 rx_150 rc_0 rfl (by decide)
    have r_157 := le_r (((ex_150.1) n_155)) rc_0 (rg_all a0)
    have r_158 := le_l (((ex_150.2) n_155)) r_157 rc_1
    refine g_aload_n C 0 dX12_book_18 rfl rfl ?_
    refine g_sipush C (v := 400) dX12_book_19 (by decide) ?_
    refine g_callVV C K (c_X12_begin W9 hLx hkx 400 (rg_w rc_400 (by decide) (by decide)) hU_148) hLx hkx (by decide) rfl v_12_216 rfl ⟨rfl, rfl⟩ ⟨Nat.le_of_ble_eq_true rfl, Nat.le_of_ble_eq_true rfl⟩ (Nat.le_of_ble_eq_true rfl) ⟨Nat.le_of_ble_eq_true rfl, Nat.le_of_ble_eq_true rfl⟩ dX12_book_22 rfl (st := []) (fun I_160 J_161 h_162 => ?_)
    obtain ⟨hUI_160, hFI_160, hGJ_161, fx_159⟩ := h_162
    have hF_163 := fq_tr hF_149 hFI_160 (by decide)
    have hG_164 := fq_tr hG hGJ_161 (by decide)
    refine g_aload_n C 0 dX12_book_25 rfl rfl ?_
    refine g_iconst C (v := 0) dX12_book_26 (by decide) ?_
    refine h_putI C K hLx hkx f_12_361 p_12_44 dX12_book_27 (fun I_165 hI_165 => ?_)
    have hU_166 := iw_ln W9 hUI_160 (uw_put hUI_160.1 hI_165 (ro_o hkx (by decide)) (lo := 0) (hi := 40) (rfl) (rg_w rc_0 (by decide) (by decide))) hLx hkx hb_3 hI_165 (fun j hj => by rw [show (0 : Int32).toInt = 0 from by decide] at hj; omega)
    have hF_167 := fq_puto hF_163 hI_165 hkx (by decide) (by decide)
    refine g_lo (is := [0, 1]) (lo2 := [(0, .ref x), (1, .int a0)]) rfl ?_
    exact l_30 41 I_165 J_161 hU_166 hF_167 hG_164 (r_158) 0 (rg_w rc_0 (by decide) (by decide)) (kp_s hI_165) (hd_u (r := 0) W9 hLx hkx (hd_fq W9 hLx hkx (hd_u (r := 0) W9 hLx hkx hd_rf hI_147 (Or.inl (ro_o hkx (by decide)))) hFI_160 (by decide)) hI_165 (Or.inl (ro_o hkx (by decide)))) (ms_s (a := 0) (b := 40) (N := 41) (rg_w rc_0 (by decide) (by decide)) (by decide))
  · skip
    have r_168 := (⟨(rx_150).1, (eq_rg (h_154) rc_0).2⟩ : Rg 0 0 x_150)
    refine g_sipush C (v := (-1000)) dX12_book_14 (by decide) ?_
    exact g_zret (ty := .int) (r := (-1000)) B K rfl (rfl) ⟨hU_148, hF_149, hG, rg_all _, (hd_u (r := 0) W9 hLx hkx hd_rf hI_147 (Or.inl (ro_o hkx (by decide))))⟩ dX12_book_17
set_option maxRecDepth 100000 in
set_option maxHeartbeats 8000000 in
theorem c_X12_told {l : Launch} {D : va_G} {cy : Nat → ClassId} {L : List Nat} {κ ln : Nat → Nat} {R : Nat → Nat → Option Nat} {I : Nat → Nat → Int32} {J : Nat → Nat → Int64} {ow : Nat → Nat × Nat} (W9 : ∀ a ∈ L, Shp L κ ln R ow a) {x : Nat} (hLx : x ∈ L) (hkx : κ x = 12) (a0 : Int32) (hU : Iw L κ R ow I) : CtI l yX12_told cX12_told 2 (some .int) { frames := 1, cells := 0, slots := 0, locals := 22 } D cy L κ ln R I J [.ref x, .int a0] (fun r I2 J2 => Iw L κ R ow I2 ∧ Fq L κ ow [1200] I I2 ∧ Fq L κ ow [] J J2 ∧ Rg (-2147483648) 2147483647 r) := by
  refine CtI.of (by decide +kernel) (Nat.le_of_ble_eq_true rfl) ?_
  intro p e s m below meth c B K
  have C := B.1
  have hF : Fq L κ ow [1200] I I := fq_rf
  have hG : Fq L κ ow [] J J := fq_rf
  obtain ⟨b_1, hb_1, hb_1L, hb_1k, hb_1n, hb_1o⟩ := shp_a (W9 x hLx) hkx 43 14 4 rfl (by decide)
  refine g_lo (is := [0, 1]) (lo2 := [(0, .ref x), (1, .int a0)]) rfl ?_
  refine g_aload_n C 0 dX12_told_0 rfl rfl ?_
  refine g_iconst C (v := 0) dX12_told_1 (by decide) ?_
  refine h_putI C K hLx hkx f_12_82 p_12_0 dX12_told_2 (fun I_2 hI_2 => ?_)
  have hU_3 := iw_put W9 hU hI_2 (ro_o hkx (by decide)) (lo := (-2147483648)) (hi := 2147483647) (rfl) (rg_all _) rfl
  have hF_4 := fq_puto hF hI_2 hkx (by decide) (by decide)
  refine g_aload_n C 0 dX12_told_5 rfl rfl ?_
  obtain ⟨x_5, hx_5, rx_5⟩ := ex_getw (I := I_2) (a := x) (j := 45) (lo := 0) (hi := 1) hU_3.1 hLx (ro_o hkx (by decide)) rfl
  refine g_getI C K hLx hkx f_12_373 (v := x_5) hx_5 dX12_told_6 ?_
  refine g_if_eq C (tgt := 30) dX12_told_9 (by decide) (fun h_6 => ?_) (fun h_6 => ?_)
  · skip
    have r_7 := (⟨(rx_5).1, (eq_rg (h_6) rc_0).2⟩ : Rg 0 0 x_5)
    refine g_iconst C (v := (-1)) dX12_told_30 (by decide) ?_
    exact g_zret (ty := .int) (r := (-1)) B K rfl (rfl) ⟨hU_3, hF_4, hG, rg_all _⟩ dX12_told_31
  · skip
    have n_8 : ¬ x_5 = 0 := h_6
    have r_9 := ne_lo (lo := 1) n_8 rx_5 rc_0 rfl (by decide)
    refine g_iload_n C 1 dX12_told_12 rfl rfl ?_
    refine g_iconst C (v := 0) dX12_told_13 (by decide) ?_
    refine g_iconst C (v := 3) dX12_told_14 (by decide) ?_
    refine g_callSI C K (c_X12_isIn W9 a0 0 3 (rg_w rc_0 (by decide) (by decide)) (rg_w rc_3 (by decide) (by decide)) hU_3) s_12_149 rfl ⟨rfl, rfl⟩ ⟨Nat.le_of_ble_eq_true rfl, Nat.le_of_ble_eq_true rfl⟩ (Nat.le_of_ble_eq_true rfl) ⟨Nat.le_of_ble_eq_true rfl, Nat.le_of_ble_eq_true rfl⟩ dX12_told_15 rfl (st := []) (fun x_10 I_11 J_12 h_13 => ?_)
    obtain ⟨rfl, rfl, rx_10, fx_10, ex_10⟩ := h_13
    refine g_if_eq C (tgt := 30) dX12_told_18 (by decide) (fun h_14 => ?_) (fun h_14 => ?_)
    · skip
      have r_15 := (⟨(rx_10).1, (eq_rg (h_14) rc_0).2⟩ : Rg 0 0 x_10)
      refine g_iconst C (v := (-1)) dX12_told_30 (by decide) ?_
      exact g_zret (ty := .int) (r := (-1)) B K rfl (rfl) ⟨hU_3, hF_4, hG, rg_all _⟩ dX12_told_31
    · skip
      have n_16 : ¬ x_10 = 0 := h_14
      have r_17 := ne_lo (lo := 1) n_16 rx_10 rc_0 rfl (by decide)
      have r_18 := le_r (((ex_10.1) n_16)) rc_0 (rg_all a0)
      have r_19 := le_l (((ex_10.2) n_16)) r_18 rc_3
      refine g_aload_n C 0 dX12_told_21 rfl rfl ?_
      refine g_getR C K hLx hkx f_12_76 hb_1 dX12_told_22 ?_
      refine g_iload_n C 1 dX12_told_25 rfl rfl ?_
      obtain ⟨x_20, hx_20, rx_20⟩ := ex_any (z0 := I_2 b_1 (a0.toNatClampNeg))
      refine h_iald C K hb_1L hb_1k (v := x_20) (a0.toNatClampNeg) (rfl) (ix_0 r_19 (by decide)) (ix_lt r_19 (by decide) hb_1n (by decide)) hx_20 dX12_told_26 ?_
      refine g_goto C (tgt := 31) dX12_told_27 (by decide) ?_
      exact g_zret (ty := .int) (r := x_20) B K rfl (rfl) ⟨hU_3, hF_4, hG, rx_20⟩ dX12_told_31
set_option maxRecDepth 100000 in
set_option maxHeartbeats 8000000 in
theorem c_X12_readSaid_8 {l : Launch} {D : va_G} {cy : Nat → ClassId} {L : List Nat} {κ ln : Nat → Nat} {R : Nat → Nat → Option Nat} {I : Nat → Nat → Int32} {J : Nat → Nat → Int64} {ow : Nat → Nat × Nat} (W9 : ∀ a ∈ L, Shp L κ ln R ow a) {x : Nat} (hLx : x ∈ L) (hkx : κ x = 12) (hU : Iw L κ R ow I) (hn : (I x 47).toInt ≤ 2 * (I x 48).toInt) (hwi : I x 49 = 8) : CtI l yX12_readSaid cX12_readSaid 4 (some .boolean) { frames := 3, cells := 0, slots := 0, locals := 69 } D cy L κ ln R I J [.ref x] (fun r I2 J2 => Iw L κ R ow I2 ∧ Fq L κ ow [1210, 1211] I I2 ∧ Fq L κ ow [] J J2 ∧ Rg 0 0 r ∧ (¬ r = 0 → Sz_ x I I2 1) ∧ (I2 x 49 = 8)) := by
  obtain ⟨x_1, hx_1, rx_1⟩ := ex_getw (I := I) (a := x) (j := 47) (lo := 0) (hi := 60) hU.1 hLx (ro_o hkx (by decide)) rfl
  obtain ⟨x_2, hx_2, rx_2⟩ := ex_getw (I := I) (a := x) (j := 48) (lo := 0) (hi := 20) hU.1 hLx (ro_o hkx (by decide)) rfl
  rw [hx_1, hx_2] at hn
  obtain ⟨x_3, hx_3, rx_3⟩ := ex_getw (I := I) (a := x) (j := 50) (lo := 0) (hi := 59) hU.1 hLx (ro_o hkx (by decide)) rfl
  refine CtI.of (by decide +kernel) (Nat.le_of_ble_eq_true rfl) ?_
  intro p e s m below meth c B K
  have C := B.1
  have hF : Fq L κ ow [1210, 1211] I I := fq_rf
  have hG : Fq L κ ow [] J J := fq_rf
  refine g_lo (is := [0]) (lo2 := [(0, .ref x)]) rfl ?_
  have j_64 : ∀ (I_4 : Nat → Nat → Int32) (J_5 : Nat → Nat → Int64) (hU_6 : Iw L κ R ow I_4) (hF_7 : Fq L κ ow [1210, 1211] I I_4) (hG_8 : Fq L κ ow [] J J_5) (v_9 : Int32) (rv_9 : Rg 0 1 v_9) (v_10 : Int32) (rv_10 : Rg 18 28 v_10) (v_11 : Int32) (rv_11 : Rg 0 60 v_11) (v_12 : Int32) (rv_12 : Rg 0 20 v_12) (v_13 : Int32) (rv_13 : Rg 0 59 v_13) (v_14 : Int32) (rv_14 : Rg 0 4 v_14) (q_15 : I_4 x 47 = v_11) (q_16 : I_4 x 48 = v_12) (q_17 : I_4 x 49 = 8) (q_18 : I_4 x 50 = v_13) (q_19 : I_4 x 7 = v_14) (hj_20 : v_11.toInt = x_1.toInt ∧ v_12.toInt = x_2.toInt), WG p l e { frames := 3, cells := 0, slots := 0, locals := 69 } s m ([.ref x] : List Value).toArray below meth c 4 0 0 (MQ below (Qi_ D cy L κ ln R (fun r I2 J2 => Iw L κ R ow I2 ∧ Fq L κ ow [1210, 1211] I I2 ∧ Fq L κ ow [] J J2 ∧ Rg 0 0 r ∧ (¬ r = 0 → Sz_ x I I2 1) ∧ (I2 x 49 = 8))) ([.ref x] : List Value).toArray s 0 0 (Al_ L)) D cy (Al_ L) s.heap L κ ln R I_4 J_5 64 [(0, .ref x), (1, .int v_9), (2, .int v_10)] [] := by
    intro I_4 J_5 hU_6 hF_7 hG_8 v_9 rv_9 v_10 rv_10 v_11 rv_11 v_12 rv_12 v_13 rv_13 v_14 rv_14 q_15 q_16 q_17 q_18 q_19 hj_20
    refine g_aload_n C 0 dX12_readSaid_64 rfl rfl ?_
    refine g_iconst C (v := 4) dX12_readSaid_65 (by decide) ?_
    refine g_callVI C K (c_X12_bad W9 hLx hkx 4 (rg_w rc_4 (by decide) (by decide)) hU_6) hLx hkx (by decide) rfl v_12_146 rfl ⟨rfl, rfl⟩ ⟨Nat.le_of_ble_eq_true rfl, Nat.le_of_ble_eq_true rfl⟩ (Nat.le_of_ble_eq_true rfl) ⟨Nat.le_of_ble_eq_true rfl, Nat.le_of_ble_eq_true rfl⟩ dX12_readSaid_66 rfl (st := []) (fun x_21 I_22 J_23 h_24 => ?_)
    obtain ⟨hUI_22, hFI_22, hGJ_23, rx_21, fx_21⟩ := h_24
    have hF_25 := fq_tr hF_7 hFI_22 (by decide)
    have hG_26 := fq_tr hG_8 hGJ_23 (by decide)
    exact g_zret (ty := .boolean) (r := x_21) B K rfl (nar_z (rg_w rx_21 (by decide) (by decide))) ⟨hUI_22, hF_25, hG_26, rx_21, (fun q => ne_no q rx_21 rc_0), (fq_at hFI_22 hLx hkx (by decide) (by decide) q_17)⟩ dX12_readSaid_69
  have j_46 : ∀ (I_27 : Nat → Nat → Int32) (J_28 : Nat → Nat → Int64) (hU_29 : Iw L κ R ow I_27) (hF_30 : Fq L κ ow [1210, 1211] I I_27) (hG_31 : Fq L κ ow [] J J_28) (v_32 : Int32) (rv_32 : Rg 0 1 v_32) (v_33 : Int32) (rv_33 : Rg 18 28 v_33) (v_34 : Int32) (rv_34 : Rg 0 60 v_34) (v_35 : Int32) (rv_35 : Rg 0 20 v_35) (v_36 : Int32) (rv_36 : Rg 0 59 v_36) (v_37 : Int32) (rv_37 : Rg 0 4 v_37) (q_38 : I_27 x 47 = v_34) (q_39 : I_27 x 48 = v_35) (q_40 : I_27 x 49 = 8) (q_41 : I_27 x 50 = v_36) (q_42 : I_27 x 7 = v_37) (hj_43 : v_34.toInt = x_1.toInt ∧ v_35.toInt = x_2.toInt), WG p l e { frames := 3, cells := 0, slots := 0, locals := 69 } s m ([.ref x] : List Value).toArray below meth c 4 0 0 (MQ below (Qi_ D cy L κ ln R (fun r I2 J2 => Iw L κ R ow I2 ∧ Fq L κ ow [1210, 1211] I I2 ∧ Fq L κ ow [] J J2 ∧ Rg 0 0 r ∧ (¬ r = 0 → Sz_ x I I2 1) ∧ (I2 x 49 = 8))) ([.ref x] : List Value).toArray s 0 0 (Al_ L)) D cy (Al_ L) s.heap L κ ln R I_27 J_28 46 [(0, .ref x), (1, .int v_32), (2, .int v_33)] [] := by
    intro I_27 J_28 hU_29 hF_30 hG_31 v_32 rv_32 v_33 rv_33 v_34 rv_34 v_35 rv_35 v_36 rv_36 v_37 rv_37 q_38 q_39 q_40 q_41 q_42 hj_43
    refine g_aload_n C 0 dX12_readSaid_46 rfl rfl ?_
    refine g_getI C K hLx hkx f_12_395 (v := v_35) q_39 dX12_readSaid_47 ?_
    refine g_bipush C (v := 20) dX12_readSaid_50 (by decide) ?_
    refine g_icmp_eq C (tgt := 64) dX12_readSaid_52 (by decide) (fun h_44 => ?_) (fun h_44 => ?_)
    · skip
      have r_45 := (⟨(eq_rg (h_44) rc_20).1, (rv_35).2⟩ : Rg 20 20 v_35)
      refine g_lo (is := [0, 1, 2]) (lo2 := [(0, .ref x), (1, .int v_32), (2, .int v_33)]) rfl ?_
      exact j_64 I_27 J_28 hU_29 hF_30 hG_31 v_32 (rv_32) v_33 (rv_33) v_34 (rv_34) v_35 (rg_w r_45 (by decide) (by decide)) v_36 (rv_36) v_37 (rv_37) q_38 q_39 q_40 q_41 q_42 ⟨by omega, by omega⟩
    · skip
      have n_46 : ¬ v_35 = 20 := h_44
      have r_47 := ne_hi (hi := 19) n_46 rv_35 rc_20 rfl (by decide)
      refine g_aload_n C 0 dX12_readSaid_55 rfl rfl ?_
      refine g_getI C K hLx hkx f_12_398 (v := 8) q_40 dX12_readSaid_56 ?_
      refine g_bipush C (v := 8) dX12_readSaid_59 (by decide) ?_
      refine g_icmp_ne C (tgt := 70) dX12_readSaid_61 (by decide) (fun h_48 => ?_) (fun h_48 => ?_)
      · skip
        exact absurd (h_48) (by decide)
      · skip
        refine g_lo (is := [0, 1, 2]) (lo2 := [(0, .ref x), (1, .int v_32), (2, .int v_33)]) rfl ?_
        exact j_64 I_27 J_28 hU_29 hF_30 hG_31 v_32 (rv_32) v_33 (rv_33) v_34 (rv_34) v_35 (rg_w r_47 (by decide) (by decide)) v_36 (rv_36) v_37 (rv_37) q_38 q_39 q_40 q_41 q_42 ⟨by omega, by omega⟩
  have j_30 : ∀ (I_49 : Nat → Nat → Int32) (J_50 : Nat → Nat → Int64) (hU_51 : Iw L κ R ow I_49) (hF_52 : Fq L κ ow [1210, 1211] I I_49) (hG_53 : Fq L κ ow [] J J_50) (v_54 : Int32) (rv_54 : Rg 0 1 v_54) (v_55 : Int32) (rv_55 : Rg 18 28 v_55) (v_56 : Int32) (rv_56 : Rg 0 60 v_56) (v_57 : Int32) (rv_57 : Rg 0 20 v_57) (v_58 : Int32) (rv_58 : Rg 0 59 v_58) (v_59 : Int32) (rv_59 : Rg 0 4 v_59) (q_60 : I_49 x 47 = v_56) (q_61 : I_49 x 48 = v_57) (q_62 : I_49 x 49 = 8) (q_63 : I_49 x 50 = v_58) (q_64 : I_49 x 7 = v_59) (hj_65 : v_56.toInt = x_1.toInt ∧ v_57.toInt = x_2.toInt), WG p l e { frames := 3, cells := 0, slots := 0, locals := 69 } s m ([.ref x] : List Value).toArray below meth c 4 0 0 (MQ below (Qi_ D cy L κ ln R (fun r I2 J2 => Iw L κ R ow I2 ∧ Fq L κ ow [1210, 1211] I I2 ∧ Fq L κ ow [] J J2 ∧ Rg 0 0 r ∧ (¬ r = 0 → Sz_ x I I2 1) ∧ (I2 x 49 = 8))) ([.ref x] : List Value).toArray s 0 0 (Al_ L)) D cy (Al_ L) s.heap L κ ln R I_49 J_50 30 [(0, .ref x), (1, .int v_54), (2, .int v_55)] [] := by
    intro I_49 J_50 hU_51 hF_52 hG_53 v_54 rv_54 v_55 rv_55 v_56 rv_56 v_57 rv_57 v_58 rv_58 v_59 rv_59 q_60 q_61 q_62 q_63 q_64 hj_65
    refine g_iload_n C 1 dX12_readSaid_30 rfl rfl ?_
    refine g_if_ne C (tgt := 46) dX12_readSaid_31 (by decide) (fun h_66 => ?_) (fun h_66 => ?_)
    · skip
      have n_67 : ¬ v_54 = 0 := h_66
      have r_68 := ne_lo (lo := 1) n_67 rv_54 rc_0 rfl (by decide)
      refine g_lo (is := [0, 1, 2]) (lo2 := [(0, .ref x), (1, .int v_54), (2, .int v_55)]) rfl ?_
      exact j_46 I_49 J_50 hU_51 hF_52 hG_53 v_54 (rg_w r_68 (by decide) (by decide)) v_55 (rv_55) v_56 (rv_56) v_57 (rv_57) v_58 (rv_58) v_59 (rv_59) q_60 q_61 q_62 q_63 q_64 ⟨by omega, by omega⟩
    · skip
      have r_69 := (⟨(rv_54).1, (eq_rg (h_66) rc_0).2⟩ : Rg 0 0 v_54)
      refine g_iload_n C 2 dX12_readSaid_34 rfl rfl ?_
      refine g_bipush C (v := 27) dX12_readSaid_35 (by decide) ?_
      refine g_icmp_le C (tgt := 46) dX12_readSaid_37 (by decide) (fun h_70 => ?_) (fun h_70 => ?_)
      · skip
        have r_71 := le_l (h_70) rv_55 rc_27
        refine g_lo (is := [0, 1, 2]) (lo2 := [(0, .ref x), (1, .int v_54), (2, .int v_55)]) rfl ?_
        exact j_46 I_49 J_50 hU_51 hF_52 hG_53 v_54 (rg_w r_69 (by decide) (by decide)) v_55 (rg_w r_71 (by decide) (by decide)) v_56 (rv_56) v_57 (rv_57) v_58 (rv_58) v_59 (rv_59) q_60 q_61 q_62 q_63 q_64 ⟨by omega, by omega⟩
      · skip
        have r_72 := lt_r (lo := 28) (nle h_70) rc_27 rv_55 (by decide)
        refine g_aload_n C 0 dX12_readSaid_40 rfl rfl ?_
        refine g_iconst C (v := 1) dX12_readSaid_41 (by decide) ?_
        refine g_callVI C K (c_X12_bad W9 hLx hkx 1 (rg_w rc_1 (by decide) (by decide)) hU_51) hLx hkx (by decide) rfl v_12_146 rfl ⟨rfl, rfl⟩ ⟨Nat.le_of_ble_eq_true rfl, Nat.le_of_ble_eq_true rfl⟩ (Nat.le_of_ble_eq_true rfl) ⟨Nat.le_of_ble_eq_true rfl, Nat.le_of_ble_eq_true rfl⟩ dX12_readSaid_42 rfl (st := []) (fun x_73 I_74 J_75 h_76 => ?_)
        obtain ⟨hUI_74, hFI_74, hGJ_75, rx_73, fx_73⟩ := h_76
        have hF_77 := fq_tr hF_52 hFI_74 (by decide)
        have hG_78 := fq_tr hG_53 hGJ_75 (by decide)
        exact g_zret (ty := .boolean) (r := x_73) B K rfl (nar_z (rg_w rx_73 (by decide) (by decide))) ⟨hUI_74, hF_77, hG_78, rx_73, (fun q => ne_no q rx_73 rc_0), (fq_at hFI_74 hLx hkx (by decide) (by decide) q_62)⟩ dX12_readSaid_45
  have l_10 : ∀ (n_10 : Nat) (I_79 : Nat → Nat → Int32) (J_80 : Nat → Nat → Int64) (hU_81 : Iw L κ R ow I_79) (hF_82 : Fq L κ ow [1210, 1211] I I_79) (hG_83 : Fq L κ ow [] J J_80) (v_84 : Int32) (rv_84 : Rg 0 1 v_84) (v_85 : Int32) (rv_85 : Rg 18 28 v_85) (v_86 : Int32) (rv_86 : Rg 0 60 v_86) (v_87 : Int32) (rv_87 : Rg 0 20 v_87) (v_88 : Int32) (rv_88 : Rg 0 59 v_88) (v_89 : Int32) (rv_89 : Rg 0 4 v_89) (q_90 : I_79 x 47 = v_86) (q_91 : I_79 x 48 = v_87) (q_92 : I_79 x 49 = 8) (q_93 : I_79 x 50 = v_88) (q_94 : I_79 x 7 = v_89) (hj_95 : v_86.toInt = x_1.toInt ∧ v_87.toInt = x_2.toInt) (hm_96 : 28 < (v_85 : Int32).toInt + (n_10 : Int)), WG p l e { frames := 3, cells := 0, slots := 0, locals := 69 } s m ([.ref x] : List Value).toArray below meth c 4 0 0 (MQ below (Qi_ D cy L κ ln R (fun r I2 J2 => Iw L κ R ow I2 ∧ Fq L κ ow [1210, 1211] I I2 ∧ Fq L κ ow [] J J2 ∧ Rg 0 0 r ∧ (¬ r = 0 → Sz_ x I I2 1) ∧ (I2 x 49 = 8))) ([.ref x] : List Value).toArray s 0 0 (Al_ L)) D cy (Al_ L) s.heap L κ ln R I_79 J_80 10 [(0, .ref x), (1, .int v_84), (2, .int v_85)] [] := by
    intro n_10
    induction n_10 with
    | zero =>
      intro I_79 J_80 hU_81 hF_82 hG_83 v_84 rv_84 v_85 rv_85 v_86 rv_86 v_87 rv_87 v_88 rv_88 v_89 rv_89 q_90 q_91 q_92 q_93 q_94 hj_95 hm_96
      exact ms_0 rv_85 hm_96
    | succ n_10 ih_10 =>
      intro I_79 J_80 hU_81 hF_82 hG_83 v_84 rv_84 v_85 rv_85 v_86 rv_86 v_87 rv_87 v_88 rv_88 v_89 rv_89 q_90 q_91 q_92 q_93 q_94 hj_95 hm_96
      refine g_iload_n C 2 dX12_readSaid_10 rfl rfl ?_
      refine g_bipush C (v := 27) dX12_readSaid_11 (by decide) ?_
      refine g_icmp_gt C (tgt := 30) dX12_readSaid_13 (by decide) (fun h_97 => ?_) (fun h_97 => ?_)
      · skip
        have r_98 := lt_r (lo := 28) (h_97) rc_27 rv_85 (by decide)
        refine g_lo (is := [0, 1, 2]) (lo2 := [(0, .ref x), (1, .int v_84), (2, .int v_85)]) rfl ?_
        exact j_30 I_79 J_80 hU_81 hF_82 hG_83 v_84 (rv_84) v_85 (rg_w r_98 (by decide) (by decide)) v_86 (rv_86) v_87 (rv_87) v_88 (rv_88) v_89 (rv_89) q_90 q_91 q_92 q_93 q_94 ⟨by omega, by omega⟩
      · skip
        have r_99 := le_l (nlt h_97) rv_85 rc_27
        refine g_aload_n C 0 dX12_readSaid_16 rfl rfl ?_
        refine g_iload_n C 2 dX12_readSaid_17 rfl rfl ?_
        refine g_callVI C K (c_X12_isWord W9 hLx hkx v_85 (rg_w r_99 (by decide) (by decide)) hU_81) hLx hkx (by decide) rfl v_12_191 rfl ⟨rfl, rfl⟩ ⟨Nat.le_of_ble_eq_true rfl, Nat.le_of_ble_eq_true rfl⟩ (Nat.le_of_ble_eq_true rfl) ⟨Nat.le_of_ble_eq_true rfl, Nat.le_of_ble_eq_true rfl⟩ dX12_readSaid_18 rfl (st := []) (fun x_100 I_101 J_102 h_103 => ?_)
        obtain ⟨rfl, rfl, rx_100, fx_100⟩ := h_103
        refine g_if_ne C (tgt := 30) dX12_readSaid_21 (by decide) (fun h_104 => ?_) (fun h_104 => ?_)
        · skip
          have n_105 : ¬ x_100 = 0 := h_104
          have r_106 := ne_lo (lo := 1) n_105 rx_100 rc_0 rfl (by decide)
          refine g_lo (is := [0, 1, 2]) (lo2 := [(0, .ref x), (1, .int v_84), (2, .int v_85)]) rfl ?_
          exact j_30 I_79 J_80 hU_81 hF_82 hG_83 v_84 (rv_84) v_85 (rg_w r_99 (by decide) (by decide)) v_86 (rv_86) v_87 (rv_87) v_88 (rv_88) v_89 (rv_89) q_90 q_91 q_92 q_93 q_94 ⟨by omega, by omega⟩
        · skip
          have r_107 := (⟨(rx_100).1, (eq_rg (h_104) rc_0).2⟩ : Rg 0 0 x_100)
          obtain ⟨x_108, hx_108, rx_108, tx_108⟩ := ex_add (y := 1) 19 28 r_99 rc_1 (by decide) (by decide) (by decide) (by decide)
          refine g_iinc C dX12_readSaid_24 (k := 2) (v := x_108) rfl hx_108 (by decide) (lo2 := [(2, .int x_108), (0, .ref x), (1, .int v_84)]) rfl ?_
          refine g_goto C (tgt := 10) dX12_readSaid_27 (by decide) ?_
          refine g_lo (is := [1, 2, 0]) (lo2 := [(0, .ref x), (1, .int v_84), (2, .int x_108)]) rfl ?_
          exact ih_10 I_79 J_80 hU_81 hF_82 hG_83 v_84 (rv_84) x_108 (rg_w rx_108 (by decide) (by decide)) v_86 (rv_86) v_87 (rv_87) v_88 (rv_88) v_89 (rv_89) q_90 q_91 q_92 q_93 q_94 ⟨by omega, by omega⟩ (ms_1 hm_96 (ti_k tx_108 rc_1) (by decide))
  refine g_aload_n C 0 dX12_readSaid_0 rfl rfl ?_
  refine g_bipush C (v := 40) dX12_readSaid_1 (by decide) ?_
  obtain ⟨x_109, hx_109, rx_109⟩ := ex_getw (I := I) (a := x) (j := 7) (lo := 0) (hi := 4) hU.1 hLx (ro_o hkx (by decide)) rfl
  refine g_callVI C K (c_X12_isSign W9 hLx hkx 40 (rg_w rc_40 (by decide) (by decide)) hU) hLx hkx (by decide) rfl v_12_159 rfl ⟨rfl, rfl⟩ ⟨Nat.le_of_ble_eq_true rfl, Nat.le_of_ble_eq_true rfl⟩ (Nat.le_of_ble_eq_true rfl) ⟨Nat.le_of_ble_eq_true rfl, Nat.le_of_ble_eq_true rfl⟩ dX12_readSaid_3 rfl (st := []) (fun x_110 I_111 J_112 h_113 => ?_)
  obtain ⟨rfl, rfl, rx_110, fx_110, ex_110⟩ := h_113
  have q_114 := hx_109
  refine g_istore_n C dX12_readSaid_6 rfl (by decide) (lo2 := [(1, .int x_110), (0, .ref x)]) rfl ?_
  refine g_bipush C (v := 18) dX12_readSaid_7 (by decide) ?_
  refine g_istore_n C dX12_readSaid_9 rfl (by decide) (lo2 := [(2, .int 18), (1, .int x_110), (0, .ref x)]) rfl ?_
  refine g_lo (is := [2, 1, 0]) (lo2 := [(0, .ref x), (1, .int x_110), (2, .int 18)]) rfl ?_
  exact l_10 11 I J hU hF hG x_110 (rx_110) 18 (rg_w rc_18 (by decide) (by decide)) x_1 (rx_1) x_2 (rx_2) x_3 (rx_3) x_109 (rx_109) hx_1 hx_2 hwi hx_3 hx_109 ⟨by omega, by omega⟩ (ms_s (a := 18) (b := 28) (N := 11) (rg_w rc_18 (by decide) (by decide)) (by decide))
set_option maxRecDepth 100000 in
set_option maxHeartbeats 8000000 in
theorem c_X12_readAnd_8 {l : Launch} {D : va_G} {cy : Nat → ClassId} {L : List Nat} {κ ln : Nat → Nat} {R : Nat → Nat → Option Nat} {I : Nat → Nat → Int32} {J : Nat → Nat → Int64} {ow : Nat → Nat × Nat} (W9 : ∀ a ∈ L, Shp L κ ln R ow a) {x : Nat} (hLx : x ∈ L) (hkx : κ x = 12) (hU : Iw L κ R ow I) (hn : (I x 47).toInt ≤ 2 * (I x 48).toInt) (hwi : I x 49 = 8) : CtI l yX12_readAnd cX12_readAnd 2 (some .boolean) { frames := 4, cells := 0, slots := 0, locals := 92 } D cy L κ ln R I J [.ref x] (fun r I2 J2 => Iw L κ R ow I2 ∧ Fq L κ ow [1210, 1211] I I2 ∧ Fq L κ ow [] J J2 ∧ Rg 0 0 r ∧ (¬ r = 0 → Sz_ x I I2 1) ∧ (I2 x 49 = 8)) := by
  obtain ⟨x_1, hx_1, rx_1⟩ := ex_getw (I := I) (a := x) (j := 47) (lo := 0) (hi := 60) hU.1 hLx (ro_o hkx (by decide)) rfl
  obtain ⟨x_2, hx_2, rx_2⟩ := ex_getw (I := I) (a := x) (j := 48) (lo := 0) (hi := 20) hU.1 hLx (ro_o hkx (by decide)) rfl
  rw [hx_1, hx_2] at hn
  obtain ⟨x_3, hx_3, rx_3⟩ := ex_getw (I := I) (a := x) (j := 50) (lo := 0) (hi := 59) hU.1 hLx (ro_o hkx (by decide)) rfl
  refine CtI.of (by decide +kernel) (Nat.le_of_ble_eq_true rfl) ?_
  intro p e s m below meth c B K
  have C := B.1
  have hF : Fq L κ ow [1210, 1211] I I := fq_rf
  have hG : Fq L κ ow [] J J := fq_rf
  refine g_lo (is := [0]) (lo2 := [(0, .ref x)]) rfl ?_
  refine g_aload_n C 0 dX12_readAnd_0 rfl rfl ?_
  refine g_callVI C K (c_X12_readSaid_8 W9 hLx hkx   hU  (by rw [hx_1, hx_2]; omega) (hwi)) hLx hkx (by decide) rfl v_12_392 rfl ⟨rfl, rfl⟩ ⟨Nat.le_of_ble_eq_true rfl, Nat.le_of_ble_eq_true rfl⟩ (Nat.le_of_ble_eq_true rfl) ⟨Nat.le_of_ble_eq_true rfl, Nat.le_of_ble_eq_true rfl⟩ dX12_readAnd_1 rfl (st := []) (fun x_4 I_5 J_6 h_7 => ?_)
  obtain ⟨hUI_5, hFI_5, hGJ_6, rx_4, ex_4⟩ := h_7
  have hF_8 := fq_tr hF hFI_5 (by decide)
  have hG_9 := fq_tr hG hGJ_6 (by decide)
  refine g_if_ne C (tgt := 9) dX12_readAnd_4 (by decide) (fun h_10 => ?_) (fun h_10 => ?_)
  · skip
    exact ne_no (h_10) rx_4 rc_0
  · skip
    refine g_iconst C (v := 0) dX12_readAnd_7 (by decide) ?_
    exact g_zret (ty := .boolean) (r := 0) B K rfl (rfl) ⟨hUI_5, hF_8, hG_9, rc_0, (fun q => absurd rfl q), ex_4.2⟩ dX12_readAnd_8
set_option maxRecDepth 100000 in
set_option maxHeartbeats 8000000 in
theorem c_X12_readOr_8 {l : Launch} {D : va_G} {cy : Nat → ClassId} {L : List Nat} {κ ln : Nat → Nat} {R : Nat → Nat → Option Nat} {I : Nat → Nat → Int32} {J : Nat → Nat → Int64} {ow : Nat → Nat × Nat} (W9 : ∀ a ∈ L, Shp L κ ln R ow a) {x : Nat} (hLx : x ∈ L) (hkx : κ x = 12) (hU : Iw L κ R ow I) (hn : (I x 47).toInt ≤ 2 * (I x 48).toInt) (hwi : I x 49 = 8) : CtI l yX12_readOr cX12_readOr 2 (some .boolean) { frames := 5, cells := 0, slots := 0, locals := 113 } D cy L κ ln R I J [.ref x] (fun r I2 J2 => Iw L κ R ow I2 ∧ Fq L κ ow [1210, 1211] I I2 ∧ Fq L κ ow [] J J2 ∧ Rg 0 0 r ∧ (¬ r = 0 → Sz_ x I I2 1) ∧ (I2 x 49 = 8)) := by
  obtain ⟨x_1, hx_1, rx_1⟩ := ex_getw (I := I) (a := x) (j := 47) (lo := 0) (hi := 60) hU.1 hLx (ro_o hkx (by decide)) rfl
  obtain ⟨x_2, hx_2, rx_2⟩ := ex_getw (I := I) (a := x) (j := 48) (lo := 0) (hi := 20) hU.1 hLx (ro_o hkx (by decide)) rfl
  rw [hx_1, hx_2] at hn
  obtain ⟨x_3, hx_3, rx_3⟩ := ex_getw (I := I) (a := x) (j := 50) (lo := 0) (hi := 59) hU.1 hLx (ro_o hkx (by decide)) rfl
  refine CtI.of (by decide +kernel) (Nat.le_of_ble_eq_true rfl) ?_
  intro p e s m below meth c B K
  have C := B.1
  have hF : Fq L κ ow [1210, 1211] I I := fq_rf
  have hG : Fq L κ ow [] J J := fq_rf
  refine g_lo (is := [0]) (lo2 := [(0, .ref x)]) rfl ?_
  refine g_aload_n C 0 dX12_readOr_0 rfl rfl ?_
  refine g_callVI C K (c_X12_readAnd_8 W9 hLx hkx   hU  (by rw [hx_1, hx_2]; omega) (hwi)) hLx hkx (by decide) rfl v_12_383 rfl ⟨rfl, rfl⟩ ⟨Nat.le_of_ble_eq_true rfl, Nat.le_of_ble_eq_true rfl⟩ (Nat.le_of_ble_eq_true rfl) ⟨Nat.le_of_ble_eq_true rfl, Nat.le_of_ble_eq_true rfl⟩ dX12_readOr_1 rfl (st := []) (fun x_4 I_5 J_6 h_7 => ?_)
  obtain ⟨hUI_5, hFI_5, hGJ_6, rx_4, ex_4⟩ := h_7
  have hF_8 := fq_tr hF hFI_5 (by decide)
  have hG_9 := fq_tr hG hGJ_6 (by decide)
  refine g_if_ne C (tgt := 9) dX12_readOr_4 (by decide) (fun h_10 => ?_) (fun h_10 => ?_)
  · skip
    exact ne_no (h_10) rx_4 rc_0
  · skip
    refine g_iconst C (v := 0) dX12_readOr_7 (by decide) ?_
    exact g_zret (ty := .boolean) (r := 0) B K rfl (rfl) ⟨hUI_5, hF_8, hG_9, rc_0, (fun q => absurd rfl q), ex_4.2⟩ dX12_readOr_8
set_option maxRecDepth 100000 in
set_option maxHeartbeats 8000000 in
theorem c_X12_readBracket_8 {l : Launch} {D : va_G} {cy : Nat → ClassId} {L : List Nat} {κ ln : Nat → Nat} {R : Nat → Nat → Option Nat} {I : Nat → Nat → Int32} {J : Nat → Nat → Int64} {ow : Nat → Nat × Nat} (W9 : ∀ a ∈ L, Shp L κ ln R ow a) {x : Nat} (hLx : x ∈ L) (hkx : κ x = 12) (hU : Iw L κ R ow I) (hn : (I x 47).toInt ≤ 2 * (I x 48).toInt) (hwi : I x 49 = 8) : CtI l yX12_readBracket cX12_readBracket 1 (some .boolean) { frames := 6, cells := 0, slots := 0, locals := 134 } D cy L κ ln R I J [.ref x] (fun r I2 J2 => Iw L κ R ow I2 ∧ Fq L κ ow [1210, 1211] I I2 ∧ Fq L κ ow [] J J2 ∧ Rg 0 0 r ∧ (¬ r = 0 → Sz_ x I I2 1) ∧ (I2 x 49 = 8)) := by
  obtain ⟨x_1, hx_1, rx_1⟩ := ex_getw (I := I) (a := x) (j := 47) (lo := 0) (hi := 60) hU.1 hLx (ro_o hkx (by decide)) rfl
  obtain ⟨x_2, hx_2, rx_2⟩ := ex_getw (I := I) (a := x) (j := 48) (lo := 0) (hi := 20) hU.1 hLx (ro_o hkx (by decide)) rfl
  rw [hx_1, hx_2] at hn
  obtain ⟨x_3, hx_3, rx_3⟩ := ex_getw (I := I) (a := x) (j := 50) (lo := 0) (hi := 59) hU.1 hLx (ro_o hkx (by decide)) rfl
  refine CtI.of (by decide +kernel) (Nat.le_of_ble_eq_true rfl) ?_
  intro p e s m below meth c B K
  have C := B.1
  have hF : Fq L κ ow [1210, 1211] I I := fq_rf
  have hG : Fq L κ ow [] J J := fq_rf
  refine g_lo (is := [0]) (lo2 := [(0, .ref x)]) rfl ?_
  refine g_aload_n C 0 dX12_readBracket_0 rfl rfl ?_
  refine g_callVI C K (c_X12_readOr_8 W9 hLx hkx   hU  (by rw [hx_1, hx_2]; omega) (hwi)) hLx hkx (by decide) rfl v_12_413 rfl ⟨rfl, rfl⟩ ⟨Nat.le_of_ble_eq_true rfl, Nat.le_of_ble_eq_true rfl⟩ (Nat.le_of_ble_eq_true rfl) ⟨Nat.le_of_ble_eq_true rfl, Nat.le_of_ble_eq_true rfl⟩ dX12_readBracket_1 rfl (st := []) (fun x_4 I_5 J_6 h_7 => ?_)
  obtain ⟨hUI_5, hFI_5, hGJ_6, rx_4, ex_4⟩ := h_7
  have hF_8 := fq_tr hF hFI_5 (by decide)
  have hG_9 := fq_tr hG hGJ_6 (by decide)
  refine g_if_ne C (tgt := 9) dX12_readBracket_4 (by decide) (fun h_10 => ?_) (fun h_10 => ?_)
  · skip
    exact ne_no (h_10) rx_4 rc_0
  · skip
    refine g_iconst C (v := 0) dX12_readBracket_7 (by decide) ?_
    exact g_zret (ty := .boolean) (r := 0) B K rfl (rfl) ⟨hUI_5, hF_8, hG_9, rc_0, (fun q => absurd rfl q), ex_4.2⟩ dX12_readBracket_8
set_option maxRecDepth 100000 in
set_option maxHeartbeats 8000000 in
theorem c_X12_readNumber_0_999 {l : Launch} {D : va_G} {cy : Nat → ClassId} {L : List Nat} {κ ln : Nat → Nat} {R : Nat → Nat → Option Nat} {I : Nat → Nat → Int32} {J : Nat → Nat → Int64} {ow : Nat → Nat × Nat} (W9 : ∀ a ∈ L, Shp L κ ln R ow a) {x : Nat} (hLx : x ∈ L) (hkx : κ x = 12) (hU : Iw L κ R ow I) : CtI l yX12_readNumber cX12_readNumber 3 (some .boolean) { frames := 2, cells := 0, slots := 0, locals := 45 } D cy L κ ln R I J [.ref x, .int 0, .int 999] (fun r I2 J2 => Iw L κ R ow I2 ∧ Fq L κ ow [1205, 1206, 1207, 1208, 1209, 1210, 1211, 1213] I I2 ∧ Fq L κ ow [1212] J J2 ∧ Rg 0 1 r ∧ ((r, MTf R I2 J2 x, NRf R I2 J2 x) = mReadNumber (0) (999) (MTf R I J x) (NRf R I J x)) ∧ (Pg_ x I I2 ∧ (¬ r = 0 → Ps_ x I I2)) ∧ (¬ r = 0 → Rg 0 999 (I2 x 13))) := by
  refine CtI.of (by decide +kernel) (Nat.le_of_ble_eq_true rfl) ?_
  intro p e s m below meth c B K
  have C := B.1
  have hF : Fq L κ ow [1205, 1206, 1207, 1208, 1209, 1210, 1211, 1213] I I := fq_rf
  have hG : Fq L κ ow [1212] J J := fq_rf
  obtain ⟨b_1, hb_1, hb_1L, hb_1k, hb_1n, hb_1o⟩ := shp_a (W9 x hLx) hkx 1 14 940 rfl (by decide)
  have emqx : ∀ I J, MTf R I J x = MTq I J x b_1 := fun I J => by simp only [MTf, rr_, Option.getD_some, hb_1]
  have wmqx : mqw_ L κ ow x b_1 := ⟨⟨hLx, hb_1L⟩, ⟨(ro_o hkx (by decide)), (ro_a hb_1k (by decide) hb_1o hkx rfl)⟩⟩
  obtain ⟨s_2, hs_2⟩ : ∃ z, MTq I J x b_1 = z := ⟨_, rfl⟩
  obtain ⟨b_3, hb_3, hb_3L, hb_3k, hb_3n, hb_3o⟩ := shp_a (W9 x hLx) hkx 15 14 72 rfl (by decide)
  obtain ⟨b_4, hb_4, hb_4L, hb_4k, hb_4n, hb_4o⟩ := shp_a (W9 x hLx) hkx 20 15 13 rfl (by decide)
  have enqx : ∀ I J, NRf R I J x = NRq I J x b_3 b_4 := fun I J => by simp only [NRf, rr_, Option.getD_some, hb_3, hb_4]
  have wnqx : nqw_ L κ ow x b_3 b_4 := ⟨⟨hLx, hb_3L, hb_4L⟩, ⟨(ro_o hkx (by decide)), (ro_a hb_3k (by decide) hb_3o hkx rfl), (ro_a hb_4k (by decide) hb_4o hkx rfl)⟩⟩
  obtain ⟨s_5, hs_5⟩ : ∃ z, NRq I J x b_3 b_4 = z := ⟨_, rfl⟩
  refine g_lo (is := [0, 1, 2]) (lo2 := [(0, .ref x), (1, .int 0), (2, .int 999)]) rfl ?_
  refine g_aload_n C 0 dX12_readNumber_0 rfl rfl ?_
  obtain ⟨x_6, hx_6, rx_6⟩ := ex_getw (I := I) (a := x) (j := 7) (lo := 0) (hi := 4) hU.1 hLx (ro_o hkx (by decide)) rfl
  have f_7 : s_2.kind = x_6 := (congrArg MT_.kind hs_2).symm.trans hx_6
  refine g_getI C K hLx hkx f_12_104 (v := x_6) hx_6 dX12_readNumber_1 ?_
  refine g_iconst C (v := 3) dX12_readNumber_4 (by decide) ?_
  refine g_icmp_eq C (tgt := 14) dX12_readNumber_5 (by decide) (fun h_8 => ?_) (fun h_8 => ?_)
  · skip
    have r_9 := (⟨(eq_rg (h_8) rc_3).1, (eq_rg (h_8) rc_3).2⟩ : Rg 3 3 x_6)
    refine g_aload_n C 0 dX12_readNumber_14 rfl rfl ?_
    obtain ⟨x_10, hx_10, rx_10⟩ := ex_getw (I := I) (a := x) (j := 8) (lo := (-2147483648)) (hi := 2147483647) hU.1 hLx (ro_o hkx (by decide)) rfl
    have f_11 : s_2.number = x_10 := (congrArg MT_.number hs_2).symm.trans hx_10
    refine g_getI C K hLx hkx f_12_121 (v := x_10) hx_10 dX12_readNumber_15 ?_
    refine g_iload_n C 1 dX12_readNumber_18 rfl rfl ?_
    refine g_iload_n C 2 dX12_readNumber_19 rfl rfl ?_
    refine g_callSI C K (c_X12_isIn W9 x_10 0 999 (rg_w rc_0 (by decide) (by decide)) (rg_w rc_999 (by decide) (by decide)) hU) s_12_149 rfl ⟨rfl, rfl⟩ ⟨Nat.le_of_ble_eq_true rfl, Nat.le_of_ble_eq_true rfl⟩ (Nat.le_of_ble_eq_true rfl) ⟨Nat.le_of_ble_eq_true rfl, Nat.le_of_ble_eq_true rfl⟩ dX12_readNumber_20 rfl (st := []) (fun x_12 I_13 J_14 h_15 => ?_)
    obtain ⟨rfl, rfl, rx_12, fx_12, ex_12⟩ := h_15
    have c_16 : isIn_ (x_10) (0) (999) = x_12 := fx_12.symm
    refine g_if_ne C (tgt := 32) dX12_readNumber_23 (by decide) (fun h_17 => ?_) (fun h_17 => ?_)
    · skip
      have n_18 : ¬ x_12 = 0 := h_17
      have r_19 := ne_lo (lo := 1) n_18 rx_12 rc_0 rfl (by decide)
      have r_20 := le_r (((ex_12.1) n_18)) rc_0 rx_10
      have r_21 := le_l (((ex_12.2) n_18)) r_20 rc_999
      refine g_aload_n C 0 dX12_readNumber_32 rfl rfl ?_
      refine g_aload_n C 0 dX12_readNumber_33 rfl rfl ?_
      refine g_getI C K hLx hkx f_12_121 (v := x_10) hx_10 dX12_readNumber_34 ?_
      refine h_putI C K hLx hkx f_12_153 p_12_13 dX12_readNumber_37 (fun I_22 hI_22 => ?_)
      have hU_23 := iw_put W9 hU hI_22 (ro_o hkx (by decide)) (lo := (-2147483648)) (hi := 2147483647) (rfl) (rg_all _) rfl
      have hF_24 := fq_puto hF hI_22 hkx (by decide) (by decide)
      have hs_25 : MTq I_22 J x b_1 = s_2 := by rw [hI_22]; exact (mq_uIt wmqx (by decide)).trans hs_2
      have hs_26 : NRq I_22 J x b_3 b_4 = (NR_.w_told s_5 (x_10)) := by rw [hI_22]; exact ((nq_told wnqx).trans (congrArg (fun z : NR_ => NR_.w_told z (x_10)) hs_5)).trans rfl
      refine g_aload_n C 0 dX12_readNumber_40 rfl rfl ?_
      refine g_callVV C K (c_X12_go W9 hLx hkx   hU_23) hLx hkx (by decide) rfl v_12_156 rfl ⟨rfl, rfl⟩ ⟨Nat.le_of_ble_eq_true rfl, Nat.le_of_ble_eq_true rfl⟩ (Nat.le_of_ble_eq_true rfl) ⟨Nat.le_of_ble_eq_true rfl, Nat.le_of_ble_eq_true rfl⟩ dX12_readNumber_41 rfl (st := []) (fun I_28 J_29 h_30 => ?_)
      obtain ⟨hUI_28, hFI_28, hGJ_29, fx_27, ex_27⟩ := h_30
      have hF_31 := fq_tr hF_24 hFI_28 (by decide)
      have hG_32 := fq_tr hG hGJ_29 (by decide)
      obtain ⟨s_34, hs_34⟩ : ∃ z, MTq I_28 J_29 x b_1 = z := ⟨_, rfl⟩
      have c_33 : mGo (s_2) = s_34 := by have q := fx_27; simp only [emqx, hs_25, hs_34] at q; exact q.symm
      have hs_35 : NRq I_28 J_29 x b_3 b_4 = (NR_.w_told s_5 (x_10)) := (nq_fq wnqx hFI_28 hGJ_29 (by decide) (by decide)).trans hs_26
      refine g_iconst C (v := 1) dX12_readNumber_44 (by decide) ?_
      exact g_zret (ty := .boolean) (r := 1) B K rfl (rfl) ⟨hUI_28, hF_31, hG_32, rg_w rc_1 (by decide) (by decide), (by simp only [mReadNumber, emqx, hs_34, hs_2, enqx, hs_35, hs_5, hx_6, f_7, (eq_true h_8), hx_10, f_11, c_16, h_17, c_33, if_true, if_false, mqM_tp, mqM_size, mqM_limit, mqM_to, mqM_frm, mqM_kind, mqM_number, mqM_sign, mqM_word, MT_.w_tp, MT_.w_size, MT_.w_limit, MT_.w_to, MT_.w_frm, MT_.w_kind, MT_.w_number, MT_.w_sign, MT_.w_word, nqM_rd, nqM_rn, nqM_taped, nqM_mfault, nqM_mplace, nqM_told, nqM_hl, nqM_hd, NR_.w_rd, NR_.w_rn, NR_.w_taped, NR_.w_mfault, NR_.w_mplace, NR_.w_told, NR_.w_hl, NR_.w_hd]), ⟨(pg_s (ps_t2 (pg_u pg_rf hI_22 (Or.inr (by decide)) (Or.inr (by decide))) ex_27)), fun _ => (ps_t2 (pg_u pg_rf hI_22 (Or.inr (by decide)) (Or.inr (by decide))) ex_27)⟩, (fun _ => eq_rg (fq_at hFI_28 hLx hkx (by decide) (by decide) (kp_s hI_22)) (r_21))⟩ dX12_readNumber_45
    · skip
      have r_36 := (⟨(rx_12).1, (eq_rg (h_17) rc_0).2⟩ : Rg 0 0 x_12)
      refine g_aload_n C 0 dX12_readNumber_26 rfl rfl ?_
      refine g_iconst C (v := 2) dX12_readNumber_27 (by decide) ?_
      refine g_callVI C K (c_X12_bad W9 hLx hkx 2 (rg_w rc_2 (by decide) (by decide)) hU) hLx hkx (by decide) rfl v_12_146 rfl ⟨rfl, rfl⟩ ⟨Nat.le_of_ble_eq_true rfl, Nat.le_of_ble_eq_true rfl⟩ (Nat.le_of_ble_eq_true rfl) ⟨Nat.le_of_ble_eq_true rfl, Nat.le_of_ble_eq_true rfl⟩ dX12_readNumber_28 rfl (st := []) (fun x_37 I_38 J_39 h_40 => ?_)
      obtain ⟨hUI_38, hFI_38, hGJ_39, rx_37, fx_37⟩ := h_40
      have hF_41 := fq_tr hF hFI_38 (by decide)
      have hG_42 := fq_tr hG hGJ_39 (by decide)
      obtain ⟨s_44, hs_44⟩ : ∃ z, MTq I_38 J_39 x b_1 = z := ⟨_, rfl⟩
      obtain ⟨s_45, hs_45⟩ : ∃ z, NRq I_38 J_39 x b_3 b_4 = z := ⟨_, rfl⟩
      have c_43 : mBad (2) (s_2) (s_5) = (x_37, s_44, s_45) := by have q := fx_37; simp only [emqx, enqx, hs_2, hs_5, hs_44, hs_45] at q; exact q.symm
      exact g_zret (ty := .boolean) (r := x_37) B K rfl (nar_z (rg_w rx_37 (by decide) (by decide))) ⟨hUI_38, hF_41, hG_42, rg_w rx_37 (by decide) (by decide), (by simp only [mReadNumber, emqx, hs_44, hs_2, enqx, hs_45, hs_5, hx_6, f_7, (eq_true h_8), hx_10, f_11, c_16, (eq_true h_17), c_43, if_true, if_false, mqM_tp, mqM_size, mqM_limit, mqM_to, mqM_frm, mqM_kind, mqM_number, mqM_sign, mqM_word, MT_.w_tp, MT_.w_size, MT_.w_limit, MT_.w_to, MT_.w_frm, MT_.w_kind, MT_.w_number, MT_.w_sign, MT_.w_word, nqM_rd, nqM_rn, nqM_taped, nqM_mfault, nqM_mplace, nqM_told, nqM_hl, nqM_hd, NR_.w_rd, NR_.w_rn, NR_.w_taped, NR_.w_mfault, NR_.w_mplace, NR_.w_told, NR_.w_hl, NR_.w_hd]), ⟨(pg_fq pg_rf hFI_38 hLx hkx (by decide) (by decide)), fun q => ne_no q rx_37 rc_0⟩, (fun q => ne_no q rx_37 rc_0)⟩ dX12_readNumber_31
  · skip
    have n_46 : ¬ x_6 = 3 := h_8
    refine g_aload_n C 0 dX12_readNumber_8 rfl rfl ?_
    refine g_iconst C (v := 1) dX12_readNumber_9 (by decide) ?_
    refine g_callVI C K (c_X12_bad W9 hLx hkx 1 (rg_w rc_1 (by decide) (by decide)) hU) hLx hkx (by decide) rfl v_12_146 rfl ⟨rfl, rfl⟩ ⟨Nat.le_of_ble_eq_true rfl, Nat.le_of_ble_eq_true rfl⟩ (Nat.le_of_ble_eq_true rfl) ⟨Nat.le_of_ble_eq_true rfl, Nat.le_of_ble_eq_true rfl⟩ dX12_readNumber_10 rfl (st := []) (fun x_47 I_48 J_49 h_50 => ?_)
    obtain ⟨hUI_48, hFI_48, hGJ_49, rx_47, fx_47⟩ := h_50
    have hF_51 := fq_tr hF hFI_48 (by decide)
    have hG_52 := fq_tr hG hGJ_49 (by decide)
    obtain ⟨s_54, hs_54⟩ : ∃ z, MTq I_48 J_49 x b_1 = z := ⟨_, rfl⟩
    obtain ⟨s_55, hs_55⟩ : ∃ z, NRq I_48 J_49 x b_3 b_4 = z := ⟨_, rfl⟩
    have c_53 : mBad (1) (s_2) (s_5) = (x_47, s_54, s_55) := by have q := fx_47; simp only [emqx, enqx, hs_2, hs_5, hs_54, hs_55] at q; exact q.symm
    exact g_zret (ty := .boolean) (r := x_47) B K rfl (nar_z (rg_w rx_47 (by decide) (by decide))) ⟨hUI_48, hF_51, hG_52, rg_w rx_47 (by decide) (by decide), (by simp only [mReadNumber, emqx, hs_54, hs_2, enqx, hs_55, hs_5, hx_6, f_7, h_8, c_53, if_true, if_false, mqM_tp, mqM_size, mqM_limit, mqM_to, mqM_frm, mqM_kind, mqM_number, mqM_sign, mqM_word, MT_.w_tp, MT_.w_size, MT_.w_limit, MT_.w_to, MT_.w_frm, MT_.w_kind, MT_.w_number, MT_.w_sign, MT_.w_word, nqM_rd, nqM_rn, nqM_taped, nqM_mfault, nqM_mplace, nqM_told, nqM_hl, nqM_hd, NR_.w_rd, NR_.w_rn, NR_.w_taped, NR_.w_mfault, NR_.w_mplace, NR_.w_told, NR_.w_hl, NR_.w_hd]), ⟨(pg_fq pg_rf hFI_48 hLx hkx (by decide) (by decide)), fun q => ne_no q rx_47 rc_0⟩, (fun q => ne_no q rx_47 rc_0)⟩ dX12_readNumber_13
set_option maxRecDepth 100000 in
set_option maxHeartbeats 8000000 in
theorem c_X12_saysOne {l : Launch} {D : va_G} {cy : Nat → ClassId} {L : List Nat} {κ ln : Nat → Nat} {R : Nat → Nat → Option Nat} {I : Nat → Nat → Int32} {J : Nat → Nat → Int64} {ow : Nat → Nat × Nat} (W9 : ∀ a ∈ L, Shp L κ ln R ow a) {x : Nat} (hLx : x ∈ L) (hkx : κ x = 12) (a0 : Int32) (a1 : Int32) (a2 : Int32) (a3 : Int32) (ra0 : Rg 1 78 a0) (ra1 : Rg 0 59 a1) (ra2 : Rg 0 999 a2) (hU : Iw L κ R ow I) (hp0 : Rg 0 59 (I x 47)) (hs : No_ a0 a1 a2 (I x 47).toInt) : CtI l yX12_saysOne cX12_saysOne 6 (some .int) { frames := 0, cells := 0, slots := 0, locals := 0 } D cy L κ ln R I J [.ref x, .int a0, .int a1, .int a2, .int a3] (fun r I2 J2 => Iw L κ R ow I2 ∧ Fq L κ ow [1247, 86600] I I2 ∧ Fq L κ ow [] J J2 ∧ Rg 0 59 r ∧ (r.toInt = (I x 47).toInt ∧ (I2 x 47).toInt = (I x 47).toInt + 1)) := by
  refine CtI.of (by decide +kernel) (Nat.le_of_ble_eq_true rfl) ?_
  intro p e s m below meth c B K
  have C := B.1
  have hF : Fq L κ ow [1247, 86600] I I := fq_rf
  have hG : Fq L κ ow [] J J := fq_rf
  obtain ⟨xp0, hxp0, rxp0⟩ : ∃ z, I x 47 = z ∧ Rg 0 59 z := ⟨_, rfl, hp0⟩
  obtain ⟨b_1, hb_1, hb_1L, hb_1k, hb_1n, hb_1o⟩ := shp_a (W9 x hLx) hkx 46 14 240 rfl (by decide)
  have hU0 := hU
  have hU := hU0.1
  refine g_lo (is := [0, 1, 2, 3, 4]) (lo2 := [(0, .ref x), (1, .int a0), (2, .int a1), (3, .int a2), (4, .int a3)]) rfl ?_
  refine g_iconst C (v := 4) dX12_saysOne_0 (by decide) ?_
  refine g_aload_n C 0 dX12_saysOne_1 rfl rfl ?_
  refine g_getI C K hLx hkx f_12_380 (v := xp0) hxp0 dX12_saysOne_2 ?_
  obtain ⟨x_2, hx_2, rx_2, tx_2⟩ := ex_mulT 0 236 rc_4 rxp0 (by decide) (by decide) (by decide) (by decide) (by decide)
  refine g_imul C (v := x_2) dX12_saysOne_5 hx_2 ?_
  refine g_istore C dX12_saysOne_6 (by decide) (lo2 := [(5, .int x_2), (0, .ref x), (1, .int a0), (2, .int a1), (3, .int a2), (4, .int a3)]) rfl ?_
  refine g_aload_n C 1 dX12_saysOne_8 rfl rfl ?_
  refine g_getR C K hLx hkx f_12_79 hb_1 dX12_saysOne_9 ?_
  refine g_iload C 0 dX12_saysOne_12 rfl ?_
  refine g_iload_n C 2 dX12_saysOne_14 rfl rfl ?_
  refine h_iast C K hb_1L hb_1k (x_2.toNatClampNeg) (rfl) (ix_0 rx_2 (by decide)) (ix_lt rx_2 (by decide) hb_1n (by decide)) dX12_saysOne_15 (fun I_3 hI_3 => ?_)
  have hU_4 := uw_put hU hI_3 (ro_a hb_1k (by decide) hb_1o hkx rfl) (lo := (-2147483648)) (hi := 2147483647) (rfl) (rg_all _)
  have hF_5 := fq_puta hF hI_3 (ro_a hb_1k (by decide) hb_1o hkx rfl) (by decide) (by decide)
  refine g_aload_n C 1 dX12_saysOne_16 rfl rfl ?_
  refine g_getR C K hLx hkx f_12_79 hb_1 dX12_saysOne_17 ?_
  refine g_iload C 0 dX12_saysOne_20 rfl ?_
  refine g_iconst C (v := 1) dX12_saysOne_22 (by decide) ?_
  obtain ⟨x_6, hx_6, rx_6, tx_6⟩ := ex_add 1 237 rx_2 rc_1 (by decide) (by decide) (by decide) (by decide)
  refine g_iadd C (v := x_6) dX12_saysOne_23 hx_6 ?_
  refine g_iload_n C 3 dX12_saysOne_24 rfl rfl ?_
  refine h_iast C K hb_1L hb_1k (x_6.toNatClampNeg) (rfl) (ix_0 rx_6 (by decide)) (ix_lt rx_6 (by decide) hb_1n (by decide)) dX12_saysOne_25 (fun I_7 hI_7 => ?_)
  have hU_8 := uw_put hU_4 hI_7 (ro_a hb_1k (by decide) hb_1o hkx rfl) (lo := (-2147483648)) (hi := 2147483647) (rfl) (rg_all _)
  have hF_9 := fq_puta hF_5 hI_7 (ro_a hb_1k (by decide) hb_1o hkx rfl) (by decide) (by decide)
  refine g_aload_n C 1 dX12_saysOne_26 rfl rfl ?_
  refine g_getR C K hLx hkx f_12_79 hb_1 dX12_saysOne_27 ?_
  refine g_iload C 0 dX12_saysOne_30 rfl ?_
  refine g_iconst C (v := 2) dX12_saysOne_32 (by decide) ?_
  obtain ⟨x_10, hx_10, rx_10, tx_10⟩ := ex_add 2 238 rx_2 rc_2 (by decide) (by decide) (by decide) (by decide)
  refine g_iadd C (v := x_10) dX12_saysOne_33 hx_10 ?_
  refine g_iload_n C 4 dX12_saysOne_34 rfl rfl ?_
  refine h_iast C K hb_1L hb_1k (x_10.toNatClampNeg) (rfl) (ix_0 rx_10 (by decide)) (ix_lt rx_10 (by decide) hb_1n (by decide)) dX12_saysOne_35 (fun I_11 hI_11 => ?_)
  have hU_12 := uw_put hU_8 hI_11 (ro_a hb_1k (by decide) hb_1o hkx rfl) (lo := (-2147483648)) (hi := 2147483647) (rfl) (rg_all _)
  have hF_13 := fq_puta hF_9 hI_11 (ro_a hb_1k (by decide) hb_1o hkx rfl) (by decide) (by decide)
  refine g_aload_n C 1 dX12_saysOne_36 rfl rfl ?_
  refine g_getR C K hLx hkx f_12_79 hb_1 dX12_saysOne_37 ?_
  refine g_iload C 0 dX12_saysOne_40 rfl ?_
  refine g_iconst C (v := 3) dX12_saysOne_42 (by decide) ?_
  obtain ⟨x_14, hx_14, rx_14, tx_14⟩ := ex_add 3 239 rx_2 rc_3 (by decide) (by decide) (by decide) (by decide)
  refine g_iadd C (v := x_14) dX12_saysOne_43 hx_14 ?_
  refine g_iload C 5 dX12_saysOne_44 rfl ?_
  refine h_iast C K hb_1L hb_1k (x_14.toNatClampNeg) (rfl) (ix_0 rx_14 (by decide)) (ix_lt rx_14 (by decide) hb_1n (by decide)) dX12_saysOne_46 (fun I_15 hI_15 => ?_)
  have hU_16 := uw_put hU_12 hI_15 (ro_a hb_1k (by decide) hb_1o hkx rfl) (lo := (-2147483648)) (hi := 2147483647) (rfl) ((rg_all a3))
  have hF_17 := fq_puta hF_13 hI_15 (ro_a hb_1k (by decide) hb_1o hkx rfl) (by decide) (by decide)
  refine g_aload_n C 1 dX12_saysOne_47 rfl rfl ?_
  refine g_dup C dX12_saysOne_48 rfl ?_
  have q_18 := (kp_k (κ := κ) hI_15 (by rw [hkx, hb_1k]; decide) (kp_k (κ := κ) hI_11 (by rw [hkx, hb_1k]; decide) (kp_k (κ := κ) hI_7 (by rw [hkx, hb_1k]; decide) (kp_k (κ := κ) hI_3 (by rw [hkx, hb_1k]; decide) hxp0))))
  refine g_getI C K hLx hkx f_12_380 (v := xp0) q_18 dX12_saysOne_49 ?_
  refine g_iconst C (v := 1) dX12_saysOne_52 (by decide) ?_
  obtain ⟨x_19, hx_19, rx_19, tx_19⟩ := ex_add 1 60 rxp0 rc_1 (by decide) (by decide) (by decide) (by decide)
  refine g_iadd C (v := x_19) dX12_saysOne_53 hx_19 ?_
  refine h_putI C K hLx hkx f_12_380 p_12_47 dX12_saysOne_54 (fun I_20 hI_20 => ?_)
  have hU_21 := uw_put hU_16 hI_20 (ro_o hkx (by decide)) (lo := 0) (hi := 60) (rfl) (rg_w rx_19 (by decide) (by decide))
  have hF_22 := fq_puto hF_17 hI_20 hkx (by decide) (by decide)
  refine g_aload_n C 1 dX12_saysOne_57 rfl rfl ?_
  refine g_getI C K hLx hkx f_12_380 (v := x_19) (kp_s hI_20) dX12_saysOne_58 ?_
  refine g_iconst C (v := 1) dX12_saysOne_61 (by decide) ?_
  obtain ⟨x_23, hx_23, rx_23, tx_23⟩ := ex_sub 0 59 rx_19 rc_1 (by decide) (by decide) (by decide) (by decide)
  refine g_isub C (v := x_23) dX12_saysOne_62 hx_23 ?_
  exact g_zret (ty := .int) (r := x_23) B K rfl (rfl) ⟨iw_say (m := xp0.toNatClampNeg) W9 hU0 hU_21 hLx hkx hb_1 hI_3 hI_7 hI_11 hI_15 hI_20 (show x_2.toNatClampNeg = 4 * xp0.toNatClampNeg from by rw [nx_m (k := 4) tx_2 rxp0 (by decide)] <;> omega) (show x_6.toNatClampNeg = 4 * xp0.toNatClampNeg + 1 from by rw [nx_a tx_6 rx_2 rc_1 (by decide), nx_m (k := 4) tx_2 rxp0 (by decide)]; simp only [show (1 : Int32).toNatClampNeg = 1 from rfl] <;> omega) (show x_10.toNatClampNeg = 4 * xp0.toNatClampNeg + 2 from by rw [nx_a tx_10 rx_2 rc_2 (by decide), nx_m (k := 4) tx_2 rxp0 (by decide)]; simp only [show (2 : Int32).toNatClampNeg = 2 from rfl] <;> omega) (show x_14.toNatClampNeg = 4 * xp0.toNatClampNeg + 3 from by rw [nx_a tx_14 rx_2 rc_3 (by decide), nx_m (k := 4) tx_2 rxp0 (by decide)]; simp only [show (3 : Int32).toNatClampNeg = 3 from rfl] <;> omega) (by rw [ix_n rxp0 (by decide), ← hxp0]; exact hs), hF_22, hG, rx_23, ⟨by rw [hxp0]; have q1 := tx_23; have q2 := tx_19; omega, by rw [hxp0, (kp_s hI_20)]; have e1 : (1 : Int32).toInt = 1 := (by decide); have q2 := tx_19; omega⟩⟩ dX12_saysOne_63
