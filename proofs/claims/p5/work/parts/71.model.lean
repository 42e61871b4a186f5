theorem dX12_book_0 : decode cX12_book 0 = .ok (.aload_n 0, 1) := by decide +kernel
theorem dX12_book_1 : decode cX12_book 1 = .ok (.iconst 0, 1) := by decide +kernel
theorem dX12_book_2 : decode cX12_book 2 = .ok (.putfield 82, 3) := by decide +kernel
theorem dX12_book_5 : decode cX12_book 5 = .ok (.iload_n 1, 1) := by decide +kernel
theorem dX12_book_6 : decode cX12_book 6 = .ok (.iconst 0, 1) := by decide +kernel
theorem dX12_book_7 : decode cX12_book 7 = .ok (.iconst 1, 1) := by decide +kernel
theorem dX12_book_8 : decode cX12_book 8 = .ok (.invokestatic 149, 3) := by decide +kernel
theorem dX12_book_11 : decode cX12_book 11 = .ok (.ifCond .ne 7, 3) := by decide +kernel
theorem dX12_book_14 : decode cX12_book 14 = .ok (.sipush (-1000), 3) := by decide +kernel
theorem dX12_book_17 : decode cX12_book 17 = .ok (.ireturn, 1) := by decide +kernel
theorem dX12_book_18 : decode cX12_book 18 = .ok (.aload_n 0, 1) := by decide +kernel
theorem dX12_book_19 : decode cX12_book 19 = .ok (.sipush 400, 3) := by decide +kernel
theorem dX12_book_22 : decode cX12_book 22 = .ok (.invokevirtual 216, 3) := by decide +kernel
theorem dX12_book_25 : decode cX12_book 25 = .ok (.aload_n 0, 1) := by decide +kernel
theorem dX12_book_26 : decode cX12_book 26 = .ok (.iconst 0, 1) := by decide +kernel
theorem dX12_book_27 : decode cX12_book 27 = .ok (.putfield 361, 3) := by decide +kernel
theorem dX12_book_30 : decode cX12_book 30 = .ok (.aload_n 0, 1) := by decide +kernel
theorem dX12_book_31 : decode cX12_book 31 = .ok (.getfield 104, 3) := by decide +kernel
theorem dX12_book_34 : decode cX12_book 34 = .ok (.ifCond .eq 31, 3) := by decide +kernel
theorem dX12_book_37 : decode cX12_book 37 = .ok (.aload_n 0, 1) := by decide +kernel
theorem dX12_book_38 : decode cX12_book 38 = .ok (.invokevirtual 367, 3) := by decide +kernel
theorem dX12_book_41 : decode cX12_book 41 = .ok (.ifCond .ne 11, 3) := by decide +kernel
theorem dX12_book_44 : decode cX12_book 44 = .ok (.bipush (-2), 2) := by decide +kernel
theorem dX12_book_46 : decode cX12_book 46 = .ok (.aload_n 0, 1) := by decide +kernel
theorem dX12_book_47 : decode cX12_book 47 = .ok (.getfield 143, 3) := by decide +kernel
theorem dX12_book_50 : decode cX12_book 50 = .ok (.isub, 1) := by decide +kernel
theorem dX12_book_51 : decode cX12_book 51 = .ok (.ireturn, 1) := by decide +kernel
theorem dX12_book_52 : decode cX12_book 52 = .ok (.aload_n 0, 1) := by decide +kernel
theorem dX12_book_53 : decode cX12_book 53 = .ok (.dup, 1) := by decide +kernel
theorem dX12_book_54 : decode cX12_book 54 = .ok (.getfield 361, 3) := by decide +kernel
theorem dX12_book_57 : decode cX12_book 57 = .ok (.iconst 1, 1) := by decide +kernel
theorem dX12_book_58 : decode cX12_book 58 = .ok (.iadd, 1) := by decide +kernel
theorem dX12_book_59 : decode cX12_book 59 = .ok (.putfield 361, 3) := by decide +kernel
theorem dX12_book_62 : decode cX12_book 62 = .ok (.goto (-32), 3) := by decide +kernel
theorem dX12_book_65 : decode cX12_book 65 = .ok (.aload_n 0, 1) := by decide +kernel
theorem dX12_book_66 : decode cX12_book 66 = .ok (.invokevirtual 329, 3) := by decide +kernel
theorem dX12_book_69 : decode cX12_book 69 = .ok (.iconst 0, 1) := by decide +kernel
theorem dX12_book_70 : decode cX12_book 70 = .ok (.istore_n 2, 1) := by decide +kernel
theorem dX12_book_71 : decode cX12_book 71 = .ok (.iconst 0, 1) := by decide +kernel
theorem dX12_book_72 : decode cX12_book 72 = .ok (.istore_n 3, 1) := by decide +kernel
theorem dX12_book_73 : decode cX12_book 73 = .ok (.iload_n 2, 1) := by decide +kernel
theorem dX12_book_74 : decode cX12_book 74 = .ok (.aload_n 0, 1) := by decide +kernel
theorem dX12_book_75 : decode cX12_book 75 = .ok (.getfield 361, 3) := by decide +kernel
theorem dX12_book_78 : decode cX12_book 78 = .ok (.if_icmp .ge 25, 3) := by decide +kernel
theorem dX12_book_81 : decode cX12_book 81 = .ok (.iload_n 3, 1) := by decide +kernel
theorem dX12_book_82 : decode cX12_book 82 = .ok (.ifCond .ne 21, 3) := by decide +kernel
theorem dX12_book_85 : decode cX12_book 85 = .ok (.aload_n 0, 1) := by decide +kernel
theorem dX12_book_86 : decode cX12_book 86 = .ok (.iconst 4, 1) := by decide +kernel
theorem dX12_book_87 : decode cX12_book 87 = .ok (.iload_n 2, 1) := by decide +kernel
theorem dX12_book_88 : decode cX12_book 88 = .ok (.imul, 1) := by decide +kernel
theorem dX12_book_89 : decode cX12_book 89 = .ok (.invokevirtual 370, 3) := by decide +kernel
theorem dX12_book_92 : decode cX12_book 92 = .ok (.istore_n 3, 1) := by decide +kernel
theorem dX12_book_93 : decode cX12_book 93 = .ok (.iload_n 3, 1) := by decide +kernel
theorem dX12_book_94 : decode cX12_book 94 = .ok (.ifCond .ne (-21), 3) := by decide +kernel
theorem dX12_book_97 : decode cX12_book 97 = .ok (.iinc 2 1, 3) := by decide +kernel
theorem dX12_book_100 : decode cX12_book 100 = .ok (.goto (-27), 3) := by decide +kernel
theorem dX12_book_103 : decode cX12_book 103 = .ok (.aload_n 0, 1) := by decide +kernel
theorem dX12_book_104 : decode cX12_book 104 = .ok (.getfield 76, 3) := by decide +kernel
theorem dX12_book_107 : decode cX12_book 107 = .ok (.iconst 0, 1) := by decide +kernel
theorem dX12_book_108 : decode cX12_book 108 = .ok (.iload_n 3, 1) := by decide +kernel
theorem dX12_book_109 : decode cX12_book 109 = .ok (.iastore, 1) := by decide +kernel
theorem dX12_book_110 : decode cX12_book 110 = .ok (.aload_n 0, 1) := by decide +kernel
theorem dX12_book_111 : decode cX12_book 111 = .ok (.getfield 76, 3) := by decide +kernel
theorem dX12_book_114 : decode cX12_book 114 = .ok (.iconst 1, 1) := by decide +kernel
theorem dX12_book_115 : decode cX12_book 115 = .ok (.iload_n 2, 1) := by decide +kernel
theorem dX12_book_116 : decode cX12_book 116 = .ok (.iastore, 1) := by decide +kernel
theorem dX12_book_117 : decode cX12_book 117 = .ok (.aload_n 0, 1) := by decide +kernel
theorem dX12_book_118 : decode cX12_book 118 = .ok (.getfield 76, 3) := by decide +kernel
theorem dX12_book_121 : decode cX12_book 121 = .ok (.iconst 2, 1) := by decide +kernel
theorem dX12_book_122 : decode cX12_book 122 = .ok (.aload_n 0, 1) := by decide +kernel
theorem dX12_book_123 : decode cX12_book 123 = .ok (.getfield 13, 3) := by decide +kernel
theorem dX12_book_126 : decode cX12_book 126 = .ok (.bipush 72, 2) := by decide +kernel
theorem dX12_book_128 : decode cX12_book 128 = .ok (.iaload, 1) := by decide +kernel
theorem dX12_book_129 : decode cX12_book 129 = .ok (.iastore, 1) := by decide +kernel
theorem dX12_book_130 : decode cX12_book 130 = .ok (.aload_n 0, 1) := by decide +kernel
theorem dX12_book_131 : decode cX12_book 131 = .ok (.getfield 76, 3) := by decide +kernel
theorem dX12_book_134 : decode cX12_book 134 = .ok (.iconst 3, 1) := by decide +kernel
theorem dX12_book_135 : decode cX12_book 135 = .ok (.aload_n 0, 1) := by decide +kernel
theorem dX12_book_136 : decode cX12_book 136 = .ok (.getfield 13, 3) := by decide +kernel
theorem dX12_book_139 : decode cX12_book 139 = .ok (.bipush 73, 2) := by decide +kernel
theorem dX12_book_141 : decode cX12_book 141 = .ok (.iaload, 1) := by decide +kernel
theorem dX12_book_142 : decode cX12_book 142 = .ok (.iastore, 1) := by decide +kernel
theorem dX12_book_143 : decode cX12_book 143 = .ok (.aload_n 0, 1) := by decide +kernel
theorem dX12_book_144 : decode cX12_book 144 = .ok (.iconst 1, 1) := by decide +kernel
theorem dX12_book_145 : decode cX12_book 145 = .ok (.putfield 373, 3) := by decide +kernel
theorem dX12_book_148 : decode cX12_book 148 = .ok (.aload_n 0, 1) := by decide +kernel
theorem dX12_book_149 : decode cX12_book 149 = .ok (.iload_n 1, 1) := by decide +kernel
theorem dX12_book_150 : decode cX12_book 150 = .ok (.iconst 1, 1) := by decide +kernel
theorem dX12_book_151 : decode cX12_book 151 = .ok (.if_icmp .ne 11, 3) := by decide +kernel
theorem dX12_book_154 : decode cX12_book 154 = .ok (.iload_n 2, 1) := by decide +kernel
theorem dX12_book_155 : decode cX12_book 155 = .ok (.ifCond .le 7, 3) := by decide +kernel
theorem dX12_book_158 : decode cX12_book 158 = .ok (.iconst 1, 1) := by decide +kernel
theorem dX12_book_159 : decode cX12_book 159 = .ok (.goto 4, 3) := by decide +kernel
theorem dX12_book_162 : decode cX12_book 162 = .ok (.iconst 0, 1) := by decide +kernel
theorem dX12_book_163 : decode cX12_book 163 = .ok (.invokevirtual 376, 3) := by decide +kernel
theorem dX12_book_166 : decode cX12_book 166 = .ok (.iload_n 3, 1) := by decide +kernel
theorem dX12_book_167 : decode cX12_book 167 = .ok (.ifCond .ne 7, 3) := by decide +kernel
theorem dX12_book_170 : decode cX12_book 170 = .ok (.iconst (-1), 1) := by decide +kernel
theorem dX12_book_171 : decode cX12_book 171 = .ok (.goto 4, 3) := by decide +kernel
theorem dX12_book_174 : decode cX12_book 174 = .ok (.iload_n 2, 1) := by decide +kernel
theorem dX12_book_175 : decode cX12_book 175 = .ok (.ireturn, 1) := by decide +kernel
theorem dX12_goBy_0 : decode cX12_goBy 0 = .ok (.aload_n 0, 1) := by decide +kernel
theorem dX12_goBy_1 : decode cX12_goBy 1 = .ok (.getfield 73, 3) := by decide +kernel
theorem dX12_goBy_4 : decode cX12_goBy 4 = .ok (.iload_n 1, 1) := by decide +kernel
theorem dX12_goBy_5 : decode cX12_goBy 5 = .ok (.iconst 3, 1) := by decide +kernel
theorem dX12_goBy_6 : decode cX12_goBy 6 = .ok (.iadd, 1) := by decide +kernel
theorem dX12_goBy_7 : decode cX12_goBy 7 = .ok (.iaload, 1) := by decide +kernel
theorem dX12_goBy_8 : decode cX12_goBy 8 = .ok (.istore_n 2, 1) := by decide +kernel
theorem dX12_goBy_9 : decode cX12_goBy 9 = .ok (.aload_n 0, 1) := by decide +kernel
theorem dX12_goBy_10 : decode cX12_goBy 10 = .ok (.getfield 73, 3) := by decide +kernel
theorem dX12_goBy_13 : decode cX12_goBy 13 = .ok (.iload_n 1, 1) := by decide +kernel
theorem dX12_goBy_14 : decode cX12_goBy 14 = .ok (.iaload, 1) := by decide +kernel
theorem dX12_goBy_15 : decode cX12_goBy 15 = .ok (.bipush 6, 2) := by decide +kernel
theorem dX12_goBy_17 : decode cX12_goBy 17 = .ok (.if_icmp .ne 29, 3) := by decide +kernel
theorem dX12_goBy_20 : decode cX12_goBy 20 = .ok (.aload_n 0, 1) := by decide +kernel
theorem dX12_goBy_21 : decode cX12_goBy 21 = .ok (.getfield 13, 3) := by decide +kernel
theorem dX12_goBy_24 : decode cX12_goBy 24 = .ok (.bipush 72, 2) := by decide +kernel
theorem dX12_goBy_26 : decode cX12_goBy 26 = .ok (.iaload, 1) := by decide +kernel
theorem dX12_goBy_27 : decode cX12_goBy 27 = .ok (.iload_n 2, 1) := by decide +kernel
theorem dX12_goBy_28 : decode cX12_goBy 28 = .ok (.iadd, 1) := by decide +kernel
theorem dX12_goBy_29 : decode cX12_goBy 29 = .ok (.sipush 200, 3) := by decide +kernel
theorem dX12_goBy_32 : decode cX12_goBy 32 = .ok (.if_icmp .le 6, 3) := by decide +kernel
theorem dX12_goBy_35 : decode cX12_goBy 35 = .ok (.bipush 61, 2) := by decide +kernel
theorem dX12_goBy_37 : decode cX12_goBy 37 = .ok (.ireturn, 1) := by decide +kernel
theorem dX12_goBy_38 : decode cX12_goBy 38 = .ok (.aload_n 0, 1) := by decide +kernel
theorem dX12_goBy_39 : decode cX12_goBy 39 = .ok (.iload_n 2, 1) := by decide +kernel
theorem dX12_goBy_40 : decode cX12_goBy 40 = .ok (.invokevirtual 295, 3) := by decide +kernel
theorem dX12_goBy_43 : decode cX12_goBy 43 = .ok (.pop, 1) := by decide +kernel
theorem dX12_goBy_44 : decode cX12_goBy 44 = .ok (.iconst 0, 1) := by decide +kernel
theorem dX12_goBy_45 : decode cX12_goBy 45 = .ok (.ireturn, 1) := by decide +kernel
theorem dX12_goBy_46 : decode cX12_goBy 46 = .ok (.aload_n 0, 1) := by decide +kernel
theorem dX12_goBy_47 : decode cX12_goBy 47 = .ok (.aload_n 0, 1) := by decide +kernel
theorem dX12_goBy_48 : decode cX12_goBy 48 = .ok (.getfield 73, 3) := by decide +kernel
theorem dX12_goBy_51 : decode cX12_goBy 51 = .ok (.iload_n 1, 1) := by decide +kernel
theorem dX12_goBy_52 : decode cX12_goBy 52 = .ok (.iaload, 1) := by decide +kernel
theorem dX12_goBy_53 : decode cX12_goBy 53 = .ok (.aload_n 0, 1) := by decide +kernel
theorem dX12_goBy_54 : decode cX12_goBy 54 = .ok (.getfield 73, 3) := by decide +kernel
theorem dX12_goBy_57 : decode cX12_goBy 57 = .ok (.iload_n 1, 1) := by decide +kernel
theorem dX12_goBy_58 : decode cX12_goBy 58 = .ok (.iconst 1, 1) := by decide +kernel
theorem dX12_goBy_59 : decode cX12_goBy 59 = .ok (.iadd, 1) := by decide +kernel
theorem dX12_goBy_60 : decode cX12_goBy 60 = .ok (.iaload, 1) := by decide +kernel
theorem dX12_goBy_61 : decode cX12_goBy 61 = .ok (.aload_n 0, 1) := by decide +kernel
theorem dX12_goBy_62 : decode cX12_goBy 62 = .ok (.getfield 73, 3) := by decide +kernel
theorem dX12_goBy_65 : decode cX12_goBy 65 = .ok (.iload_n 1, 1) := by decide +kernel
theorem dX12_goBy_66 : decode cX12_goBy 66 = .ok (.iconst 2, 1) := by decide +kernel
theorem dX12_goBy_67 : decode cX12_goBy 67 = .ok (.iadd, 1) := by decide +kernel
theorem dX12_goBy_68 : decode cX12_goBy 68 = .ok (.iaload, 1) := by decide +kernel
theorem dX12_goBy_69 : decode cX12_goBy 69 = .ok (.iload_n 2, 1) := by decide +kernel
theorem dX12_goBy_70 : decode cX12_goBy 70 = .ok (.invokevirtual 278, 3) := by decide +kernel
theorem dX12_goBy_73 : decode cX12_goBy 73 = .ok (.istore_n 3, 1) := by decide +kernel
theorem dX12_goBy_74 : decode cX12_goBy 74 = .ok (.iload_n 3, 1) := by decide +kernel
theorem dX12_goBy_75 : decode cX12_goBy 75 = .ok (.ifCond .eq 15, 3) := by decide +kernel
theorem dX12_goBy_78 : decode cX12_goBy 78 = .ok (.bipush 10, 2) := by decide +kernel
theorem dX12_goBy_80 : decode cX12_goBy 80 = .ok (.aload_n 0, 1) := by decide +kernel
theorem dX12_goBy_81 : decode cX12_goBy 81 = .ok (.getfield 73, 3) := by decide +kernel
theorem dX12_goBy_84 : decode cX12_goBy 84 = .ok (.iload_n 1, 1) := by decide +kernel
theorem dX12_goBy_85 : decode cX12_goBy 85 = .ok (.iaload, 1) := by decide +kernel
theorem dX12_goBy_86 : decode cX12_goBy 86 = .ok (.imul, 1) := by decide +kernel
theorem dX12_goBy_87 : decode cX12_goBy 87 = .ok (.iload_n 3, 1) := by decide +kernel
theorem dX12_goBy_88 : decode cX12_goBy 88 = .ok (.iadd, 1) := by decide +kernel
theorem dX12_goBy_89 : decode cX12_goBy 89 = .ok (.ireturn, 1) := by decide +kernel
theorem dX12_goBy_90 : decode cX12_goBy 90 = .ok (.aload_n 0, 1) := by decide +kernel
theorem dX12_goBy_91 : decode cX12_goBy 91 = .ok (.aload_n 0, 1) := by decide +kernel
theorem dX12_goBy_92 : decode cX12_goBy 92 = .ok (.getfield 73, 3) := by decide +kernel
theorem dX12_goBy_95 : decode cX12_goBy 95 = .ok (.iload_n 1, 1) := by decide +kernel
theorem dX12_goBy_96 : decode cX12_goBy 96 = .ok (.iaload, 1) := by decide +kernel
theorem dX12_goBy_97 : decode cX12_goBy 97 = .ok (.aload_n 0, 1) := by decide +kernel
theorem dX12_goBy_98 : decode cX12_goBy 98 = .ok (.getfield 73, 3) := by decide +kernel
theorem dX12_goBy_101 : decode cX12_goBy 101 = .ok (.iload_n 1, 1) := by decide +kernel
theorem dX12_goBy_102 : decode cX12_goBy 102 = .ok (.iconst 1, 1) := by decide +kernel
theorem dX12_goBy_103 : decode cX12_goBy 103 = .ok (.iadd, 1) := by decide +kernel
theorem dX12_goBy_104 : decode cX12_goBy 104 = .ok (.iaload, 1) := by decide +kernel
theorem dX12_goBy_105 : decode cX12_goBy 105 = .ok (.aload_n 0, 1) := by decide +kernel
theorem dX12_goBy_106 : decode cX12_goBy 106 = .ok (.getfield 73, 3) := by decide +kernel
theorem dX12_goBy_109 : decode cX12_goBy 109 = .ok (.iload_n 1, 1) := by decide +kernel
theorem dX12_goBy_110 : decode cX12_goBy 110 = .ok (.iconst 2, 1) := by decide +kernel
theorem dX12_goBy_111 : decode cX12_goBy 111 = .ok (.iadd, 1) := by decide +kernel
theorem dX12_goBy_112 : decode cX12_goBy 112 = .ok (.iaload, 1) := by decide +kernel
theorem dX12_goBy_113 : decode cX12_goBy 113 = .ok (.iload_n 2, 1) := by decide +kernel
theorem dX12_goBy_114 : decode cX12_goBy 114 = .ok (.invokevirtual 285, 3) := by decide +kernel
theorem dX12_goBy_117 : decode cX12_goBy 117 = .ok (.iconst 0, 1) := by decide +kernel
theorem dX12_goBy_118 : decode cX12_goBy 118 = .ok (.ireturn, 1) := by decide +kernel
theorem dX12_readAnd_0 : decode cX12_readAnd 0 = .ok (.aload_n 0, 1) := by decide +kernel
theorem dX12_readAnd_1 : decode cX12_readAnd 1 = .ok (.invokevirtual 392, 3) := by decide +kernel
theorem dX12_readAnd_4 : decode cX12_readAnd 4 = .ok (.ifCond .ne 5, 3) := by decide +kernel
theorem dX12_readAnd_7 : decode cX12_readAnd 7 = .ok (.iconst 0, 1) := by decide +kernel
theorem dX12_readAnd_8 : decode cX12_readAnd 8 = .ok (.ireturn, 1) := by decide +kernel
theorem dX12_readBookLine_0 : decode cX12_readBookLine 0 = .ok (.aload_n 0, 1) := by decide +kernel
theorem dX12_readBookLine_1 : decode cX12_readBookLine 1 = .ok (.bipush 15, 2) := by decide +kernel
theorem dX12_readBookLine_3 : decode cX12_readBookLine 3 = .ok (.invokevirtual 191, 3) := by decide +kernel
theorem dX12_readBookLine_6 : decode cX12_readBookLine 6 = .ok (.istore_n 1, 1) := by decide +kernel
theorem dX12_readBookLine_7 : decode cX12_readBookLine 7 = .ok (.iload_n 1, 1) := by decide +kernel
theorem dX12_readBookLine_8 : decode cX12_readBookLine 8 = .ok (.ifCond .ne 44, 3) := by decide +kernel
theorem dX12_readBookLine_11 : decode cX12_readBookLine 11 = .ok (.aload_n 0, 1) := by decide +kernel
theorem dX12_readBookLine_12 : decode cX12_readBookLine 12 = .ok (.invokevirtual 166, 3) := by decide +kernel
theorem dX12_readBookLine_15 : decode cX12_readBookLine 15 = .ok (.ifCond .ne 9, 3) := by decide +kernel
theorem dX12_readBookLine_18 : decode cX12_readBookLine 18 = .ok (.aload_n 0, 1) := by decide +kernel
theorem dX12_readBookLine_19 : decode cX12_readBookLine 19 = .ok (.iconst 1, 1) := by decide +kernel
theorem dX12_readBookLine_20 : decode cX12_readBookLine 20 = .ok (.invokevirtual 146, 3) := by decide +kernel
theorem dX12_readBookLine_23 : decode cX12_readBookLine 23 = .ok (.ireturn, 1) := by decide +kernel
theorem dX12_readBookLine_24 : decode cX12_readBookLine 24 = .ok (.aload_n 0, 1) := by decide +kernel
theorem dX12_readBookLine_25 : decode cX12_readBookLine 25 = .ok (.getfield 28, 3) := by decide +kernel
theorem dX12_readBookLine_28 : decode cX12_readBookLine 28 = .ok (.iconst 0, 1) := by decide +kernel
theorem dX12_readBookLine_29 : decode cX12_readBookLine 29 = .ok (.aload_n 0, 1) := by decide +kernel
theorem dX12_readBookLine_30 : decode cX12_readBookLine 30 = .ok (.getfield 13, 3) := by decide +kernel
theorem dX12_readBookLine_33 : decode cX12_readBookLine 33 = .ok (.iconst 0, 1) := by decide +kernel
theorem dX12_readBookLine_34 : decode cX12_readBookLine 34 = .ok (.iaload, 1) := by decide +kernel
theorem dX12_readBookLine_35 : decode cX12_readBookLine 35 = .ok (.aload_n 0, 1) := by decide +kernel
theorem dX12_readBookLine_36 : decode cX12_readBookLine 36 = .ok (.getfield 117, 3) := by decide +kernel
theorem dX12_readBookLine_39 : decode cX12_readBookLine 39 = .ok (.invokestatic 170, 3) := by decide +kernel
theorem dX12_readBookLine_42 : decode cX12_readBookLine 42 = .ok (.iconst (-1), 1) := by decide +kernel
theorem dX12_readBookLine_43 : decode cX12_readBookLine 43 = .ok (.if_icmp .ne 9, 3) := by decide +kernel
theorem dX12_readBookLine_46 : decode cX12_readBookLine 46 = .ok (.aload_n 0, 1) := by decide +kernel
theorem dX12_readBookLine_47 : decode cX12_readBookLine 47 = .ok (.iconst 3, 1) := by decide +kernel
theorem dX12_readBookLine_48 : decode cX12_readBookLine 48 = .ok (.invokevirtual 146, 3) := by decide +kernel
theorem dX12_readBookLine_51 : decode cX12_readBookLine 51 = .ok (.ireturn, 1) := by decide +kernel
theorem dX12_readBookLine_52 : decode cX12_readBookLine 52 = .ok (.aload_n 0, 1) := by decide +kernel
theorem dX12_readBookLine_53 : decode cX12_readBookLine 53 = .ok (.getfield 361, 3) := by decide +kernel
theorem dX12_readBookLine_56 : decode cX12_readBookLine 56 = .ok (.bipush 40, 2) := by decide +kernel
theorem dX12_readBookLine_58 : decode cX12_readBookLine 58 = .ok (.if_icmp .ne 9, 3) := by decide +kernel
theorem dX12_readBookLine_61 : decode cX12_readBookLine 61 = .ok (.aload_n 0, 1) := by decide +kernel
theorem dX12_readBookLine_62 : decode cX12_readBookLine 62 = .ok (.iconst 4, 1) := by decide +kernel
theorem dX12_readBookLine_63 : decode cX12_readBookLine 63 = .ok (.invokevirtual 146, 3) := by decide +kernel
theorem dX12_readBookLine_66 : decode cX12_readBookLine 66 = .ok (.ireturn, 1) := by decide +kernel
theorem dX12_readBookLine_67 : decode cX12_readBookLine 67 = .ok (.iconst 4, 1) := by decide +kernel
theorem dX12_readBookLine_68 : decode cX12_readBookLine 68 = .ok (.aload_n 0, 1) := by decide +kernel
theorem dX12_readBookLine_69 : decode cX12_readBookLine 69 = .ok (.getfield 361, 3) := by decide +kernel
theorem dX12_readBookLine_72 : decode cX12_readBookLine 72 = .ok (.imul, 1) := by decide +kernel
theorem dX12_readBookLine_73 : decode cX12_readBookLine 73 = .ok (.istore_n 2, 1) := by decide +kernel
theorem dX12_readBookLine_74 : decode cX12_readBookLine 74 = .ok (.aload_n 0, 1) := by decide +kernel
theorem dX12_readBookLine_75 : decode cX12_readBookLine 75 = .ok (.getfield 73, 3) := by decide +kernel
theorem dX12_readBookLine_78 : decode cX12_readBookLine 78 = .ok (.iload_n 2, 1) := by decide +kernel
theorem dX12_readBookLine_79 : decode cX12_readBookLine 79 = .ok (.bipush 6, 2) := by decide +kernel
theorem dX12_readBookLine_81 : decode cX12_readBookLine 81 = .ok (.iastore, 1) := by decide +kernel
theorem dX12_readBookLine_82 : decode cX12_readBookLine 82 = .ok (.aload_n 0, 1) := by decide +kernel
theorem dX12_readBookLine_83 : decode cX12_readBookLine 83 = .ok (.getfield 73, 3) := by decide +kernel
theorem dX12_readBookLine_86 : decode cX12_readBookLine 86 = .ok (.iload_n 2, 1) := by decide +kernel
theorem dX12_readBookLine_87 : decode cX12_readBookLine 87 = .ok (.iconst 1, 1) := by decide +kernel
theorem dX12_readBookLine_88 : decode cX12_readBookLine 88 = .ok (.iadd, 1) := by decide +kernel
theorem dX12_readBookLine_89 : decode cX12_readBookLine 89 = .ok (.iload_n 1, 1) := by decide +kernel
theorem dX12_readBookLine_90 : decode cX12_readBookLine 90 = .ok (.ifCond .eq 7, 3) := by decide +kernel
theorem dX12_readBookLine_93 : decode cX12_readBookLine 93 = .ok (.iconst 0, 1) := by decide +kernel
theorem dX12_readBookLine_94 : decode cX12_readBookLine 94 = .ok (.goto 21, 3) := by decide +kernel
theorem dX12_readBookLine_97 : decode cX12_readBookLine 97 = .ok (.aload_n 0, 1) := by decide +kernel
theorem dX12_readBookLine_98 : decode cX12_readBookLine 98 = .ok (.getfield 28, 3) := by decide +kernel
theorem dX12_readBookLine_101 : decode cX12_readBookLine 101 = .ok (.iconst 0, 1) := by decide +kernel
theorem dX12_readBookLine_102 : decode cX12_readBookLine 102 = .ok (.aload_n 0, 1) := by decide +kernel
theorem dX12_readBookLine_103 : decode cX12_readBookLine 103 = .ok (.getfield 13, 3) := by decide +kernel
theorem dX12_readBookLine_106 : decode cX12_readBookLine 106 = .ok (.iconst 0, 1) := by decide +kernel
theorem dX12_readBookLine_107 : decode cX12_readBookLine 107 = .ok (.iaload, 1) := by decide +kernel
theorem dX12_readBookLine_108 : decode cX12_readBookLine 108 = .ok (.aload_n 0, 1) := by decide +kernel
theorem dX12_readBookLine_109 : decode cX12_readBookLine 109 = .ok (.getfield 117, 3) := by decide +kernel
theorem dX12_readBookLine_112 : decode cX12_readBookLine 112 = .ok (.invokestatic 170, 3) := by decide +kernel
theorem dX12_readBookLine_115 : decode cX12_readBookLine 115 = .ok (.iastore, 1) := by decide +kernel
theorem dX12_readBookLine_116 : decode cX12_readBookLine 116 = .ok (.aload_n 0, 1) := by decide +kernel
theorem dX12_readBookLine_117 : decode cX12_readBookLine 117 = .ok (.getfield 73, 3) := by decide +kernel
theorem dX12_readBookLine_120 : decode cX12_readBookLine 120 = .ok (.iload_n 2, 1) := by decide +kernel
theorem dX12_readBookLine_121 : decode cX12_readBookLine 121 = .ok (.iconst 2, 1) := by decide +kernel
theorem dX12_readBookLine_122 : decode cX12_readBookLine 122 = .ok (.iadd, 1) := by decide +kernel
theorem dX12_readBookLine_123 : decode cX12_readBookLine 123 = .ok (.iconst 0, 1) := by decide +kernel
theorem dX12_readBookLine_124 : decode cX12_readBookLine 124 = .ok (.iastore, 1) := by decide +kernel
theorem dX12_readBookLine_125 : decode cX12_readBookLine 125 = .ok (.aload_n 0, 1) := by decide +kernel
theorem dX12_readBookLine_126 : decode cX12_readBookLine 126 = .ok (.invokevirtual 156, 3) := by decide +kernel
theorem dX12_readBookLine_129 : decode cX12_readBookLine 129 = .ok (.iload_n 1, 1) := by decide +kernel
theorem dX12_readBookLine_130 : decode cX12_readBookLine 130 = .ok (.ifCond .ne 24, 3) := by decide +kernel
theorem dX12_readBookLine_133 : decode cX12_readBookLine 133 = .ok (.aload_n 0, 1) := by decide +kernel
theorem dX12_readBookLine_134 : decode cX12_readBookLine 134 = .ok (.iload_n 2, 1) := by decide +kernel
theorem dX12_readBookLine_135 : decode cX12_readBookLine 135 = .ok (.invokevirtual 364, 3) := by decide +kernel
theorem dX12_readBookLine_138 : decode cX12_readBookLine 138 = .ok (.ifCond .eq 14, 3) := by decide +kernel
theorem dX12_readBookLine_141 : decode cX12_readBookLine 141 = .ok (.aload_n 0, 1) := by decide +kernel
theorem dX12_readBookLine_142 : decode cX12_readBookLine 142 = .ok (.invokevirtual 222, 3) := by decide +kernel
theorem dX12_readBookLine_145 : decode cX12_readBookLine 145 = .ok (.ifCond .eq 7, 3) := by decide +kernel
theorem dX12_readBookLine_148 : decode cX12_readBookLine 148 = .ok (.iconst 1, 1) := by decide +kernel
theorem dX12_readBookLine_149 : decode cX12_readBookLine 149 = .ok (.goto 4, 3) := by decide +kernel
theorem dX12_readBookLine_152 : decode cX12_readBookLine 152 = .ok (.iconst 0, 1) := by decide +kernel
theorem dX12_readBookLine_153 : decode cX12_readBookLine 153 = .ok (.ireturn, 1) := by decide +kernel
theorem dX12_readBookLine_154 : decode cX12_readBookLine 154 = .ok (.aload_n 0, 1) := by decide +kernel
theorem dX12_readBookLine_155 : decode cX12_readBookLine 155 = .ok (.iconst 1, 1) := by decide +kernel
theorem dX12_readBookLine_156 : decode cX12_readBookLine 156 = .ok (.bipush 60, 2) := by decide +kernel
theorem dX12_readBookLine_158 : decode cX12_readBookLine 158 = .ok (.invokevirtual 184, 3) := by decide +kernel
theorem dX12_readBookLine_161 : decode cX12_readBookLine 161 = .ok (.ifCond .ne 5, 3) := by decide +kernel
theorem dX12_readBookLine_164 : decode cX12_readBookLine 164 = .ok (.iconst 0, 1) := by decide +kernel
theorem dX12_readBookLine_165 : decode cX12_readBookLine 165 = .ok (.ireturn, 1) := by decide +kernel
theorem dX12_readBookLine_166 : decode cX12_readBookLine 166 = .ok (.aload_n 0, 1) := by decide +kernel
theorem dX12_readBookLine_167 : decode cX12_readBookLine 167 = .ok (.getfield 73, 3) := by decide +kernel
theorem dX12_readBookLine_170 : decode cX12_readBookLine 170 = .ok (.iload_n 2, 1) := by decide +kernel
theorem dX12_readBookLine_171 : decode cX12_readBookLine 171 = .ok (.iconst 3, 1) := by decide +kernel
theorem dX12_readBookLine_172 : decode cX12_readBookLine 172 = .ok (.iadd, 1) := by decide +kernel
theorem dX12_readBookLine_173 : decode cX12_readBookLine 173 = .ok (.aload_n 0, 1) := by decide +kernel
theorem dX12_readBookLine_174 : decode cX12_readBookLine 174 = .ok (.getfield 153, 3) := by decide +kernel
theorem dX12_readBookLine_177 : decode cX12_readBookLine 177 = .ok (.iastore, 1) := by decide +kernel
theorem dX12_readBookLine_178 : decode cX12_readBookLine 178 = .ok (.aload_n 0, 1) := by decide +kernel
theorem dX12_readBookLine_179 : decode cX12_readBookLine 179 = .ok (.invokevirtual 222, 3) := by decide +kernel
theorem dX12_readBookLine_182 : decode cX12_readBookLine 182 = .ok (.ireturn, 1) := by decide +kernel
theorem dX12_readBracket_0 : decode cX12_readBracket 0 = .ok (.aload_n 0, 1) := by decide +kernel
theorem dX12_readBracket_1 : decode cX12_readBracket 1 = .ok (.invokevirtual 413, 3) := by decide +kernel
theorem dX12_readBracket_4 : decode cX12_readBracket 4 = .ok (.ifCond .ne 5, 3) := by decide +kernel
theorem dX12_readBracket_7 : decode cX12_readBracket 7 = .ok (.iconst 0, 1) := by decide +kernel
theorem dX12_readBracket_8 : decode cX12_readBracket 8 = .ok (.ireturn, 1) := by decide +kernel
theorem dX12_readDoes_0 : decode cX12_readDoes 0 = .ok (.bipush 9, 2) := by decide +kernel
theorem dX12_readDoes_2 : decode cX12_readDoes 2 = .ok (.istore_n 2, 1) := by decide +kernel
theorem dX12_readDoes_3 : decode cX12_readDoes 3 = .ok (.iload_n 2, 1) := by decide +kernel
theorem dX12_readDoes_4 : decode cX12_readDoes 4 = .ok (.bipush 14, 2) := by decide +kernel
theorem dX12_readDoes_6 : decode cX12_readDoes 6 = .ok (.if_icmp .gt 17, 3) := by decide +kernel
theorem dX12_readDoes_9 : decode cX12_readDoes 9 = .ok (.aload_n 0, 1) := by decide +kernel
theorem dX12_readDoes_10 : decode cX12_readDoes 10 = .ok (.iload_n 2, 1) := by decide +kernel
theorem dX12_readDoes_11 : decode cX12_readDoes 11 = .ok (.invokevirtual 191, 3) := by decide +kernel
theorem dX12_readDoes_14 : decode cX12_readDoes 14 = .ok (.ifCond .ne 9, 3) := by decide +kernel
theorem dX12_readDoes_17 : decode cX12_readDoes 17 = .ok (.iinc 2 1, 3) := by decide +kernel
theorem dX12_readDoes_20 : decode cX12_readDoes 20 = .ok (.goto (-17), 3) := by decide +kernel
theorem dX12_readDoes_23 : decode cX12_readDoes 23 = .ok (.iload_n 2, 1) := by decide +kernel
theorem dX12_readDoes_24 : decode cX12_readDoes 24 = .ok (.bipush 14, 2) := by decide +kernel
theorem dX12_readDoes_26 : decode cX12_readDoes 26 = .ok (.if_icmp .le 9, 3) := by decide +kernel
theorem dX12_readDoes_29 : decode cX12_readDoes 29 = .ok (.aload_n 0, 1) := by decide +kernel
theorem dX12_readDoes_30 : decode cX12_readDoes 30 = .ok (.iconst 1, 1) := by decide +kernel
theorem dX12_readDoes_31 : decode cX12_readDoes 31 = .ok (.invokevirtual 146, 3) := by decide +kernel
theorem dX12_readDoes_34 : decode cX12_readDoes 34 = .ok (.ireturn, 1) := by decide +kernel
theorem dX12_readDoes_35 : decode cX12_readDoes 35 = .ok (.aload_n 0, 1) := by decide +kernel
theorem dX12_readDoes_36 : decode cX12_readDoes 36 = .ok (.getfield 73, 3) := by decide +kernel
theorem dX12_readDoes_39 : decode cX12_readDoes 39 = .ok (.iload_n 1, 1) := by decide +kernel
theorem dX12_readDoes_40 : decode cX12_readDoes 40 = .ok (.iload_n 2, 1) := by decide +kernel
theorem dX12_readDoes_41 : decode cX12_readDoes 41 = .ok (.bipush 9, 2) := by decide +kernel
theorem dX12_readDoes_43 : decode cX12_readDoes 43 = .ok (.isub, 1) := by decide +kernel
theorem dX12_readDoes_44 : decode cX12_readDoes 44 = .ok (.iastore, 1) := by decide +kernel
theorem dX12_readDoes_45 : decode cX12_readDoes 45 = .ok (.aload_n 0, 1) := by decide +kernel
theorem dX12_readDoes_46 : decode cX12_readDoes 46 = .ok (.invokevirtual 156, 3) := by decide +kernel
theorem dX12_readDoes_49 : decode cX12_readDoes 49 = .ok (.aload_n 0, 1) := by decide +kernel
theorem dX12_readDoes_50 : decode cX12_readDoes 50 = .ok (.getfield 73, 3) := by decide +kernel
theorem dX12_readDoes_53 : decode cX12_readDoes 53 = .ok (.iload_n 1, 1) := by decide +kernel
theorem dX12_readDoes_54 : decode cX12_readDoes 54 = .ok (.iaload, 1) := by decide +kernel
theorem dX12_readDoes_55 : decode cX12_readDoes 55 = .ok (.iconst 1, 1) := by decide +kernel
theorem dX12_readDoes_56 : decode cX12_readDoes 56 = .ok (.if_icmp .le 5, 3) := by decide +kernel
theorem dX12_readDoes_59 : decode cX12_readDoes 59 = .ok (.iconst 1, 1) := by decide +kernel
theorem dX12_readDoes_60 : decode cX12_readDoes 60 = .ok (.ireturn, 1) := by decide +kernel
theorem dX12_readDoes_61 : decode cX12_readDoes 61 = .ok (.aload_n 0, 1) := by decide +kernel
theorem dX12_readDoes_62 : decode cX12_readDoes 62 = .ok (.invokevirtual 166, 3) := by decide +kernel
theorem dX12_readDoes_65 : decode cX12_readDoes 65 = .ok (.ifCond .ne 9, 3) := by decide +kernel
theorem dX12_readDoes_68 : decode cX12_readDoes 68 = .ok (.aload_n 0, 1) := by decide +kernel
theorem dX12_readDoes_69 : decode cX12_readDoes 69 = .ok (.iconst 1, 1) := by decide +kernel
theorem dX12_readDoes_70 : decode cX12_readDoes 70 = .ok (.invokevirtual 146, 3) := by decide +kernel
theorem dX12_readDoes_73 : decode cX12_readDoes 73 = .ok (.ireturn, 1) := by decide +kernel
theorem dX12_readDoes_74 : decode cX12_readDoes 74 = .ok (.aload_n 0, 1) := by decide +kernel
theorem dX12_readDoes_75 : decode cX12_readDoes 75 = .ok (.getfield 73, 3) := by decide +kernel
theorem dX12_readDoes_78 : decode cX12_readDoes 78 = .ok (.iload_n 1, 1) := by decide +kernel
theorem dX12_readDoes_79 : decode cX12_readDoes 79 = .ok (.iconst 2, 1) := by decide +kernel
theorem dX12_readDoes_80 : decode cX12_readDoes 80 = .ok (.iadd, 1) := by decide +kernel
theorem dX12_readDoes_81 : decode cX12_readDoes 81 = .ok (.aload_n 0, 1) := by decide +kernel
theorem dX12_readDoes_82 : decode cX12_readDoes 82 = .ok (.getfield 28, 3) := by decide +kernel
theorem dX12_readDoes_85 : decode cX12_readDoes 85 = .ok (.bipush 7, 2) := by decide +kernel
theorem dX12_readDoes_87 : decode cX12_readDoes 87 = .ok (.aload_n 0, 1) := by decide +kernel
theorem dX12_readDoes_88 : decode cX12_readDoes 88 = .ok (.getfield 13, 3) := by decide +kernel
theorem dX12_readDoes_91 : decode cX12_readDoes 91 = .ok (.iconst 1, 1) := by decide +kernel
theorem dX12_readDoes_92 : decode cX12_readDoes 92 = .ok (.iaload, 1) := by decide +kernel
theorem dX12_readDoes_93 : decode cX12_readDoes 93 = .ok (.aload_n 0, 1) := by decide +kernel
theorem dX12_readDoes_94 : decode cX12_readDoes 94 = .ok (.getfield 117, 3) := by decide +kernel
theorem dX12_readDoes_97 : decode cX12_readDoes 97 = .ok (.invokestatic 170, 3) := by decide +kernel
theorem dX12_readDoes_100 : decode cX12_readDoes 100 = .ok (.iastore, 1) := by decide +kernel
theorem dX12_readDoes_101 : decode cX12_readDoes 101 = .ok (.aload_n 0, 1) := by decide +kernel
theorem dX12_readDoes_102 : decode cX12_readDoes 102 = .ok (.getfield 73, 3) := by decide +kernel
theorem dX12_readDoes_105 : decode cX12_readDoes 105 = .ok (.iload_n 1, 1) := by decide +kernel
theorem dX12_readDoes_106 : decode cX12_readDoes 106 = .ok (.iconst 2, 1) := by decide +kernel
theorem dX12_readDoes_107 : decode cX12_readDoes 107 = .ok (.iadd, 1) := by decide +kernel
theorem dX12_readDoes_108 : decode cX12_readDoes 108 = .ok (.iaload, 1) := by decide +kernel
theorem dX12_readDoes_109 : decode cX12_readDoes 109 = .ok (.iconst (-1), 1) := by decide +kernel
theorem dX12_readDoes_110 : decode cX12_readDoes 110 = .ok (.if_icmp .ne 9, 3) := by decide +kernel
theorem dX12_readDoes_113 : decode cX12_readDoes 113 = .ok (.aload_n 0, 1) := by decide +kernel
theorem dX12_readDoes_114 : decode cX12_readDoes 114 = .ok (.iconst 3, 1) := by decide +kernel
theorem dX12_readDoes_115 : decode cX12_readDoes 115 = .ok (.invokevirtual 146, 3) := by decide +kernel
theorem dX12_readDoes_118 : decode cX12_readDoes 118 = .ok (.ireturn, 1) := by decide +kernel
theorem dX12_readDoes_119 : decode cX12_readDoes 119 = .ok (.aload_n 0, 1) := by decide +kernel
theorem dX12_readDoes_120 : decode cX12_readDoes 120 = .ok (.invokevirtual 156, 3) := by decide +kernel
theorem dX12_readDoes_123 : decode cX12_readDoes 123 = .ok (.aload_n 0, 1) := by decide +kernel
theorem dX12_readDoes_124 : decode cX12_readDoes 124 = .ok (.iconst 1, 1) := by decide +kernel
theorem dX12_readDoes_125 : decode cX12_readDoes 125 = .ok (.aload_n 0, 1) := by decide +kernel
theorem dX12_readDoes_126 : decode cX12_readDoes 126 = .ok (.getfield 73, 3) := by decide +kernel
theorem dX12_readDoes_129 : decode cX12_readDoes 129 = .ok (.iload_n 1, 1) := by decide +kernel
theorem dX12_readDoes_130 : decode cX12_readDoes 130 = .ok (.iaload, 1) := by decide +kernel
theorem dX12_readDoes_131 : decode cX12_readDoes 131 = .ok (.ifCond .ne 8, 3) := by decide +kernel
theorem dX12_readDoes_134 : decode cX12_readDoes 134 = .ok (.bipush 20, 2) := by decide +kernel
theorem dX12_readDoes_136 : decode cX12_readDoes 136 = .ok (.goto 5, 3) := by decide +kernel
theorem dX12_readDoes_139 : decode cX12_readDoes 139 = .ok (.bipush 40, 2) := by decide +kernel
theorem dX12_readDoes_141 : decode cX12_readDoes 141 = .ok (.invokevirtual 184, 3) := by decide +kernel
theorem dX12_readDoes_144 : decode cX12_readDoes 144 = .ok (.ifCond .ne 5, 3) := by decide +kernel
theorem dX12_readDoes_147 : decode cX12_readDoes 147 = .ok (.iconst 0, 1) := by decide +kernel
theorem dX12_readDoes_148 : decode cX12_readDoes 148 = .ok (.ireturn, 1) := by decide +kernel
theorem dX12_readDoes_149 : decode cX12_readDoes 149 = .ok (.aload_n 0, 1) := by decide +kernel
theorem dX12_readDoes_150 : decode cX12_readDoes 150 = .ok (.getfield 73, 3) := by decide +kernel
theorem dX12_readDoes_153 : decode cX12_readDoes 153 = .ok (.iload_n 1, 1) := by decide +kernel
theorem dX12_readDoes_154 : decode cX12_readDoes 154 = .ok (.iconst 3, 1) := by decide +kernel
theorem dX12_readDoes_155 : decode cX12_readDoes 155 = .ok (.iadd, 1) := by decide +kernel
theorem dX12_readDoes_156 : decode cX12_readDoes 156 = .ok (.aload_n 0, 1) := by decide +kernel
theorem dX12_readDoes_157 : decode cX12_readDoes 157 = .ok (.getfield 153, 3) := by decide +kernel
theorem dX12_readDoes_160 : decode cX12_readDoes 160 = .ok (.iastore, 1) := by decide +kernel
theorem dX12_readDoes_161 : decode cX12_readDoes 161 = .ok (.iconst 1, 1) := by decide +kernel
theorem dX12_readDoes_162 : decode cX12_readDoes 162 = .ok (.ireturn, 1) := by decide +kernel
theorem dX12_readOr_0 : decode cX12_readOr 0 = .ok (.aload_n 0, 1) := by decide +kernel
theorem dX12_readOr_1 : decode cX12_readOr 1 = .ok (.invokevirtual 383, 3) := by decide +kernel
theorem dX12_readOr_4 : decode cX12_readOr 4 = .ok (.ifCond .ne 5, 3) := by decide +kernel
theorem dX12_readOr_7 : decode cX12_readOr 7 = .ok (.iconst 0, 1) := by decide +kernel
theorem dX12_readOr_8 : decode cX12_readOr 8 = .ok (.ireturn, 1) := by decide +kernel
theorem dX12_readSaid_0 : decode cX12_readSaid 0 = .ok (.aload_n 0, 1) := by decide +kernel
theorem dX12_readSaid_1 : decode cX12_readSaid 1 = .ok (.bipush 40, 2) := by decide +kernel
theorem dX12_readSaid_3 : decode cX12_readSaid 3 = .ok (.invokevirtual 159, 3) := by decide +kernel
theorem dX12_readSaid_6 : decode cX12_readSaid 6 = .ok (.istore_n 1, 1) := by decide +kernel
theorem dX12_readSaid_7 : decode cX12_readSaid 7 = .ok (.bipush 18, 2) := by decide +kernel
theorem dX12_readSaid_9 : decode cX12_readSaid 9 = .ok (.istore_n 2, 1) := by decide +kernel
theorem dX12_readSaid_10 : decode cX12_readSaid 10 = .ok (.iload_n 2, 1) := by decide +kernel
theorem dX12_readSaid_11 : decode cX12_readSaid 11 = .ok (.bipush 27, 2) := by decide +kernel
theorem dX12_readSaid_13 : decode cX12_readSaid 13 = .ok (.if_icmp .gt 17, 3) := by decide +kernel
theorem dX12_readSaid_16 : decode cX12_readSaid 16 = .ok (.aload_n 0, 1) := by decide +kernel
theorem dX12_readSaid_17 : decode cX12_readSaid 17 = .ok (.iload_n 2, 1) := by decide +kernel
theorem dX12_readSaid_18 : decode cX12_readSaid 18 = .ok (.invokevirtual 191, 3) := by decide +kernel
theorem dX12_readSaid_21 : decode cX12_readSaid 21 = .ok (.ifCond .ne 9, 3) := by decide +kernel
theorem dX12_readSaid_24 : decode cX12_readSaid 24 = .ok (.iinc 2 1, 3) := by decide +kernel
theorem dX12_readSaid_27 : decode cX12_readSaid 27 = .ok (.goto (-17), 3) := by decide +kernel
theorem dX12_readSaid_30 : decode cX12_readSaid 30 = .ok (.iload_n 1, 1) := by decide +kernel
theorem dX12_readSaid_31 : decode cX12_readSaid 31 = .ok (.ifCond .ne 15, 3) := by decide +kernel
theorem dX12_readSaid_34 : decode cX12_readSaid 34 = .ok (.iload_n 2, 1) := by decide +kernel
theorem dX12_readSaid_35 : decode cX12_readSaid 35 = .ok (.bipush 27, 2) := by decide +kernel
theorem dX12_readSaid_37 : decode cX12_readSaid 37 = .ok (.if_icmp .le 9, 3) := by decide +kernel
theorem dX12_readSaid_40 : decode cX12_readSaid 40 = .ok (.aload_n 0, 1) := by decide +kernel
theorem dX12_readSaid_41 : decode cX12_readSaid 41 = .ok (.iconst 1, 1) := by decide +kernel
theorem dX12_readSaid_42 : decode cX12_readSaid 42 = .ok (.invokevirtual 146, 3) := by decide +kernel
theorem dX12_readSaid_45 : decode cX12_readSaid 45 = .ok (.ireturn, 1) := by decide +kernel
theorem dX12_readSaid_46 : decode cX12_readSaid 46 = .ok (.aload_n 0, 1) := by decide +kernel
theorem dX12_readSaid_47 : decode cX12_readSaid 47 = .ok (.getfield 395, 3) := by decide +kernel
theorem dX12_readSaid_50 : decode cX12_readSaid 50 = .ok (.bipush 20, 2) := by decide +kernel
theorem dX12_readSaid_52 : decode cX12_readSaid 52 = .ok (.if_icmp .eq 12, 3) := by decide +kernel
theorem dX12_readSaid_55 : decode cX12_readSaid 55 = .ok (.aload_n 0, 1) := by decide +kernel
theorem dX12_readSaid_56 : decode cX12_readSaid 56 = .ok (.getfield 398, 3) := by decide +kernel
theorem dX12_readSaid_59 : decode cX12_readSaid 59 = .ok (.bipush 8, 2) := by decide +kernel
theorem dX12_readSaid_61 : decode cX12_readSaid 61 = .ok (.if_icmp .ne 9, 3) := by decide +kernel
theorem dX12_readSaid_64 : decode cX12_readSaid 64 = .ok (.aload_n 0, 1) := by decide +kernel
theorem dX12_readSaid_65 : decode cX12_readSaid 65 = .ok (.iconst 4, 1) := by decide +kernel
theorem dX12_readSaid_66 : decode cX12_readSaid 66 = .ok (.invokevirtual 146, 3) := by decide +kernel
theorem dX12_readSaid_69 : decode cX12_readSaid 69 = .ok (.ireturn, 1) := by decide +kernel
theorem dX12_saysOne_0 : decode cX12_saysOne 0 = .ok (.iconst 4, 1) := by decide +kernel
theorem dX12_saysOne_1 : decode cX12_saysOne 1 = .ok (.aload_n 0, 1) := by decide +kernel
theorem dX12_saysOne_2 : decode cX12_saysOne 2 = .ok (.getfield 380, 3) := by decide +kernel
theorem dX12_saysOne_5 : decode cX12_saysOne 5 = .ok (.imul, 1) := by decide +kernel
theorem dX12_saysOne_6 : decode cX12_saysOne 6 = .ok (.istore 5, 2) := by decide +kernel
theorem dX12_saysOne_8 : decode cX12_saysOne 8 = .ok (.aload_n 0, 1) := by decide +kernel
theorem dX12_saysOne_9 : decode cX12_saysOne 9 = .ok (.getfield 79, 3) := by decide +kernel
theorem dX12_saysOne_12 : decode cX12_saysOne 12 = .ok (.iload 5, 2) := by decide +kernel
theorem dX12_saysOne_14 : decode cX12_saysOne 14 = .ok (.iload_n 1, 1) := by decide +kernel
theorem dX12_saysOne_15 : decode cX12_saysOne 15 = .ok (.iastore, 1) := by decide +kernel
theorem dX12_saysOne_16 : decode cX12_saysOne 16 = .ok (.aload_n 0, 1) := by decide +kernel
theorem dX12_saysOne_17 : decode cX12_saysOne 17 = .ok (.getfield 79, 3) := by decide +kernel
theorem dX12_saysOne_20 : decode cX12_saysOne 20 = .ok (.iload 5, 2) := by decide +kernel
theorem dX12_saysOne_22 : decode cX12_saysOne 22 = .ok (.iconst 1, 1) := by decide +kernel
theorem dX12_saysOne_23 : decode cX12_saysOne 23 = .ok (.iadd, 1) := by decide +kernel
theorem dX12_saysOne_24 : decode cX12_saysOne 24 = .ok (.iload_n 2, 1) := by decide +kernel
theorem dX12_saysOne_25 : decode cX12_saysOne 25 = .ok (.iastore, 1) := by decide +kernel
theorem dX12_saysOne_26 : decode cX12_saysOne 26 = .ok (.aload_n 0, 1) := by decide +kernel
theorem dX12_saysOne_27 : decode cX12_saysOne 27 = .ok (.getfield 79, 3) := by decide +kernel
theorem dX12_saysOne_30 : decode cX12_saysOne 30 = .ok (.iload 5, 2) := by decide +kernel
theorem dX12_saysOne_32 : decode cX12_saysOne 32 = .ok (.iconst 2, 1) := by decide +kernel
theorem dX12_saysOne_33 : decode cX12_saysOne 33 = .ok (.iadd, 1) := by decide +kernel
theorem dX12_saysOne_34 : decode cX12_saysOne 34 = .ok (.iload_n 3, 1) := by decide +kernel
theorem dX12_saysOne_35 : decode cX12_saysOne 35 = .ok (.iastore, 1) := by decide +kernel
theorem dX12_saysOne_36 : decode cX12_saysOne 36 = .ok (.aload_n 0, 1) := by decide +kernel
theorem dX12_saysOne_37 : decode cX12_saysOne 37 = .ok (.getfield 79, 3) := by decide +kernel
theorem dX12_saysOne_40 : decode cX12_saysOne 40 = .ok (.iload 5, 2) := by decide +kernel
theorem dX12_saysOne_42 : decode cX12_saysOne 42 = .ok (.iconst 3, 1) := by decide +kernel
theorem dX12_saysOne_43 : decode cX12_saysOne 43 = .ok (.iadd, 1) := by decide +kernel
theorem dX12_saysOne_44 : decode cX12_saysOne 44 = .ok (.iload 4, 2) := by decide +kernel
theorem dX12_saysOne_46 : decode cX12_saysOne 46 = .ok (.iastore, 1) := by decide +kernel
theorem dX12_saysOne_47 : decode cX12_saysOne 47 = .ok (.aload_n 0, 1) := by decide +kernel
theorem dX12_saysOne_48 : decode cX12_saysOne 48 = .ok (.dup, 1) := by decide +kernel
theorem dX12_saysOne_49 : decode cX12_saysOne 49 = .ok (.getfield 380, 3) := by decide +kernel
theorem dX12_saysOne_52 : decode cX12_saysOne 52 = .ok (.iconst 1, 1) := by decide +kernel
theorem dX12_saysOne_53 : decode cX12_saysOne 53 = .ok (.iadd, 1) := by decide +kernel
theorem dX12_saysOne_54 : decode cX12_saysOne 54 = .ok (.putfield 380, 3) := by decide +kernel
theorem dX12_saysOne_57 : decode cX12_saysOne 57 = .ok (.aload_n 0, 1) := by decide +kernel
theorem dX12_saysOne_58 : decode cX12_saysOne 58 = .ok (.getfield 380, 3) := by decide +kernel
theorem dX12_saysOne_61 : decode cX12_saysOne 61 = .ok (.iconst 1, 1) := by decide +kernel
theorem dX12_saysOne_62 : decode cX12_saysOne 62 = .ok (.isub, 1) := by decide +kernel
theorem dX12_saysOne_63 : decode cX12_saysOne 63 = .ok (.ireturn, 1) := by decide +kernel
theorem dX12_stay_0 : decode cX12_stay 0 = .ok (.iconst 0, 1) := by decide +kernel
theorem dX12_stay_1 : decode cX12_stay 1 = .ok (.istore_n 2, 1) := by decide +kernel
theorem dX12_stay_2 : decode cX12_stay 2 = .ok (.iload_n 2, 1) := by decide +kernel
theorem dX12_stay_3 : decode cX12_stay 3 = .ok (.bipush 75, 2) := by decide +kernel
theorem dX12_stay_5 : decode cX12_stay 5 = .ok (.if_icmp .ge 41, 3) := by decide +kernel
theorem dX12_stay_8 : decode cX12_stay 8 = .ok (.aload_n 0, 1) := by decide +kernel
theorem dX12_stay_9 : decode cX12_stay 9 = .ok (.getfield 13, 3) := by decide +kernel
theorem dX12_stay_12 : decode cX12_stay 12 = .ok (.bipush 72, 2) := by decide +kernel
theorem dX12_stay_14 : decode cX12_stay 14 = .ok (.iload_n 2, 1) := by decide +kernel
theorem dX12_stay_15 : decode cX12_stay 15 = .ok (.iadd, 1) := by decide +kernel
theorem dX12_stay_16 : decode cX12_stay 16 = .ok (.iaload, 1) := by decide +kernel
theorem dX12_stay_17 : decode cX12_stay 17 = .ok (.istore_n 3, 1) := by decide +kernel
theorem dX12_stay_18 : decode cX12_stay 18 = .ok (.aload_n 0, 1) := by decide +kernel
theorem dX12_stay_19 : decode cX12_stay 19 = .ok (.getfield 13, 3) := by decide +kernel
theorem dX12_stay_22 : decode cX12_stay 22 = .ok (.bipush 72, 2) := by decide +kernel
theorem dX12_stay_24 : decode cX12_stay 24 = .ok (.iload_n 2, 1) := by decide +kernel
theorem dX12_stay_25 : decode cX12_stay 25 = .ok (.iadd, 1) := by decide +kernel
theorem dX12_stay_26 : decode cX12_stay 26 = .ok (.aload_n 0, 1) := by decide +kernel
theorem dX12_stay_27 : decode cX12_stay 27 = .ok (.getfield 25, 3) := by decide +kernel
theorem dX12_stay_30 : decode cX12_stay 30 = .ok (.iload_n 2, 1) := by decide +kernel
theorem dX12_stay_31 : decode cX12_stay 31 = .ok (.iaload, 1) := by decide +kernel
theorem dX12_stay_32 : decode cX12_stay 32 = .ok (.iastore, 1) := by decide +kernel
theorem dX12_stay_33 : decode cX12_stay 33 = .ok (.aload_n 0, 1) := by decide +kernel
theorem dX12_stay_34 : decode cX12_stay 34 = .ok (.getfield 25, 3) := by decide +kernel
theorem dX12_stay_37 : decode cX12_stay 37 = .ok (.iload_n 2, 1) := by decide +kernel
theorem dX12_stay_38 : decode cX12_stay 38 = .ok (.iload_n 3, 1) := by decide +kernel
theorem dX12_stay_39 : decode cX12_stay 39 = .ok (.iastore, 1) := by decide +kernel
theorem dX12_stay_40 : decode cX12_stay 40 = .ok (.iinc 2 1, 3) := by decide +kernel
theorem dX12_stay_43 : decode cX12_stay 43 = .ok (.goto (-41), 3) := by decide +kernel
theorem dX12_stay_46 : decode cX12_stay 46 = .ok (.iload_n 1, 1) := by decide +kernel
theorem dX12_stay_47 : decode cX12_stay 47 = .ok (.ifCond .ne 4, 3) := by decide +kernel
theorem dX12_stay_50 : decode cX12_stay 50 = .ok (.return_, 1) := by decide +kernel
theorem dX12_stay_51 : decode cX12_stay 51 = .ok (.aload_n 0, 1) := by decide +kernel
theorem dX12_stay_52 : decode cX12_stay 52 = .ok (.invokevirtual 282, 3) := by decide +kernel
theorem dX12_stay_55 : decode cX12_stay 55 = .ok (.aload_n 0, 1) := by decide +kernel
theorem dX12_stay_56 : decode cX12_stay 56 = .ok (.invokevirtual 332, 3) := by decide +kernel
theorem dX12_stay_59 : decode cX12_stay 59 = .ok (.return_, 1) := by decide +kernel
theorem dX12_told_0 : decode cX12_told 0 = .ok (.aload_n 0, 1) := by decide +kernel
theorem dX12_told_1 : decode cX12_told 1 = .ok (.iconst 0, 1) := by decide +kernel
theorem dX12_told_2 : decode cX12_told 2 = .ok (.putfield 82, 3) := by decide +kernel
theorem dX12_told_5 : decode cX12_told 5 = .ok (.aload_n 0, 1) := by decide +kernel
theorem dX12_told_6 : decode cX12_told 6 = .ok (.getfield 373, 3) := by decide +kernel
theorem dX12_told_9 : decode cX12_told 9 = .ok (.ifCond .eq 21, 3) := by decide +kernel
theorem dX12_told_12 : decode cX12_told 12 = .ok (.iload_n 1, 1) := by decide +kernel
theorem dX12_told_13 : decode cX12_told 13 = .ok (.iconst 0, 1) := by decide +kernel
theorem dX12_told_14 : decode cX12_told 14 = .ok (.iconst 3, 1) := by decide +kernel
theorem dX12_told_15 : decode cX12_told 15 = .ok (.invokestatic 149, 3) := by decide +kernel
theorem dX12_told_18 : decode cX12_told 18 = .ok (.ifCond .eq 12, 3) := by decide +kernel
theorem dX12_told_21 : decode cX12_told 21 = .ok (.aload_n 0, 1) := by decide +kernel
theorem dX12_told_22 : decode cX12_told 22 = .ok (.getfield 76, 3) := by decide +kernel
theorem dX12_told_25 : decode cX12_told 25 = .ok (.iload_n 1, 1) := by decide +kernel
theorem dX12_told_26 : decode cX12_told 26 = .ok (.iaload, 1) := by decide +kernel
theorem dX12_told_27 : decode cX12_told 27 = .ok (.goto 4, 3) := by decide +kernel
theorem dX12_told_30 : decode cX12_told 30 = .ok (.iconst (-1), 1) := by decide +kernel
theorem dX12_told_31 : decode cX12_told 31 = .ok (.ireturn, 1) := by decide +kernel
set_option maxRecDepth 100000 in
set_option maxHeartbeats 8000000 in
theorem c_X12_goBy {l : Launch} {D : va_G} {cy : Nat → ClassId} {L : List Nat} {κ ln : Nat → Nat} {R : Nat → Nat → Option Nat} {I : Nat → Nat → Int32} {J : Nat → Nat → Int64} {ow : Nat → Nat × Nat} (W9 : ∀ a ∈ L, Shp L κ ln R ow a) {x : Nat} (hLx : x ∈ L) (hkx : κ x = 12) (a0 : Int32) (ra0 : Rg 0 156 a0) (hU : Iw L κ R ow I) (hm : a0.toInt % 4 = 0) (hb : ∀ rw, R x 42 = some rw → 0 ≤ (I rw (a0.toNatClampNeg + 2)).toInt) : CtI l yX12_goBy cX12_goBy 4 (some .int) { frames := 5, cells := 0, slots := 0, locals := 120 } D cy L κ ln R I J [.ref x, .int a0] (fun r I2 J2 => Iw L κ R ow I2 ∧ Fq L κ ow [83400] I I2 ∧ Fq L κ ow [] J J2 ∧ Rg 0 61 r ∧ (Hd_ R x I I2)) := by
  refine CtI.of (by decide +kernel) (Nat.le_of_ble_eq_true rfl) ?_
  intro p e s m below meth c B K
  have C := B.1
  have hF : Fq L κ ow [83400] I I := fq_rf
  have hG : Fq L κ ow [] J J := fq_rf
  obtain ⟨b_1, hb_1, hb_1L, hb_1k, hb_1n, hb_1o⟩ := shp_a (W9 x hLx) hkx 14 14 389 rfl (by decide)
  obtain ⟨b_2, hb_2, hb_2L, hb_2k, hb_2n, hb_2o⟩ := shp_a (W9 x hLx) hkx 42 14 160 rfl (by decide)
  refine g_lo (is := [0, 1]) (lo2 := [(0, .ref x), (1, .int a0)]) rfl ?_
  refine g_aload_n C 0 dX12_goBy_0 rfl rfl ?_
  refine g_getR C K hLx hkx f_12_73 hb_2 dX12_goBy_1 ?_
  refine g_iload_n C 1 dX12_goBy_4 rfl rfl ?_
  refine g_iconst C (v := 3) dX12_goBy_5 (by decide) ?_
  obtain ⟨x_3, hx_3, rx_3, tx_3⟩ := ex_add 3 159 ra0 rc_3 (by decide) (by decide) (by decide) (by decide)
  refine g_iadd C (v := x_3) dX12_goBy_6 hx_3 ?_
  obtain ⟨x_4, hx_4, rx_4⟩ := ex_getw (I := I) (a := b_2) (j := x_3.toNatClampNeg) (lo := 0) (hi := 60) hU.1 hb_2L (ro_a hb_2k (by decide) hb_2o hkx rfl) (bn_862.trans (rz_3 (ix_m (md_a (r2 := 3) tx_3 hm rc_3 (by decide)) rx_3 (by decide))))
  refine h_iald C K hb_2L hb_2k (v := x_4) (x_3.toNatClampNeg) (rfl) (ix_0 rx_3 (by decide)) (ix_lt rx_3 (by decide) hb_2n (by decide)) hx_4 dX12_goBy_7 ?_
  refine g_istore_n C dX12_goBy_8 rfl (by decide) (lo2 := [(2, .int x_4), (0, .ref x), (1, .int a0)]) rfl ?_
  refine g_aload_n C 1 dX12_goBy_9 rfl rfl ?_
  refine g_getR C K hLx hkx f_12_73 hb_2 dX12_goBy_10 ?_
  refine g_iload_n C 2 dX12_goBy_13 rfl rfl ?_
  obtain ⟨x_5, hx_5, rx_5⟩ := ex_getw (I := I) (a := b_2) (j := a0.toNatClampNeg) (lo := 0) (hi := 6) hU.1 hb_2L (ro_a hb_2k (by decide) hb_2o hkx rfl) (bn_862.trans (rz_0 (ix_m hm ra0 (by decide))))
  refine h_iald C K hb_2L hb_2k (v := x_5) (a0.toNatClampNeg) (rfl) (ix_0 ra0 (by decide)) (ix_lt ra0 (by decide) hb_2n (by decide)) hx_5 dX12_goBy_14 ?_
  refine g_bipush C (v := 6) dX12_goBy_15 (by decide) ?_
  refine g_icmp_ne C (tgt := 46) dX12_goBy_17 (by decide) (fun h_6 => ?_) (fun h_6 => ?_)
  · skip
    have n_7 : ¬ x_5 = 6 := h_6
    have r_8 := ne_hi (hi := 5) n_7 rx_5 rc_6 rfl (by decide)
    refine g_aload_n C 1 dX12_goBy_46 rfl rfl ?_
    refine g_aload_n C 1 dX12_goBy_47 rfl rfl ?_
    refine g_getR C K hLx hkx f_12_73 hb_2 dX12_goBy_48 ?_
    refine g_iload_n C 2 dX12_goBy_51 rfl rfl ?_
    refine h_iald C K hb_2L hb_2k (v := x_5) (a0.toNatClampNeg) (rfl) (ix_0 ra0 (by decide)) (ix_lt ra0 (by decide) hb_2n (by decide)) hx_5 dX12_goBy_52 ?_
    refine g_aload_n C 1 dX12_goBy_53 rfl rfl ?_
    refine g_getR C K hLx hkx f_12_73 hb_2 dX12_goBy_54 ?_
    refine g_iload_n C 2 dX12_goBy_57 rfl rfl ?_
    refine g_iconst C (v := 1) dX12_goBy_58 (by decide) ?_
    obtain ⟨x_10, hx_10, rx_10, tx_10⟩ := ex_add 1 157 ra0 rc_1 (by decide) (by decide) (by decide) (by decide)
    refine g_iadd C (v := x_10) dX12_goBy_59 hx_10 ?_
    obtain ⟨x_11, hx_11, rx_11⟩ := ex_getw (I := I) (a := b_2) (j := x_10.toNatClampNeg) (lo := 0) (hi := 6) hU.1 hb_2L (ro_a hb_2k (by decide) hb_2o hkx rfl) (bn_862.trans (rz_1 (ix_m (md_a (r2 := 1) tx_10 hm rc_1 (by decide)) rx_10 (by decide))))
    refine h_iald C K hb_2L hb_2k (v := x_11) (x_10.toNatClampNeg) (rfl) (ix_0 rx_10 (by decide)) (ix_lt rx_10 (by decide) hb_2n (by decide)) hx_11 dX12_goBy_60 ?_
    refine g_aload_n C 1 dX12_goBy_61 rfl rfl ?_
    refine g_getR C K hLx hkx f_12_73 hb_2 dX12_goBy_62 ?_
    refine g_iload_n C 2 dX12_goBy_65 rfl rfl ?_
    refine g_iconst C (v := 2) dX12_goBy_66 (by decide) ?_
    obtain ⟨x_12, hx_12, rx_12, tx_12⟩ := ex_add 2 158 ra0 rc_2 (by decide) (by decide) (by decide) (by decide)
    refine g_iadd C (v := x_12) dX12_goBy_67 hx_12 ?_
    obtain ⟨x_13, hx_13, rx_13⟩ := ex_getw (I := I) (a := b_2) (j := x_12.toNatClampNeg) (lo := (-1)) (hi := 5) hU.1 hb_2L (ro_a hb_2k (by decide) hb_2o hkx rfl) (bn_862.trans (rz_2 (ix_m (md_a (r2 := 2) tx_12 hm rc_2 (by decide)) rx_12 (by decide))))
    refine h_iald C K hb_2L hb_2k (v := x_13) (x_12.toNatClampNeg) (rfl) (ix_0 rx_12 (by decide)) (ix_lt rx_12 (by decide) hb_2n (by decide)) hx_13 dX12_goBy_68 ?_
    have r_14 := rg_g0 rx_13 hx_13 (by rw [(show x_12.toNatClampNeg = a0.toNatClampNeg + 2 from by rw [nx_a tx_12 ra0 rc_2 (by decide)]; simp only [show (2 : Int32).toNatClampNeg = 2 from rfl] <;> omega)]; exact hb _ hb_2)
    refine g_iload_n C 0 dX12_goBy_69 rfl rfl ?_
    refine g_callVI C K (c_X12_why W9 hLx hkx x_5 x_11 x_13 x_4 (r_8) (rx_11) (r_14) (rx_4) hU) hLx hkx (by decide) rfl v_12_278 rfl ⟨rfl, rfl⟩ ⟨Nat.le_of_ble_eq_true rfl, Nat.le_of_ble_eq_true rfl⟩ (Nat.le_of_ble_eq_true rfl) ⟨Nat.le_of_ble_eq_true rfl, Nat.le_of_ble_eq_true rfl⟩ dX12_goBy_70 rfl (st := []) (fun x_15 I_16 J_17 h_18 => ?_)
    obtain ⟨rfl, rfl, rx_15, ex_15⟩ := h_18
    refine g_istore_n C dX12_goBy_73 rfl (by decide) (lo2 := [(3, .int x_15), (2, .int x_4), (0, .ref x), (1, .int a0)]) rfl ?_
    refine g_iload_n C 0 dX12_goBy_74 rfl rfl ?_
    refine g_if_eq C (tgt := 90) dX12_goBy_75 (by decide) (fun h_19 => ?_) (fun h_19 => ?_)
    · skip
      have r_20 := (⟨(rx_15).1, (eq_rg (h_19) rc_0).2⟩ : Rg 0 0 x_15)
      refine g_aload_n C 2 dX12_goBy_90 rfl rfl ?_
      refine g_aload_n C 2 dX12_goBy_91 rfl rfl ?_
      refine g_getR C K hLx hkx f_12_73 hb_2 dX12_goBy_92 ?_
      refine g_iload_n C 3 dX12_goBy_95 rfl rfl ?_
      refine h_iald C K hb_2L hb_2k (v := x_5) (a0.toNatClampNeg) (rfl) (ix_0 ra0 (by decide)) (ix_lt ra0 (by decide) hb_2n (by decide)) hx_5 dX12_goBy_96 ?_
      refine g_aload_n C 2 dX12_goBy_97 rfl rfl ?_
      refine g_getR C K hLx hkx f_12_73 hb_2 dX12_goBy_98 ?_
      refine g_iload_n C 3 dX12_goBy_101 rfl rfl ?_
      refine g_iconst C (v := 1) dX12_goBy_102 (by decide) ?_
      refine g_iadd C (v := x_10) dX12_goBy_103 hx_10 ?_
      refine h_iald C K hb_2L hb_2k (v := x_11) (x_10.toNatClampNeg) (rfl) (ix_0 rx_10 (by decide)) (ix_lt rx_10 (by decide) hb_2n (by decide)) hx_11 dX12_goBy_104 ?_
      refine g_aload_n C 2 dX12_goBy_105 rfl rfl ?_
      refine g_getR C K hLx hkx f_12_73 hb_2 dX12_goBy_106 ?_
      refine g_iload_n C 3 dX12_goBy_109 rfl rfl ?_
      refine g_iconst C (v := 2) dX12_goBy_110 (by decide) ?_
      refine g_iadd C (v := x_12) dX12_goBy_111 hx_12 ?_
      refine h_iald C K hb_2L hb_2k (v := x_13) (x_12.toNatClampNeg) (rfl) (ix_0 rx_12 (by decide)) (ix_lt rx_12 (by decide) hb_2n (by decide)) hx_13 dX12_goBy_112 ?_
      refine g_iload_n C 1 dX12_goBy_113 rfl rfl ?_
      refine g_callVV C K (c_X12_live W9 hLx hkx x_5 x_11 x_13 x_4 (r_8) (rx_11) (r_14) (rx_4) hU  (fun a ha => by rw [hb_1] at ha; cases ha; exact (ex_15 (rg_1k r_20 rc_0)) _ hb_1)) hLx hkx (by decide) rfl v_12_285 rfl ⟨rfl, rfl⟩ ⟨Nat.le_of_ble_eq_true rfl, Nat.le_of_ble_eq_true rfl⟩ (Nat.le_of_ble_eq_true rfl) ⟨Nat.le_of_ble_eq_true rfl, Nat.le_of_ble_eq_true rfl⟩ dX12_goBy_114 rfl (st := []) (fun I_25 J_26 h_27 => ?_)
      obtain ⟨hUI_25, hFI_25, hGJ_26, ex_24⟩ := h_27
      have hF_28 := fq_tr hF hFI_25 (by decide)
      have hG_29 := fq_tr hG hGJ_26 (by decide)
      refine g_iconst C (v := 0) dX12_goBy_117 (by decide) ?_
      exact g_zret (ty := .int) (r := 0) B K rfl (rfl) ⟨hUI_25, hF_28, hG_29, rg_w rc_0 (by decide) (by decide), (hd_t hd_rf ex_24)⟩ dX12_goBy_118
    · skip
      have n_30 : ¬ x_15 = 0 := h_19
      have r_31 := ne_lo (lo := 1) n_30 rx_15 rc_0 rfl (by decide)
      refine g_bipush C (v := 10) dX12_goBy_78 (by decide) ?_
      refine g_aload_n C 2 dX12_goBy_80 rfl rfl ?_
      refine g_getR C K hLx hkx f_12_73 hb_2 dX12_goBy_81 ?_
      refine g_iload_n C 3 dX12_goBy_84 rfl rfl ?_
      refine h_iald C K hb_2L hb_2k (v := x_5) (a0.toNatClampNeg) (rfl) (ix_0 ra0 (by decide)) (ix_lt ra0 (by decide) hb_2n (by decide)) hx_5 dX12_goBy_85 ?_
      obtain ⟨x_33, hx_33, rx_33, tx_33⟩ := ex_mulT 0 50 rc_10 r_8 (by decide) (by decide) (by decide) (by decide) (by decide)
      refine g_imul C (v := x_33) dX12_goBy_86 hx_33 ?_
      refine g_iload_n C 0 dX12_goBy_87 rfl rfl ?_
      obtain ⟨x_34, hx_34, rx_34, tx_34⟩ := ex_add 1 53 rx_33 r_31 (by decide) (by decide) (by decide) (by decide)
      refine g_iadd C (v := x_34) dX12_goBy_88 hx_34 ?_
      exact g_zret (ty := .int) (r := x_34) B K rfl (rfl) ⟨hU, hF, hG, rg_w rx_34 (by decide) (by decide), hd_rf⟩ dX12_goBy_89
  · skip
    have r_35 := (⟨(eq_rg (h_6) rc_6).1, (rx_5).2⟩ : Rg 6 6 x_5)
    refine g_aload_n C 1 dX12_goBy_20 rfl rfl ?_
    refine g_getR C K hLx hkx f_12_13 hb_1 dX12_goBy_21 ?_
    refine g_bipush C (v := 72) dX12_goBy_24 (by decide) ?_
    obtain ⟨x_36, hx_36, rx_36⟩ := ex_any (z0 := I b_1 (72))
    refine h_iald C K hb_1L hb_1k (v := x_36) (72) (by decide) (by decide) (by rw [hb_1n]; decide) hx_36 dX12_goBy_26 ?_
    refine g_iload_n C 0 dX12_goBy_27 rfl rfl ?_
    obtain ⟨x_37, hx_37, rx_37⟩ := ex_any (z0 := x_36 + x_4)
    refine g_iadd C (v := x_37) dX12_goBy_28 hx_37 ?_
    refine g_sipush C (v := 200) dX12_goBy_29 (by decide) ?_
    refine g_icmp_le C (tgt := 38) dX12_goBy_32 (by decide) (fun h_38 => ?_) (fun h_38 => ?_)
    · skip
      have r_39 := le_l (h_38) rx_37 rc_200
      refine g_aload_n C 1 dX12_goBy_38 rfl rfl ?_
      refine g_iload_n C 0 dX12_goBy_39 rfl rfl ?_
      refine g_callVI C K (c_X12_passMeals W9 hLx hkx x_4 (rx_4) hU) hLx hkx (by decide) rfl v_12_295 rfl ⟨rfl, rfl⟩ ⟨Nat.le_of_ble_eq_true rfl, Nat.le_of_ble_eq_true rfl⟩ (Nat.le_of_ble_eq_true rfl) ⟨Nat.le_of_ble_eq_true rfl, Nat.le_of_ble_eq_true rfl⟩ dX12_goBy_40 rfl (st := []) (fun x_40 I_41 J_42 h_43 => ?_)
      obtain ⟨hUI_41, hFI_41, hGJ_42, rx_40, ex_40⟩ := h_43
      have hF_44 := fq_tr hF hFI_41 (by decide)
      have hG_45 := fq_tr hG hGJ_42 (by decide)
      refine g_pop C dX12_goBy_43 rfl ?_
      refine g_iconst C (v := 0) dX12_goBy_44 (by decide) ?_
      exact g_zret (ty := .int) (r := 0) B K rfl (rfl) ⟨hUI_41, hF_44, hG_45, rg_w rc_0 (by decide) (by decide), (hd_t hd_rf ex_40)⟩ dX12_goBy_45
    · skip
      have r_46 := lt_r (lo := 201) (nle h_38) rc_200 rx_37 (by decide)
      refine g_bipush C (v := 61) dX12_goBy_35 (by decide) ?_
      exact g_zret (ty := .int) (r := 61) B K rfl (rfl) ⟨hU, hF, hG, rg_w rc_61 (by decide) (by decide), hd_rf⟩ dX12_goBy_37
set_option maxRecDepth 100000 in
set_option maxHeartbeats 8000000 in
theorem c_X12_readNumber_1_20 {l : Launch} {D : va_G} {cy : Nat → ClassId} {L : List Nat} {κ ln : Nat → Nat} {R : Nat → Nat → Option Nat} {I : Nat → Nat → Int32} {J : Nat → Nat → Int64} {ow : Nat → Nat × Nat} (W9 : ∀ a ∈ L, Shp L κ ln R ow a) {x : Nat} (hLx : x ∈ L) (hkx : κ x = 12) (hU : Iw L κ R ow I) : CtI l yX12_readNumber cX12_readNumber 3 (some .boolean) { frames := 2, cells := 0, slots := 0, locals := 45 } D cy L κ ln R I J [.ref x, .int 1, .int 20] (fun r I2 J2 => Iw L κ R ow I2 ∧ Fq L κ ow [1205, 1206, 1207, 1208, 1209, 1210, 1211, 1213] I I2 ∧ Fq L κ ow [1212] J J2 ∧ Rg 0 1 r ∧ ((r, MTf R I2 J2 x, NRf R I2 J2 x) = mReadNumber (1) (20) (MTf R I J x) (NRf R I J x)) ∧ (Pg_ x I I2 ∧ (¬ r = 0 → Ps_ x I I2)) ∧ (¬ r = 0 → Rg 1 20 (I2 x 13))) := by
  refine CtI.of (by decide +kernel) (Nat.le_of_ble_eq_true rfl) ?_
  intro p e s m below meth c B K
  have C := B.1
  have hF : Fq L κ ow [1205, 1206, 1207, 1208, 1209, 1210, 1211, 1213] I I := fq_rf
  have hG : Fq L κ ow [1212] J J := fq_rf
  obtain ⟨b_1, hb_1, hb_1L, hb_1k, hb_1n, hb_1o⟩ := shp_a (W9 x hLx) hkx 1 14 940 rfl (by decide)
  have emqx : ∀ I J, MTf R I J x = MTq I J x b_1 := fun I J => by simp only [MTf, rr_, Option.getD_some, hb_1]
  have wmqx : mqw_ L κ ow x b_1 := ⟨⟨hLx, hb_1L⟩, ⟨(ro_o hkx (by decide)), (ro_a hb_1k (by decide) hb_1o hkx rfl)⟩⟩
  obtain ⟨s_2, hs_2⟩ : ∃ z, MTq I J x b_1 = z := ⟨_, rfl⟩
  obtain ⟨b_3, hb_3, hb_3L, hb_3k, hb_3n, hb_3o⟩ := shp_a (W9 x hLx) hkx 15 14 72 rfl (by decide)
  obtain ⟨b_4, hb_4, hb_4L, hb_4k, hb_4n, hb_4o⟩ := shp_a (W9 x hLx) hkx 20 15 13 rfl (by decide)
  have enqx : ∀ I J, NRf R I J x = NRq I J x b_3 b_4 := fun I J => by simp only [NRf, rr_, Option.getD_some, hb_3, hb_4]
  have wnqx : nqw_ L κ ow x b_3 b_4 := ⟨⟨hLx, hb_3L, hb_4L⟩, ⟨(ro_o hkx (by decide)), (ro_a hb_3k (by decide) hb_3o hkx rfl), (ro_a hb_4k (by decide) hb_4o hkx rfl)⟩⟩
  obtain ⟨s_5, hs_5⟩ : ∃ z, NRq I J x b_3 b_4 = z := ⟨_, rfl⟩
  refine g_lo (is := [0, 1, 2]) (lo2 := [(0, .ref x), (1, .int 1), (2, .int 20)]) rfl ?_
  refine g_aload_n C 0 dX12_readNumber_0 rfl rfl ?_
  obtain ⟨x_6, hx_6, rx_6⟩ := ex_getw (I := I) (a := x) (j := 7) (lo := 0) (hi := 4) hU.1 hLx (ro_o hkx (by decide)) rfl
  have f_7 : s_2.kind = x_6 := (congrArg MT_.kind hs_2).symm.trans hx_6
  refine g_getI C K hLx hkx f_12_104 (v := x_6) hx_6 dX12_readNumber_1 ?_
  refine g_iconst C (v := 3) dX12_readNumber_4 (by decide) ?_
  refine g_icmp_eq C (tgt := 14) dX12_readNumber_5 (by decide) (fun h_8 => ?_) (fun h_8 => ?_)
  · skip
    have r_9 := (⟨(eq_rg (h_8) rc_3).1, (eq_rg (h_8) rc_3).2⟩ : Rg 3 3 x_6)
    refine g_aload_n C 0 dX12_readNumber_14 rfl rfl ?_
    obtain ⟨x_10, hx_10, rx_10⟩ := ex_getw (I := I) (a := x) (j := 8) (lo := (-2147483648)) (hi := 2147483647) hU.1 hLx (ro_o hkx (by decide)) rfl
    have f_11 : s_2.number = x_10 := (congrArg MT_.number hs_2).symm.trans hx_10
    refine g_getI C K hLx hkx f_12_121 (v := x_10) hx_10 dX12_readNumber_15 ?_
    refine g_iload_n C 1 dX12_readNumber_18 rfl rfl ?_
    refine g_iload_n C 2 dX12_readNumber_19 rfl rfl ?_
    refine g_callSI C K (c_X12_isIn W9 x_10 1 20 (rg_w rc_1 (by decide) (by decide)) (rg_w rc_20 (by decide) (by decide)) hU) s_12_149 rfl ⟨rfl, rfl⟩ ⟨Nat.le_of_ble_eq_true rfl, Nat.le_of_ble_eq_true rfl⟩ (Nat.le_of_ble_eq_true rfl) ⟨Nat.le_of_ble_eq_true rfl, Nat.le_of_ble_eq_true rfl⟩ dX12_readNumber_20 rfl (st := []) (fun x_12 I_13 J_14 h_15 => ?_)
    obtain ⟨rfl, rfl, rx_12, fx_12, ex_12⟩ := h_15
    have c_16 : isIn_ (x_10) (1) (20) = x_12 := fx_12.symm
    refine g_if_ne C (tgt := 32) dX12_readNumber_23 (by decide) (fun h_17 => ?_) (fun h_17 => ?_)
    · skip
      have n_18 : ¬ x_12 = 0 := h_17
      have r_19 := ne_lo (lo := 1) n_18 rx_12 rc_0 rfl (by decide)
      have r_20 := le_r (((ex_12.1) n_18)) rc_1 rx_10
      have r_21 := le_l (((ex_12.2) n_18)) r_20 rc_20
      refine g_aload_n C 0 dX12_readNumber_32 rfl rfl ?_
      refine g_aload_n C 0 dX12_readNumber_33 rfl rfl ?_
      refine g_getI C K hLx hkx f_12_121 (v := x_10) hx_10 dX12_readNumber_34 ?_
      refine h_putI C K hLx hkx f_12_153 p_12_13 dX12_readNumber_37 (fun I_22 hI_22 => ?_)
      have hU_23 := iw_put W9 hU hI_22 (ro_o hkx (by decide)) (lo := (-2147483648)) (hi := 2147483647) (rfl) (rg_all _) rfl
      have hF_24 := fq_puto hF hI_22 hkx (by decide) (by decide)
      have hs_25 : MTq I_22 J x b_1 = s_2 := by rw [hI_22]; exact (mq_uIt wmqx (by decide)).trans hs_2
      have hs_26 : NRq I_22 J x b_3 b_4 = (NR_.w_told s_5 (x_10)) := by rw [hI_22]; exact ((nq_told wnqx).trans (congrArg (fun z : NR_ => NR_.w_told z (x_10)) hs_5)).trans rfl
      refine g_aload_n C 0 dX12_readNumber_40 rfl rfl ?_
      refine g_callVV C K (c_X12_go W9 hLx hkx   hU_23) hLx hkx (by decide) rfl v_12_156 rfl ⟨rfl, rfl⟩ ⟨Nat.le_of_ble_eq_true rfl, Nat.le_of_ble_eq_true rfl⟩ (Nat.le_of_ble_eq_true rfl) ⟨Nat.le_of_ble_eq_true rfl, Nat.le_of_ble_eq_true rfl⟩ dX12_readNumber_41 rfl (st := []) (fun I_28 J_29 h_30 => ?_)
      obtain ⟨hUI_28, hFI_28, hGJ_29, fx_27, ex_27⟩ := h_30
      have hF_31 := fq_tr hF_24 hFI_28 (by decide)
      have hG_32 := fq_tr hG hGJ_29 (by decide)
      obtain ⟨s_34, hs_34⟩ : ∃ z, MTq I_28 J_29 x b_1 = z := ⟨_, rfl⟩
      have c_33 : mGo (s_2) = s_34 := by have q := fx_27; simp only [emqx, hs_25, hs_34] at q; exact q.symm
      have hs_35 : NRq I_28 J_29 x b_3 b_4 = (NR_.w_told s_5 (x_10)) := (nq_fq wnqx hFI_28 hGJ_29 (by decide) (by decide)).trans hs_26
      refine g_iconst C (v := 1) dX12_readNumber_44 (by decide) ?_
      exact g_zret (ty := .boolean) (r := 1) B K rfl (rfl) ⟨hUI_28, hF_31, hG_32, rg_w rc_1 (by decide) (by decide), (by simp only [mReadNumber, emqx, hs_34, hs_2, enqx, hs_35, hs_5, hx_6, f_7, (eq_true h_8), hx_10, f_11, c_16, h_17, c_33, if_true, if_false, mqM_tp, mqM_size, mqM_limit, mqM_to, mqM_frm, mqM_kind, mqM_number, mqM_sign, mqM_word, MT_.w_tp, MT_.w_size, MT_.w_limit, MT_.w_to, MT_.w_frm, MT_.w_kind, MT_.w_number, MT_.w_sign, MT_.w_word, nqM_rd, nqM_rn, nqM_taped, nqM_mfault, nqM_mplace, nqM_told, nqM_hl, nqM_hd, NR_.w_rd, NR_.w_rn, NR_.w_taped, NR_.w_mfault, NR_.w_mplace, NR_.w_told, NR_.w_hl, NR_.w_hd]), ⟨(pg_s (ps_t2 (pg_u pg_rf hI_22 (Or.inr (by decide)) (Or.inr (by decide))) ex_27)), fun _ => (ps_t2 (pg_u pg_rf hI_22 (Or.inr (by decide)) (Or.inr (by decide))) ex_27)⟩, (fun _ => eq_rg (fq_at hFI_28 hLx hkx (by decide) (by decide) (kp_s hI_22)) (r_21))⟩ dX12_readNumber_45
    · skip
      have r_36 := (⟨(rx_12).1, (eq_rg (h_17) rc_0).2⟩ : Rg 0 0 x_12)
      refine g_aload_n C 0 dX12_readNumber_26 rfl rfl ?_
      refine g_iconst C (v := 2) dX12_readNumber_27 (by decide) ?_
      refine g_callVI C K (c_X12_bad W9 hLx hkx 2 (rg_w rc_2 (by decide) (by decide)) hU) hLx hkx (by decide) rfl v_12_146 rfl ⟨rfl, rfl⟩ ⟨Nat.le_of_ble_eq_true rfl, Nat.le_of_ble_eq_true rfl⟩ (Nat.le_of_ble_eq_true rfl) ⟨Nat.le_of_ble_eq_true rfl, Nat.le_of_ble_eq_true rfl⟩ dX12_readNumber_28 rfl (st := []) (fun x_37 I_38 J_39 h_40 => ?_)
      obtain ⟨hUI_38, hFI_38, hGJ_39, rx_37, fx_37⟩ := h_40
      have hF_41 := fq_tr hF hFI_38 (by decide)
      have hG_42 := fq_tr hG hGJ_39 (by decide)
      obtain ⟨s_44, hs_44⟩ : ∃ z, MTq I_38 J_39 x b_1 = z := ⟨_, rfl⟩
      obtain ⟨s_45, hs_45⟩ : ∃ z, NRq I_38 J_39 x b_3 b_4 = z := ⟨_, rfl⟩
      have c_43 : mBad (2) (s_2) (s_5) = (x_37, s_44, s_45) := by have q := fx_37; simp only [emqx, enqx, hs_2, hs_5, hs_44, hs_45] at q; exact q.symm
      exact g_zret (ty := .boolean) (r := x_37) B K rfl (nar_z (rg_w rx_37 (by decide) (by decide))) ⟨hUI_38, hF_41, hG_42, rg_w rx_37 (by decide) (by decide), (by simp only [mReadNumber, emqx, hs_44, hs_2, enqx, hs_45, hs_5, hx_6, f_7, (eq_true h_8), hx_10, f_11, c_16, (eq_true h_17), c_43, if_true, if_false, mqM_tp, mqM_size, mqM_limit, mqM_to, mqM_frm, mqM_kind, mqM_number, mqM_sign, mqM_word, MT_.w_tp, MT_.w_size, MT_.w_limit, MT_.w_to, MT_.w_frm, MT_.w_kind, MT_.w_number, MT_.w_sign, MT_.w_word, nqM_rd, nqM_rn, nqM_taped, nqM_mfault, nqM_mplace, nqM_told, nqM_hl, nqM_hd, NR_.w_rd, NR_.w_rn, NR_.w_taped, NR_.w_mfault, NR_.w_mplace, NR_.w_told, NR_.w_hl, NR_.w_hd]), ⟨(pg_fq pg_rf hFI_38 hLx hkx (by decide) (by decide)), fun q => ne_no q rx_37 rc_0⟩, (fun q => ne_no q rx_37 rc_0)⟩ dX12_readNumber_31
  · skip
    have n_46 : ¬ x_6 = 3 := h_8
    refine g_aload_n C 0 dX12_readNumber_8 rfl rfl ?_
    refine g_iconst C (v := 1) dX12_readNumber_9 (by decide) ?_
    refine g_callVI C K (c_X12_bad W9 hLx hkx 1 (rg_w rc_1 (by decide) (by decide)) hU) hLx hkx (by decide) rfl v_12_146 rfl ⟨rfl, rfl⟩ ⟨Nat.le_of_ble_eq_true rfl, Nat.le_of_ble_eq_true rfl⟩ (Nat.le_of_ble_eq_true rfl) ⟨Nat.le_of_ble_eq_true rfl, Nat.le_of_ble_eq_true rfl⟩ dX12_readNumber_10 rfl (st := []) (fun x_47 I_48 J_49 h_50 => ?_)
    obtain ⟨hUI_48, hFI_48, hGJ_49, rx_47, fx_47⟩ := h_50
    have hF_51 := fq_tr hF hFI_48 (by decide)
    have hG_52 := fq_tr hG hGJ_49 (by decide)
    obtain ⟨s_54, hs_54⟩ : ∃ z, MTq I_48 J_49 x b_1 = z := ⟨_, rfl⟩
    obtain ⟨s_55, hs_55⟩ : ∃ z, NRq I_48 J_49 x b_3 b_4 = z := ⟨_, rfl⟩
    have c_53 : mBad (1) (s_2) (s_5) = (x_47, s_54, s_55) := by have q := fx_47; simp only [emqx, enqx, hs_2, hs_5, hs_54, hs_55] at q; exact q.symm
    exact g_zret (ty := .boolean) (r := x_47) B K rfl (nar_z (rg_w rx_47 (by decide) (by decide))) ⟨hUI_48, hF_51, hG_52, rg_w rx_47 (by decide) (by decide), (by simp only [mReadNumber, emqx, hs_54, hs_2, enqx, hs_55, hs_5, hx_6, f_7, h_8, c_53, if_true, if_false, mqM_tp, mqM_size, mqM_limit, mqM_to, mqM_frm, mqM_kind, mqM_number, mqM_sign, mqM_word, MT_.w_tp, MT_.w_size, MT_.w_limit, MT_.w_to, MT_.w_frm, MT_.w_kind, MT_.w_number, MT_.w_sign, MT_.w_word, nqM_rd, nqM_rn, nqM_taped, nqM_mfault, nqM_mplace, nqM_told, nqM_hl, nqM_hd, NR_.w_rd, NR_.w_rn, NR_.w_taped, NR_.w_mfault, NR_.w_mplace, NR_.w_told, NR_.w_hl, NR_.w_hd]), ⟨(pg_fq pg_rf hFI_48 hLx hkx (by decide) (by decide)), fun q => ne_no q rx_47 rc_0⟩, (fun q => ne_no q rx_47 rc_0)⟩ dX12_readNumber_13
set_option maxRecDepth 100000 in
set_option maxHeartbeats 8000000 in
theorem c_X12_readDoes {l : Launch} {D : va_G} {cy : Nat → ClassId} {L : List Nat} {κ ln : Nat → Nat} {R : Nat → Nat → Option Nat} {I : Nat → Nat → Int32} {J : Nat → Nat → Int64} {ow : Nat → Nat × Nat} (W9 : ∀ a ∈ L, Shp L κ ln R ow a) {x : Nat} (hLx : x ∈ L) (hkx : κ x = 12) (a0 : Int32) (ra0 : Rg 0 156 a0) (hU : Iw L κ R ow I) (hp0 : Rg 0 39 (I x 44)) (hm : a0.toInt % 4 = 0) (hat : a0.toNatClampNeg = 4 * (I x 44).toNatClampNeg) (h2 : ∀ rw, R x 42 = some rw → 0 ≤ (I rw (a0.toNatClampNeg + 2)).toInt) : CtI l yX12_readDoes cX12_readDoes 3 (some .boolean) { frames := 3, cells := 0, slots := 0, locals := 69 } D cy L κ ln R I J [.ref x, .int a0] (fun r I2 J2 => Iw L κ R ow I2 ∧ Fq L κ ow [1205, 1206, 1207, 1208, 1209, 1210, 1211, 1213, 86200] I I2 ∧ Fq L κ ow [1212] J J2 ∧ Rg 0 1 r ∧ ((r, MTf R I2 J2 x, NRf R I2 J2 x) = mDoes (NVf R I J x) (NWf R I J x) (MTf R I J x) (NRf R I J x)) ∧ (¬ r = 0 → ∀ rw, R x 42 = some rw → 0 ≤ (I2 rw (a0.toNatClampNeg + 2)).toInt)) := by
  refine CtI.of (by decide +kernel) (Nat.le_of_ble_eq_true rfl) ?_
  intro p e s m below meth c B K
  have C := B.1
  have hF : Fq L κ ow [1205, 1206, 1207, 1208, 1209, 1210, 1211, 1213, 86200] I I := fq_rf
  have hG : Fq L κ ow [1212] J J := fq_rf
  obtain ⟨xp0, hxp0, rxp0⟩ : ∃ z, I x 44 = z ∧ Rg 0 39 z := ⟨_, rfl, hp0⟩
  obtain ⟨b_1, hb_1, hb_1L, hb_1k, hb_1n, hb_1o⟩ := shp_a (W9 x hLx) hkx 14 14 389 rfl (by decide)
  obtain ⟨b_2, hb_2, hb_2L, hb_2k, hb_2n, hb_2o⟩ := shp_a (W9 x hLx) hkx 19 15 13 rfl (by decide)
  obtain ⟨b_3, hb_3, hb_3L, hb_3k, hb_3n, hb_3o⟩ := shp_a (W9 x hLx) hkx 42 14 160 rfl (by decide)
  have evqx : ∀ I J, NVf R I J x = NVq I J x b_2 := fun I J => by simp only [NVf, rr_, Option.getD_some, hb_2]
  have wvqx : vqw_ L κ ow x b_2 := ⟨⟨hLx, hb_2L⟩, ⟨(ro_o hkx (by decide)), (ro_a hb_2k (by decide) hb_2o hkx rfl)⟩⟩
  obtain ⟨s_4, hs_4⟩ : ∃ z, NVq I J x b_2 = z := ⟨_, rfl⟩
  have ezqx : ∀ I J, NWf R I J x = NWq I J x b_1 := fun I J => by simp only [NWf, rr_, Option.getD_some, hb_1]
  have wzqx : zqw_ L κ ow x b_1 := ⟨⟨hLx, hb_1L⟩, ⟨(ro_o hkx (by decide)), (ro_a hb_1k (by decide) hb_1o hkx rfl)⟩⟩
  obtain ⟨s_5, hs_5⟩ : ∃ z, NWq I J x b_1 = z := ⟨_, rfl⟩
  obtain ⟨b_6, hb_6, hb_6L, hb_6k, hb_6n, hb_6o⟩ := shp_a (W9 x hLx) hkx 1 14 940 rfl (by decide)
  have emqx : ∀ I J, MTf R I J x = MTq I J x b_6 := fun I J => by simp only [MTf, rr_, Option.getD_some, hb_6]
  have wmqx : mqw_ L κ ow x b_6 := ⟨⟨hLx, hb_6L⟩, ⟨(ro_o hkx (by decide)), (ro_a hb_6k (by decide) hb_6o hkx rfl)⟩⟩
  obtain ⟨s_7, hs_7⟩ : ∃ z, MTq I J x b_6 = z := ⟨_, rfl⟩
  obtain ⟨b_8, hb_8, hb_8L, hb_8k, hb_8n, hb_8o⟩ := shp_a (W9 x hLx) hkx 15 14 72 rfl (by decide)
  obtain ⟨b_9, hb_9, hb_9L, hb_9k, hb_9n, hb_9o⟩ := shp_a (W9 x hLx) hkx 20 15 13 rfl (by decide)
  have enqx : ∀ I J, NRf R I J x = NRq I J x b_8 b_9 := fun I J => by simp only [NRf, rr_, Option.getD_some, hb_8, hb_9]
  have wnqx : nqw_ L κ ow x b_8 b_9 := ⟨⟨hLx, hb_8L, hb_9L⟩, ⟨(ro_o hkx (by decide)), (ro_a hb_8k (by decide) hb_8o hkx rfl), (ro_a hb_9k (by decide) hb_9o hkx rfl)⟩⟩
  obtain ⟨s_10, hs_10⟩ : ∃ z, NRq I J x b_8 b_9 = z := ⟨_, rfl⟩
  refine g_lo (is := [0, 1]) (lo2 := [(0, .ref x), (1, .int a0)]) rfl ?_
  have l_3 : ∀ (n_3 : Nat) (v_11 : Int32) (rv_11 : Rg 9 15 v_11) (q_12 : I x 44 = xp0) (hq_13 : mDo2 (mbw v_11 s_7) s_4 s_5 s_7 s_10 = mDoes s_4 s_5 s_7 s_10) (hm_14 : 15 < (v_11 : Int32).toInt + (n_3 : Int)), WG p l e { frames := 3, cells := 0, slots := 0, locals := 69 } s m ([.ref x, .int a0] : List Value).toArray below meth c 3 0 0 (MQ below (Qi_ D cy L κ ln R (fun r I2 J2 => Iw L κ R ow I2 ∧ Fq L κ ow [1205, 1206, 1207, 1208, 1209, 1210, 1211, 1213, 86200] I I2 ∧ Fq L κ ow [1212] J J2 ∧ Rg 0 1 r ∧ ((r, MTf R I2 J2 x, NRf R I2 J2 x) = mDoes (NVf R I J x) (NWf R I J x) (MTf R I J x) (NRf R I J x)) ∧ (¬ r = 0 → ∀ rw, R x 42 = some rw → 0 ≤ (I2 rw (a0.toNatClampNeg + 2)).toInt))) ([.ref x, .int a0] : List Value).toArray s 0 0 (Al_ L)) D cy (Al_ L) s.heap L κ ln R I J 3 [(0, .ref x), (1, .int a0), (2, .int v_11)] [] := by
    intro n_3
    induction n_3 with
    | zero =>
      intro v_11 rv_11 q_12 hq_13 hm_14
      exact ms_0 rv_11 hm_14
    | succ n_3 ih_3 =>
      intro v_11 rv_11 q_12 hq_13 hm_14
      have hQ_15 := hq_13.symm
      have u_16 := mbw_eq (w := v_11) (m := s_7) (rg_w rv_11 (by decide) (by decide))
      refine g_iload_n C 2 dX12_readDoes_3 rfl rfl ?_
      refine g_bipush C (v := 14) dX12_readDoes_4 (by decide) ?_
      refine g_icmp_gt C (tgt := 23) dX12_readDoes_6 (by decide) (fun h_17 => ?_) (fun h_17 => ?_)
      · skip
        have r_18 := lt_r (lo := 15) (h_17) rc_14 rv_11 (by decide)
        refine g_iload_n C 2 dX12_readDoes_23 rfl rfl ?_
        refine g_bipush C (v := 14) dX12_readDoes_24 (by decide) ?_
        refine g_icmp_le C (tgt := 35) dX12_readDoes_26 (by decide) (fun h_19 => ?_) (fun h_19 => ?_)
        · skip
          have r_20 := le_l (h_19) r_18 rc_14
          exact rg_no r_20 (by decide)
        · skip
          refine g_aload_n C 0 dX12_readDoes_29 rfl rfl ?_
          refine g_iconst C (v := 1) dX12_readDoes_30 (by decide) ?_
          refine g_callVI C K (c_X12_bad W9 hLx hkx 1 (rg_w rc_1 (by decide) (by decide)) hU) hLx hkx (by decide) rfl v_12_146 rfl ⟨rfl, rfl⟩ ⟨Nat.le_of_ble_eq_true rfl, Nat.le_of_ble_eq_true rfl⟩ (Nat.le_of_ble_eq_true rfl) ⟨Nat.le_of_ble_eq_true rfl, Nat.le_of_ble_eq_true rfl⟩ dX12_readDoes_31 rfl (st := []) (fun x_21 I_22 J_23 h_24 => ?_)
          obtain ⟨hUI_22, hFI_22, hGJ_23, rx_21, fx_21⟩ := h_24
          have hF_25 := fq_tr hF hFI_22 (by decide)
          have hG_26 := fq_tr hG hGJ_23 (by decide)
          obtain ⟨s_28, hs_28⟩ : ∃ z, MTq I_22 J_23 x b_6 = z := ⟨_, rfl⟩
          obtain ⟨s_29, hs_29⟩ : ∃ z, NRq I_22 J_23 x b_8 b_9 = z := ⟨_, rfl⟩
          have c_27 : mBad (1) (s_7) (s_10) = (x_21, s_28, s_29) := by have q := fx_21; simp only [emqx, enqx, hs_7, hs_10, hs_28, hs_29] at q; exact q.symm
          have hs_30 : NVq I_22 J_23 x b_2 = s_4 := (vq_fq wvqx hFI_22 hGJ_23 (by decide) (by decide)).trans hs_4
          have hs_31 : NWq I_22 J_23 x b_1 = s_5 := (zq_fq wzqx hFI_22 hGJ_23 (by decide) (by decide)).trans hs_5
          exact g_zret (ty := .boolean) (r := x_21) B K rfl (nar_z (rg_w rx_21 (by decide) (by decide))) ⟨hUI_22, hF_25, hG_26, rg_w rx_21 (by decide) (by decide), (by (try simp only [h_17, h_19, (nle h_19), c_27, if_true, if_false, mqM_tp, mqM_size, mqM_limit, mqM_to, mqM_frm, mqM_kind, mqM_number, mqM_sign, mqM_word, MT_.w_tp, MT_.w_size, MT_.w_limit, MT_.w_to, MT_.w_frm, MT_.w_kind, MT_.w_number, MT_.w_sign, MT_.w_word, nqM_rd, nqM_rn, nqM_taped, nqM_mfault, nqM_mplace, nqM_told, nqM_hl, nqM_hd, NR_.w_rd, NR_.w_rn, NR_.w_taped, NR_.w_mfault, NR_.w_mplace, NR_.w_told, NR_.w_hl, NR_.w_hd, vqM_nv, NV_.w_nv, zqM_nw, NW_.w_nw] at hQ_15); (try simp only [h_17, h_19, (nle h_19), c_27, if_true, if_false, mqM_tp, mqM_size, mqM_limit, mqM_to, mqM_frm, mqM_kind, mqM_number, mqM_sign, mqM_word, MT_.w_tp, MT_.w_size, MT_.w_limit, MT_.w_to, MT_.w_frm, MT_.w_kind, MT_.w_number, MT_.w_sign, MT_.w_word, nqM_rd, nqM_rn, nqM_taped, nqM_mfault, nqM_mplace, nqM_told, nqM_hl, nqM_hd, NR_.w_rd, NR_.w_rn, NR_.w_taped, NR_.w_mfault, NR_.w_mplace, NR_.w_told, NR_.w_hl, NR_.w_hd, vqM_nv, NV_.w_nv, zqM_nw, NW_.w_nw] at u_16); simp only [mDo2, mDo3, mNum, evqx, hs_30, hs_4, ezqx, hs_31, hs_5, emqx, hs_28, hs_7, enqx, hs_29, hs_10, hQ_15, u_16, h_17, h_19, (nle h_19), c_27, if_true, if_false, mqM_tp, mqM_size, mqM_limit, mqM_to, mqM_frm, mqM_kind, mqM_number, mqM_sign, mqM_word, MT_.w_tp, MT_.w_size, MT_.w_limit, MT_.w_to, MT_.w_frm, MT_.w_kind, MT_.w_number, MT_.w_sign, MT_.w_word, nqM_rd, nqM_rn, nqM_taped, nqM_mfault, nqM_mplace, nqM_told, nqM_hl, nqM_hd, NR_.w_rd, NR_.w_rn, NR_.w_taped, NR_.w_mfault, NR_.w_mplace, NR_.w_told, NR_.w_hl, NR_.w_hd, vqM_nv, NV_.w_nv, zqM_nw, NW_.w_nw]), (fun q => ne_no q rx_21 rc_0)⟩ dX12_readDoes_34
      · skip
        have r_32 := le_l (nlt h_17) rv_11 rc_14
        refine g_aload_n C 0 dX12_readDoes_9 rfl rfl ?_
        refine g_iload_n C 2 dX12_readDoes_10 rfl rfl ?_
        refine g_callVI C K (c_X12_isWord W9 hLx hkx v_11 (rg_w r_32 (by decide) (by decide)) hU) hLx hkx (by decide) rfl v_12_191 rfl ⟨rfl, rfl⟩ ⟨Nat.le_of_ble_eq_true rfl, Nat.le_of_ble_eq_true rfl⟩ (Nat.le_of_ble_eq_true rfl) ⟨Nat.le_of_ble_eq_true rfl, Nat.le_of_ble_eq_true rfl⟩ dX12_readDoes_11 rfl (st := []) (fun x_33 I_34 J_35 h_36 => ?_)
        obtain ⟨rfl, rfl, rx_33, fx_33⟩ := h_36
        have c_37 : mIsWord (v_11) (s_7) = x_33 := by have q := fx_33; simp only [emqx, hs_7] at q; exact q.symm
        refine g_if_ne C (tgt := 23) dX12_readDoes_14 (by decide) (fun h_38 => ?_) (fun h_38 => ?_)
        · skip
          have n_39 : ¬ x_33 = 0 := h_38
          have r_40 := ne_lo (lo := 1) n_39 rx_33 rc_0 rfl (by decide)
          refine g_iload_n C 2 dX12_readDoes_23 rfl rfl ?_
          refine g_bipush C (v := 14) dX12_readDoes_24 (by decide) ?_
          refine g_icmp_le C (tgt := 35) dX12_readDoes_26 (by decide) (fun h_41 => ?_) (fun h_41 => ?_)
          · skip
            refine g_aload_n C 0 dX12_readDoes_35 rfl rfl ?_
            refine g_getR C K hLx hkx f_12_73 hb_3 dX12_readDoes_36 ?_
            refine g_iload_n C 1 dX12_readDoes_39 rfl rfl ?_
            refine g_iload_n C 2 dX12_readDoes_40 rfl rfl ?_
            refine g_bipush C (v := 9) dX12_readDoes_41 (by decide) ?_
            obtain ⟨x_42, hx_42, rx_42, tx_42⟩ := ex_sub 0 5 r_32 rc_9 (by decide) (by decide) (by decide) (by decide)
            refine g_isub C (v := x_42) dX12_readDoes_43 hx_42 ?_
            refine h_iast C K hb_3L hb_3k (a0.toNatClampNeg) (rfl) (ix_0 ra0 (by decide)) (ix_lt ra0 (by decide) hb_3n (by decide)) dX12_readDoes_44 (fun I_43 hI_43 => ?_)
            have hU_44 := iw_rw W9 hU (uw_put hU.1 hI_43 (ro_a hb_3k (by decide) hb_3o hkx rfl) (lo := 0) (hi := 6) (bn_862.trans (rz_0 (ix_m hm ra0 (by decide)))) (rg_w rx_42 (by decide) (by decide))) hLx hkx hb_3 hI_43 q_12 (rxp0).1 (by have q9 := hat; rw [hxp0] at q9; omega)
            have hF_45 := fq_puta hF hI_43 (ro_a hb_3k (by decide) hb_3o hkx rfl) (by decide) (by decide)
            have hs_46 : NVq I_43 J x b_2 = s_4 := by rw [hI_43]; exact (vq_oI wvqx (ro_a hb_3k (by decide) hb_3o hkx rfl) (by decide)).trans hs_4
            have hs_47 : NWq I_43 J x b_1 = s_5 := by rw [hI_43]; exact (zq_oI wzqx (ro_a hb_3k (by decide) hb_3o hkx rfl) (by decide)).trans hs_5
            have hs_48 : MTq I_43 J x b_6 = s_7 := by rw [hI_43]; exact (mq_oI wmqx (ro_a hb_3k (by decide) hb_3o hkx rfl) (by decide)).trans hs_7
            have hs_49 : NRq I_43 J x b_8 b_9 = s_10 := by rw [hI_43]; exact (nq_oI wnqx (ro_a hb_3k (by decide) hb_3o hkx rfl) (by decide)).trans hs_10
            refine g_aload_n C 0 dX12_readDoes_45 rfl rfl ?_
            refine g_callVV C K (c_X12_go W9 hLx hkx   hU_44) hLx hkx (by decide) rfl v_12_156 rfl ⟨rfl, rfl⟩ ⟨Nat.le_of_ble_eq_true rfl, Nat.le_of_ble_eq_true rfl⟩ (Nat.le_of_ble_eq_true rfl) ⟨Nat.le_of_ble_eq_true rfl, Nat.le_of_ble_eq_true rfl⟩ dX12_readDoes_46 rfl (st := []) (fun I_51 J_52 h_53 => ?_)
            obtain ⟨hUI_51, hFI_51, hGJ_52, fx_50, ex_50⟩ := h_53
            have hF_54 := fq_tr hF_45 hFI_51 (by decide)
            have hG_55 := fq_tr hG hGJ_52 (by decide)
            obtain ⟨s_57, hs_57⟩ : ∃ z, MTq I_51 J_52 x b_6 = z := ⟨_, rfl⟩
            have c_56 : mGo (s_7) = s_57 := by have q := fx_50; simp only [emqx, hs_48, hs_57] at q; exact q.symm
            have hs_58 : NVq I_51 J_52 x b_2 = s_4 := (vq_fq wvqx hFI_51 hGJ_52 (by decide) (by decide)).trans hs_46
            have hs_59 : NWq I_51 J_52 x b_1 = s_5 := (zq_fq wzqx hFI_51 hGJ_52 (by decide) (by decide)).trans hs_47
            have hs_60 : NRq I_51 J_52 x b_8 b_9 = s_10 := (nq_fq wnqx hFI_51 hGJ_52 (by decide) (by decide)).trans hs_49
            refine g_aload_n C 0 dX12_readDoes_49 rfl rfl ?_
            refine g_getR C K hLx hkx f_12_73 hb_3 dX12_readDoes_50 ?_
            refine g_iload_n C 1 dX12_readDoes_53 rfl rfl ?_
            refine h_iald C K hb_3L hb_3k (v := x_42) (a0.toNatClampNeg) (rfl) (ix_0 ra0 (by decide)) (ix_lt ra0 (by decide) hb_3n (by decide)) (fq_ar hFI_51 hb_3L (ro_a hb_3k (by decide) hb_3o hkx rfl) (by decide) (by decide) (kp_s hI_43)) dX12_readDoes_54 ?_
            refine g_iconst C (v := 1) dX12_readDoes_55 (by decide) ?_
            refine g_icmp_le C (tgt := 61) dX12_readDoes_56 (by decide) (fun h_62 => ?_) (fun h_62 => ?_)
            · skip
              have r_63 := le_l (h_62) rx_42 rc_1
              have r_64 := rg_der (k := (-9)) (lo := 9) (hi := 10) (ti_s tx_42 rc_9 (by decide)) r_63 r_32 (by decide) (by decide)
              refine g_aload_n C 0 dX12_readDoes_61 rfl rfl ?_
              refine g_callVI C K (c_X12_isName W9 hLx hkx   hUI_51) hLx hkx (by decide) rfl v_12_166 rfl ⟨rfl, rfl⟩ ⟨Nat.le_of_ble_eq_true rfl, Nat.le_of_ble_eq_true rfl⟩ (Nat.le_of_ble_eq_true rfl) ⟨Nat.le_of_ble_eq_true rfl, Nat.le_of_ble_eq_true rfl⟩ dX12_readDoes_62 rfl (st := []) (fun x_65 I_66 J_67 h_68 => ?_)
              obtain ⟨rfl, rfl, rx_65, fx_65⟩ := h_68
              have c_69 : mIsName (s_57) = x_65 := by have q := fx_65; simp only [emqx, hs_57] at q; exact q.symm
              refine g_if_ne C (tgt := 74) dX12_readDoes_65 (by decide) (fun h_70 => ?_) (fun h_70 => ?_)
              · skip
                have n_71 : ¬ x_65 = 0 := h_70
                have r_72 := ne_lo (lo := 1) n_71 rx_65 rc_0 rfl (by decide)
                refine g_aload_n C 0 dX12_readDoes_74 rfl rfl ?_
                refine g_getR C K hLx hkx f_12_73 hb_3 dX12_readDoes_75 ?_
                refine g_iload_n C 1 dX12_readDoes_78 rfl rfl ?_
                refine g_iconst C (v := 2) dX12_readDoes_79 (by decide) ?_
                obtain ⟨x_73, hx_73, rx_73, tx_73⟩ := ex_add 2 158 ra0 rc_2 (by decide) (by decide) (by decide) (by decide)
                refine g_iadd C (v := x_73) dX12_readDoes_80 hx_73 ?_
                refine g_aload_n C 0 dX12_readDoes_81 rfl rfl ?_
                refine g_getR C K hLx hkx f_12_28 hb_2 dX12_readDoes_82 ?_
                refine g_bipush C (v := 7) dX12_readDoes_85 (by decide) ?_
                refine g_aload_n C 0 dX12_readDoes_87 rfl rfl ?_
                refine g_getR C K hLx hkx f_12_13 hb_1 dX12_readDoes_88 ?_
                refine g_iconst C (v := 1) dX12_readDoes_91 (by decide) ?_
                obtain ⟨x_74, hx_74, rx_74⟩ := ex_getw (I := I_51) (a := b_1) (j := 1) (lo := 0) (hi := 6) hUI_51.1 hb_1L (ro_a hb_1k (by decide) hb_1o hkx rfl) (by decide)
                refine h_iald C K hb_1L hb_1k (v := x_74) (1) (by decide) (by decide) (by rw [hb_1n]; decide) hx_74 dX12_readDoes_92 ?_
                have f_75 : s_5.nw (1) = x_74 := (congrFun (congrArg NW_.nw hs_59) _).symm.trans hx_74
                refine g_aload_n C 0 dX12_readDoes_93 rfl rfl ?_
                obtain ⟨y_76, hy_76⟩ : ∃ z, J_52 x 12 = z := ⟨_, rfl⟩
                have f_77 : s_57.word = y_76 := (congrArg MT_.word hs_57).symm.trans hy_76
                refine g_getJ C K hLx hkx f_12_117 (v := y_76) hy_76 dX12_readDoes_94 ?_
                refine g_callSI C K (c_X12_findIn_7 W9 hb_2L hb_2k hb_2n x_74 y_76 (rx_74) hUI_51) s_12_170 rfl ⟨rfl, rfl⟩ ⟨Nat.le_of_ble_eq_true rfl, Nat.le_of_ble_eq_true rfl⟩ (Nat.le_of_ble_eq_true rfl) ⟨Nat.le_of_ble_eq_true rfl, Nat.le_of_ble_eq_true rfl⟩ dX12_readDoes_97 rfl (st := [.int x_73, .ref b_3]) (fun x_78 I_79 J_80 h_81 => ?_)
                obtain ⟨rfl, rfl, rx_78, fx_78, ex_78⟩ := h_81
                have c_82 : mfnd s_4.nv 7 (x_74) y_76 0 = x_78 := by have q := fx_78; rw [show J_52 b_2 = s_4.nv from congrArg NV_.nv hs_58] at q; exact q.symm
                refine h_iast C K hb_3L hb_3k (x_73.toNatClampNeg) (rfl) (ix_0 rx_73 (by decide)) (ix_lt rx_73 (by decide) hb_3n (by decide)) dX12_readDoes_100 (fun I_83 hI_83 => ?_)
                have hU_84 := iw_rw W9 hUI_51 (uw_put hUI_51.1 hI_83 (ro_a hb_3k (by decide) hb_3o hkx rfl) (lo := (-1)) (hi := 5) (bn_862.trans (rz_2 (ix_m (md_a (r2 := 2) tx_73 hm rc_2 (by decide)) rx_73 (by decide)))) (rx_78)) hLx hkx hb_3 hI_83 (fq_at hFI_51 hLx hkx (by decide) (by decide) (kp_k (κ := κ) hI_43 (by rw [hkx, hb_3k]; decide) q_12)) (rxp0).1 (by have q9 := hat; rw [hxp0] at q9; rw [nx_a tx_73 ra0 rc_2 (by decide)]; simp only [show (2 : Int32).toNatClampNeg = 2 from rfl] <;> omega)
                have hF_85 := fq_puta hF_54 hI_83 (ro_a hb_3k (by decide) hb_3o hkx rfl) (by decide) (by decide)
                have hs_86 : NVq I_83 J_52 x b_2 = s_4 := by rw [hI_83]; exact (vq_oI wvqx (ro_a hb_3k (by decide) hb_3o hkx rfl) (by decide)).trans hs_58
                have hs_87 : NWq I_83 J_52 x b_1 = s_5 := by rw [hI_83]; exact (zq_oI wzqx (ro_a hb_3k (by decide) hb_3o hkx rfl) (by decide)).trans hs_59
                have hs_88 : MTq I_83 J_52 x b_6 = s_57 := by rw [hI_83]; exact (mq_oI wmqx (ro_a hb_3k (by decide) hb_3o hkx rfl) (by decide)).trans hs_57
                have hs_89 : NRq I_83 J_52 x b_8 b_9 = s_10 := by rw [hI_83]; exact (nq_oI wnqx (ro_a hb_3k (by decide) hb_3o hkx rfl) (by decide)).trans hs_60
                refine g_aload_n C 0 dX12_readDoes_101 rfl rfl ?_
                refine g_getR C K hLx hkx f_12_73 hb_3 dX12_readDoes_102 ?_
                refine g_iload_n C 1 dX12_readDoes_105 rfl rfl ?_
                refine g_iconst C (v := 2) dX12_readDoes_106 (by decide) ?_
                refine g_iadd C (v := x_73) dX12_readDoes_107 hx_73 ?_
                refine h_iald C K hb_3L hb_3k (v := x_78) (x_73.toNatClampNeg) (rfl) (ix_0 rx_73 (by decide)) (ix_lt rx_73 (by decide) hb_3n (by decide)) (kp_s hI_83) dX12_readDoes_108 ?_
                refine g_iconst C (v := (-1)) dX12_readDoes_109 (by decide) ?_
                refine g_icmp_ne C (tgt := 119) dX12_readDoes_110 (by decide) (fun h_91 => ?_) (fun h_91 => ?_)
                · skip
                  have n_92 : ¬ x_78 = (-1) := h_91
                  have r_93 := ne_lo (lo := 0) n_92 rx_78 rc_m1 rfl (by decide)
                  refine g_aload_n C 0 dX12_readDoes_119 rfl rfl ?_
                  refine g_callVV C K (c_X12_go W9 hLx hkx   hU_84) hLx hkx (by decide) rfl v_12_156 rfl ⟨rfl, rfl⟩ ⟨Nat.le_of_ble_eq_true rfl, Nat.le_of_ble_eq_true rfl⟩ (Nat.le_of_ble_eq_true rfl) ⟨Nat.le_of_ble_eq_true rfl, Nat.le_of_ble_eq_true rfl⟩ dX12_readDoes_120 rfl (st := []) (fun I_95 J_96 h_97 => ?_)
                  obtain ⟨hUI_95, hFI_95, hGJ_96, fx_94, ex_94⟩ := h_97
                  have hF_98 := fq_tr hF_85 hFI_95 (by decide)
                  have hG_99 := fq_tr hG_55 hGJ_96 (by decide)
                  obtain ⟨s_101, hs_101⟩ : ∃ z, MTq I_95 J_96 x b_6 = z := ⟨_, rfl⟩
                  have c_100 : mGo (s_57) = s_101 := by have q := fx_94; simp only [emqx, hs_88, hs_101] at q; exact q.symm
                  have hs_102 : NVq I_95 J_96 x b_2 = s_4 := (vq_fq wvqx hFI_95 hGJ_96 (by decide) (by decide)).trans hs_86
                  have hs_103 : NWq I_95 J_96 x b_1 = s_5 := (zq_fq wzqx hFI_95 hGJ_96 (by decide) (by decide)).trans hs_87
                  have hs_104 : NRq I_95 J_96 x b_8 b_9 = s_10 := (nq_fq wnqx hFI_95 hGJ_96 (by decide) (by decide)).trans hs_89
                  refine g_aload_n C 0 dX12_readDoes_123 rfl rfl ?_
                  refine g_iconst C (v := 1) dX12_readDoes_124 (by decide) ?_
                  refine g_aload_n C 0 dX12_readDoes_125 rfl rfl ?_
                  refine g_getR C K hLx hkx f_12_73 hb_3 dX12_readDoes_126 ?_
                  refine g_iload_n C 1 dX12_readDoes_129 rfl rfl ?_
                  obtain ⟨x_105, hx_105, rx_105⟩ := ex_getw (I := I_95) (a := b_3) (j := a0.toNatClampNeg) (lo := 0) (hi := 6) hUI_95.1 hb_3L (ro_a hb_3k (by decide) hb_3o hkx rfl) (bn_862.trans (rz_0 (ix_m hm ra0 (by decide))))
                  refine h_iald C K hb_3L hb_3k (v := x_105) (a0.toNatClampNeg) (rfl) (ix_0 ra0 (by decide)) (ix_lt ra0 (by decide) hb_3n (by decide)) hx_105 dX12_readDoes_130 ?_
                  have ra_106 : x_42 = x_105 := Eq.symm (Eq.trans (Eq.symm hx_105) (fq_ar hFI_95 hb_3L (ro_a hb_3k (by decide) hb_3o hkx rfl) (by decide) (by decide) (kp_j hI_83 (show a0.toNatClampNeg ≠ x_73.toNatClampNeg from by rw [nx_a tx_73 ra0 rc_2 (by decide)]; simp only [show (2 : Int32).toNatClampNeg = 2 from rfl] <;> omega) (fq_ar hFI_51 hb_3L (ro_a hb_3k (by decide) hb_3o hkx rfl) (by decide) (by decide) (kp_s hI_43)))))
                  subst ra_106
                  refine g_if_ne C (tgt := 139) dX12_readDoes_131 (by decide) (fun h_107 => ?_) (fun h_107 => ?_)
                  · skip
                    have n_108 : ¬ x_42 = 0 := h_107
                    have r_109 := ne_lo (lo := 1) n_108 r_63 rc_0 rfl (by decide)
                    have r_110 := rg_der (k := (-9)) (lo := 10) (hi := 10) (ti_s tx_42 rc_9 (by decide)) r_109 r_64 (by decide) (by decide)
                    refine g_bipush C (v := 40) dX12_readDoes_139 (by decide) ?_
                    obtain ⟨x_111, hx_111, rx_111⟩ := ex_getw (I := I_95) (a := x) (j := 13) (lo := (-2147483648)) (hi := 2147483647) hUI_95.1 hLx (ro_o hkx (by decide)) rfl
                    have f_112 : s_10.told = x_111 := (congrArg NR_.told hs_104).symm.trans hx_111
                    refine g_callVI C K (c_X12_readNumber_1_40 W9 hLx hkx   hUI_95) hLx hkx (by decide) rfl v_12_184 rfl ⟨rfl, rfl⟩ ⟨Nat.le_of_ble_eq_true rfl, Nat.le_of_ble_eq_true rfl⟩ (Nat.le_of_ble_eq_true rfl) ⟨Nat.le_of_ble_eq_true rfl, Nat.le_of_ble_eq_true rfl⟩ dX12_readDoes_141 rfl (st := []) (fun x_113 I_114 J_115 h_116 => ?_)
                    obtain ⟨hUI_114, hFI_114, hGJ_115, rx_113, fx_113, ex_113⟩ := h_116
                    have hF_117 := fq_tr hF_98 hFI_114 (by decide)
                    have hG_118 := fq_tr hG_99 hGJ_115 (by decide)
                    obtain ⟨s_120, hs_120⟩ : ∃ z, MTq I_114 J_115 x b_6 = z := ⟨_, rfl⟩
                    obtain ⟨s_121, hs_121⟩ : ∃ z, NRq I_114 J_115 x b_8 b_9 = z := ⟨_, rfl⟩
                    have c_119 : mReadNumber (1) (40) (s_101) (s_10) = (x_113, s_120, s_121) := by have q := fx_113; simp only [emqx, enqx, hs_101, hs_104, hs_120, hs_121] at q; exact q.symm
                    have hs_122 : NVq I_114 J_115 x b_2 = s_4 := (vq_fq wvqx hFI_114 hGJ_115 (by decide) (by decide)).trans hs_102
                    have hs_123 : NWq I_114 J_115 x b_1 = s_5 := (zq_fq wzqx hFI_114 hGJ_115 (by decide) (by decide)).trans hs_103
                    obtain ⟨x_124, hx_124, rx_124⟩ := ex_getw (I := I_114) (a := x) (j := 13) (lo := (-2147483648)) (hi := 2147483647) hUI_114.1 hLx (ro_o hkx (by decide)) rfl
                    have f_125 : s_121.told = x_124 := (congrArg NR_.told hs_121).symm.trans hx_124
                    have q_126 := hx_124
                    refine g_if_ne C (tgt := 149) dX12_readDoes_144 (by decide) (fun h_127 => ?_) (fun h_127 => ?_)
                    · skip
                      have n_128 : ¬ x_113 = 0 := h_127
                      have r_129 := ne_lo (lo := 1) n_128 rx_113 rc_0 rfl (by decide)
                      have r_130 := rg_i rx_124 (eq_rg q_126.symm ((ex_113.2) n_128)) (lo := 1) (hi := 40) (by decide) (by decide)
                      refine g_aload_n C 0 dX12_readDoes_149 rfl rfl ?_
                      refine g_getR C K hLx hkx f_12_73 hb_3 dX12_readDoes_150 ?_
                      refine g_iload_n C 1 dX12_readDoes_153 rfl rfl ?_
                      refine g_iconst C (v := 3) dX12_readDoes_154 (by decide) ?_
                      obtain ⟨x_131, hx_131, rx_131, tx_131⟩ := ex_add 3 159 ra0 rc_3 (by decide) (by decide) (by decide) (by decide)
                      refine g_iadd C (v := x_131) dX12_readDoes_155 hx_131 ?_
                      refine g_aload_n C 0 dX12_readDoes_156 rfl rfl ?_
                      refine g_getI C K hLx hkx f_12_153 (v := x_124) hx_124 dX12_readDoes_157 ?_
                      refine h_iast C K hb_3L hb_3k (x_131.toNatClampNeg) (rfl) (ix_0 rx_131 (by decide)) (ix_lt rx_131 (by decide) hb_3n (by decide)) dX12_readDoes_160 (fun I_132 hI_132 => ?_)
                      have q_133 := (fq_at hFI_114 hLx hkx (by decide) (by decide) (fq_at hFI_95 hLx hkx (by decide) (by decide) (kp_k (κ := κ) hI_83 (by rw [hkx, hb_3k]; decide) (fq_at hFI_51 hLx hkx (by decide) (by decide) (kp_k (κ := κ) hI_43 (by rw [hkx, hb_3k]; decide) q_12)))))
                      have hU_134 := iw_rw W9 hUI_114 (uw_put hUI_114.1 hI_132 (ro_a hb_3k (by decide) hb_3o hkx rfl) (lo := 0) (hi := 60) (bn_862.trans (rz_3 (ix_m (md_a (r2 := 3) tx_131 hm rc_3 (by decide)) rx_131 (by decide)))) (rg_w r_130 (by decide) (by decide))) hLx hkx hb_3 hI_132 q_133 (rxp0).1 (by have q9 := hat; rw [hxp0] at q9; rw [nx_a tx_131 ra0 rc_3 (by decide)]; simp only [show (3 : Int32).toNatClampNeg = 3 from rfl] <;> omega)
                      have hF_135 := fq_puta hF_117 hI_132 (ro_a hb_3k (by decide) hb_3o hkx rfl) (by decide) (by decide)
                      have hs_136 : NVq I_132 J_115 x b_2 = s_4 := by rw [hI_132]; exact (vq_oI wvqx (ro_a hb_3k (by decide) hb_3o hkx rfl) (by decide)).trans hs_122
                      have hs_137 : NWq I_132 J_115 x b_1 = s_5 := by rw [hI_132]; exact (zq_oI wzqx (ro_a hb_3k (by decide) hb_3o hkx rfl) (by decide)).trans hs_123
                      have hs_138 : MTq I_132 J_115 x b_6 = s_120 := by rw [hI_132]; exact (mq_oI wmqx (ro_a hb_3k (by decide) hb_3o hkx rfl) (by decide)).trans hs_120
                      have hs_139 : NRq I_132 J_115 x b_8 b_9 = s_121 := by rw [hI_132]; exact (nq_oI wnqx (ro_a hb_3k (by decide) hb_3o hkx rfl) (by decide)).trans hs_121
                      refine g_iconst C (v := 1) dX12_readDoes_161 (by decide) ?_
                      exact g_zret (ty := .boolean) (r := 1) B K rfl (rfl) ⟨hU_134, hF_135, hG_118, rg_w rc_1 (by decide) (by decide), (by (try simp only [h_17, (nlt h_17), c_37, h_38, h_41, hx_42, c_56, h_62, c_69, h_70, hx_73, hx_74, f_75, hy_76, f_77, c_82, h_91, c_100, h_107, hx_111, f_112, c_119, hx_124, f_125, h_127, hx_131, if_true, if_false, mqM_tp, mqM_size, mqM_limit, mqM_to, mqM_frm, mqM_kind, mqM_number, mqM_sign, mqM_word, MT_.w_tp, MT_.w_size, MT_.w_limit, MT_.w_to, MT_.w_frm, MT_.w_kind, MT_.w_number, MT_.w_sign, MT_.w_word, nqM_rd, nqM_rn, nqM_taped, nqM_mfault, nqM_mplace, nqM_told, nqM_hl, nqM_hd, NR_.w_rd, NR_.w_rn, NR_.w_taped, NR_.w_mfault, NR_.w_mplace, NR_.w_told, NR_.w_hl, NR_.w_hd, vqM_nv, NV_.w_nv, zqM_nw, NW_.w_nw] at hQ_15); (try simp only [h_17, (nlt h_17), c_37, h_38, h_41, hx_42, c_56, h_62, c_69, h_70, hx_73, hx_74, f_75, hy_76, f_77, c_82, h_91, c_100, h_107, hx_111, f_112, c_119, hx_124, f_125, h_127, hx_131, if_true, if_false, mqM_tp, mqM_size, mqM_limit, mqM_to, mqM_frm, mqM_kind, mqM_number, mqM_sign, mqM_word, MT_.w_tp, MT_.w_size, MT_.w_limit, MT_.w_to, MT_.w_frm, MT_.w_kind, MT_.w_number, MT_.w_sign, MT_.w_word, nqM_rd, nqM_rn, nqM_taped, nqM_mfault, nqM_mplace, nqM_told, nqM_hl, nqM_hd, NR_.w_rd, NR_.w_rn, NR_.w_taped, NR_.w_mfault, NR_.w_mplace, NR_.w_told, NR_.w_hl, NR_.w_hd, vqM_nv, NV_.w_nv, zqM_nw, NW_.w_nw] at u_16); simp only [mDo2, mDo3, mNum, evqx, hs_136, hs_4, ezqx, hs_137, hs_5, emqx, hs_138, hs_7, enqx, hs_139, hs_10, hQ_15, u_16, h_17, (nlt h_17), c_37, h_38, h_41, hx_42, c_56, h_62, c_69, h_70, hx_73, hx_74, f_75, hy_76, f_77, c_82, h_91, c_100, h_107, hx_111, f_112, c_119, hx_124, f_125, h_127, hx_131, if_true, if_false, mqM_tp, mqM_size, mqM_limit, mqM_to, mqM_frm, mqM_kind, mqM_number, mqM_sign, mqM_word, MT_.w_tp, MT_.w_size, MT_.w_limit, MT_.w_to, MT_.w_frm, MT_.w_kind, MT_.w_number, MT_.w_sign, MT_.w_word, nqM_rd, nqM_rn, nqM_taped, nqM_mfault, nqM_mplace, nqM_told, nqM_hl, nqM_hd, NR_.w_rd, NR_.w_rn, NR_.w_taped, NR_.w_mfault, NR_.w_mplace, NR_.w_told, NR_.w_hl, NR_.w_hd, vqM_nv, NV_.w_nv, zqM_nw, NW_.w_nw]), (fun _ rw hr => by rw [hb_3] at hr; cases hr; rw [(kp_j hI_132 (show a0.toNatClampNeg + 2 ≠ x_131.toNatClampNeg from by rw [nx_a tx_131 ra0 rc_3 (by decide)]; simp only [show (3 : Int32).toNatClampNeg = 3 from rfl] <;> omega) (fq_ar hFI_114 hb_3L (ro_a hb_3k (by decide) hb_3o hkx rfl) (by decide) (by decide) (fq_ar hFI_95 hb_3L (ro_a hb_3k (by decide) hb_3o hkx rfl) (by decide) (by decide) (show I_83 b_3 (a0.toNatClampNeg + 2) = x_78 from by rw [← (show x_73.toNatClampNeg = a0.toNatClampNeg + 2 from by rw [nx_a tx_73 ra0 rc_2 (by decide)]; simp only [show (2 : Int32).toNatClampNeg = 2 from rfl] <;> omega)]; exact kp_s hI_83))))]; exact (r_93).1)⟩ dX12_readDoes_162
                    · skip
                      have r_140 := (⟨(rx_113).1, (eq_rg (h_127) rc_0).2⟩ : Rg 0 0 x_113)
                      refine g_iconst C (v := 0) dX12_readDoes_147 (by decide) ?_
                      exact g_zret (ty := .boolean) (r := 0) B K rfl (rfl) ⟨hUI_114, hF_117, hG_118, rg_w rc_0 (by decide) (by decide), (by (try simp only [h_17, (nlt h_17), c_37, h_38, h_41, hx_42, c_56, h_62, c_69, h_70, hx_73, hx_74, f_75, hy_76, f_77, c_82, h_91, c_100, h_107, hx_111, f_112, c_119, hx_124, f_125, (eq_true h_127), if_true, if_false, mqM_tp, mqM_size, mqM_limit, mqM_to, mqM_frm, mqM_kind, mqM_number, mqM_sign, mqM_word, MT_.w_tp, MT_.w_size, MT_.w_limit, MT_.w_to, MT_.w_frm, MT_.w_kind, MT_.w_number, MT_.w_sign, MT_.w_word, nqM_rd, nqM_rn, nqM_taped, nqM_mfault, nqM_mplace, nqM_told, nqM_hl, nqM_hd, NR_.w_rd, NR_.w_rn, NR_.w_taped, NR_.w_mfault, NR_.w_mplace, NR_.w_told, NR_.w_hl, NR_.w_hd, vqM_nv, NV_.w_nv, zqM_nw, NW_.w_nw] at hQ_15); (try simp only [h_17, (nlt h_17), c_37, h_38, h_41, hx_42, c_56, h_62, c_69, h_70, hx_73, hx_74, f_75, hy_76, f_77, c_82, h_91, c_100, h_107, hx_111, f_112, c_119, hx_124, f_125, (eq_true h_127), if_true, if_false, mqM_tp, mqM_size, mqM_limit, mqM_to, mqM_frm, mqM_kind, mqM_number, mqM_sign, mqM_word, MT_.w_tp, MT_.w_size, MT_.w_limit, MT_.w_to, MT_.w_frm, MT_.w_kind, MT_.w_number, MT_.w_sign, MT_.w_word, nqM_rd, nqM_rn, nqM_taped, nqM_mfault, nqM_mplace, nqM_told, nqM_hl, nqM_hd, NR_.w_rd, NR_.w_rn, NR_.w_taped, NR_.w_mfault, NR_.w_mplace, NR_.w_told, NR_.w_hl, NR_.w_hd, vqM_nv, NV_.w_nv, zqM_nw, NW_.w_nw] at u_16); simp only [mDo2, mDo3, mNum, evqx, hs_122, hs_4, ezqx, hs_123, hs_5, emqx, hs_120, hs_7, enqx, hs_121, hs_10, hQ_15, u_16, h_17, (nlt h_17), c_37, h_38, h_41, hx_42, c_56, h_62, c_69, h_70, hx_73, hx_74, f_75, hy_76, f_77, c_82, h_91, c_100, h_107, hx_111, f_112, c_119, hx_124, f_125, (eq_true h_127), if_true, if_false, mqM_tp, mqM_size, mqM_limit, mqM_to, mqM_frm, mqM_kind, mqM_number, mqM_sign, mqM_word, MT_.w_tp, MT_.w_size, MT_.w_limit, MT_.w_to, MT_.w_frm, MT_.w_kind, MT_.w_number, MT_.w_sign, MT_.w_word, nqM_rd, nqM_rn, nqM_taped, nqM_mfault, nqM_mplace, nqM_told, nqM_hl, nqM_hd, NR_.w_rd, NR_.w_rn, NR_.w_taped, NR_.w_mfault, NR_.w_mplace, NR_.w_told, NR_.w_hl, NR_.w_hd, vqM_nv, NV_.w_nv, zqM_nw, NW_.w_nw]), (fun q => absurd rfl q)⟩ dX12_readDoes_148
                  · skip
                    have r_141 := (⟨(r_63).1, (eq_rg (h_107) rc_0).2⟩ : Rg 0 0 x_42)
                    have r_142 := rg_der (k := (-9)) (lo := 9) (hi := 9) (ti_s tx_42 rc_9 (by decide)) r_141 r_64 (by decide) (by decide)
                    refine g_bipush C (v := 20) dX12_readDoes_134 (by decide) ?_
                    refine g_goto C (tgt := 141) dX12_readDoes_136 (by decide) ?_
                    obtain ⟨x_143, hx_143, rx_143⟩ := ex_getw (I := I_95) (a := x) (j := 13) (lo := (-2147483648)) (hi := 2147483647) hUI_95.1 hLx (ro_o hkx (by decide)) rfl
                    have f_144 : s_10.told = x_143 := (congrArg NR_.told hs_104).symm.trans hx_143
                    refine g_callVI C K (c_X12_readNumber_1_20 W9 hLx hkx   hUI_95) hLx hkx (by decide) rfl v_12_184 rfl ⟨rfl, rfl⟩ ⟨Nat.le_of_ble_eq_true rfl, Nat.le_of_ble_eq_true rfl⟩ (Nat.le_of_ble_eq_true rfl) ⟨Nat.le_of_ble_eq_true rfl, Nat.le_of_ble_eq_true rfl⟩ dX12_readDoes_141 rfl (st := []) (fun x_145 I_146 J_147 h_148 => ?_)
                    obtain ⟨hUI_146, hFI_146, hGJ_147, rx_145, fx_145, ex_145⟩ := h_148
                    have hF_149 := fq_tr hF_98 hFI_146 (by decide)
                    have hG_150 := fq_tr hG_99 hGJ_147 (by decide)
                    obtain ⟨s_152, hs_152⟩ : ∃ z, MTq I_146 J_147 x b_6 = z := ⟨_, rfl⟩
                    obtain ⟨s_153, hs_153⟩ : ∃ z, NRq I_146 J_147 x b_8 b_9 = z := ⟨_, rfl⟩
                    have c_151 : mReadNumber (1) (20) (s_101) (s_10) = (x_145, s_152, s_153) := by have q := fx_145; simp only [emqx, enqx, hs_101, hs_104, hs_152, hs_153] at q; exact q.symm
                    have hs_154 : NVq I_146 J_147 x b_2 = s_4 := (vq_fq wvqx hFI_146 hGJ_147 (by decide) (by decide)).trans hs_102
                    have hs_155 : NWq I_146 J_147 x b_1 = s_5 := (zq_fq wzqx hFI_146 hGJ_147 (by decide) (by decide)).trans hs_103
                    obtain ⟨x_156, hx_156, rx_156⟩ := ex_getw (I := I_146) (a := x) (j := 13) (lo := (-2147483648)) (hi := 2147483647) hUI_146.1 hLx (ro_o hkx (by decide)) rfl
                    have f_157 : s_153.told = x_156 := (congrArg NR_.told hs_153).symm.trans hx_156
                    have q_158 := hx_156
                    refine g_if_ne C (tgt := 149) dX12_readDoes_144 (by decide) (fun h_159 => ?_) (fun h_159 => ?_)
                    · skip
                      have n_160 : ¬ x_145 = 0 := h_159
                      have r_161 := ne_lo (lo := 1) n_160 rx_145 rc_0 rfl (by decide)
                      have r_162 := rg_i rx_156 (eq_rg q_158.symm ((ex_145.2) n_160)) (lo := 1) (hi := 20) (by decide) (by decide)
                      refine g_aload_n C 0 dX12_readDoes_149 rfl rfl ?_
                      refine g_getR C K hLx hkx f_12_73 hb_3 dX12_readDoes_150 ?_
                      refine g_iload_n C 1 dX12_readDoes_153 rfl rfl ?_
                      refine g_iconst C (v := 3) dX12_readDoes_154 (by decide) ?_
                      obtain ⟨x_163, hx_163, rx_163, tx_163⟩ := ex_add 3 159 ra0 rc_3 (by decide) (by decide) (by decide) (by decide)
                      refine g_iadd C (v := x_163) dX12_readDoes_155 hx_163 ?_
                      refine g_aload_n C 0 dX12_readDoes_156 rfl rfl ?_
                      refine g_getI C K hLx hkx f_12_153 (v := x_156) hx_156 dX12_readDoes_157 ?_
                      refine h_iast C K hb_3L hb_3k (x_163.toNatClampNeg) (rfl) (ix_0 rx_163 (by decide)) (ix_lt rx_163 (by decide) hb_3n (by decide)) dX12_readDoes_160 (fun I_164 hI_164 => ?_)
                      have q_165 := (fq_at hFI_146 hLx hkx (by decide) (by decide) (fq_at hFI_95 hLx hkx (by decide) (by decide) (kp_k (κ := κ) hI_83 (by rw [hkx, hb_3k]; decide) (fq_at hFI_51 hLx hkx (by decide) (by decide) (kp_k (κ := κ) hI_43 (by rw [hkx, hb_3k]; decide) q_12)))))
                      have hU_166 := iw_rw W9 hUI_146 (uw_put hUI_146.1 hI_164 (ro_a hb_3k (by decide) hb_3o hkx rfl) (lo := 0) (hi := 60) (bn_862.trans (rz_3 (ix_m (md_a (r2 := 3) tx_163 hm rc_3 (by decide)) rx_163 (by decide)))) (rg_w r_162 (by decide) (by decide))) hLx hkx hb_3 hI_164 q_165 (rxp0).1 (by have q9 := hat; rw [hxp0] at q9; rw [nx_a tx_163 ra0 rc_3 (by decide)]; simp only [show (3 : Int32).toNatClampNeg = 3 from rfl] <;> omega)
                      have hF_167 := fq_puta hF_149 hI_164 (ro_a hb_3k (by decide) hb_3o hkx rfl) (by decide) (by decide)
                      have hs_168 : NVq I_164 J_147 x b_2 = s_4 := by rw [hI_164]; exact (vq_oI wvqx (ro_a hb_3k (by decide) hb_3o hkx rfl) (by decide)).trans hs_154
                      have hs_169 : NWq I_164 J_147 x b_1 = s_5 := by rw [hI_164]; exact (zq_oI wzqx (ro_a hb_3k (by decide) hb_3o hkx rfl) (by decide)).trans hs_155
                      have hs_170 : MTq I_164 J_147 x b_6 = s_152 := by rw [hI_164]; exact (mq_oI wmqx (ro_a hb_3k (by decide) hb_3o hkx rfl) (by decide)).trans hs_152
                      have hs_171 : NRq I_164 J_147 x b_8 b_9 = s_153 := by rw [hI_164]; exact (nq_oI wnqx (ro_a hb_3k (by decide) hb_3o hkx rfl) (by decide)).trans hs_153
                      refine g_iconst C (v := 1) dX12_readDoes_161 (by decide) ?_
                      exact g_zret (ty := .boolean) (r := 1) B K rfl (rfl) ⟨hU_166, hF_167, hG_150, rg_w rc_1 (by decide) (by decide), (by (try simp only [h_17, (nlt h_17), c_37, h_38, h_41, hx_42, c_56, h_62, c_69, h_70, hx_73, hx_74, f_75, hy_76, f_77, c_82, h_91, c_100, (eq_true h_107), hx_143, f_144, c_151, hx_156, f_157, h_159, hx_163, if_true, if_false, mqM_tp, mqM_size, mqM_limit, mqM_to, mqM_frm, mqM_kind, mqM_number, mqM_sign, mqM_word, MT_.w_tp, MT_.w_size, MT_.w_limit, MT_.w_to, MT_.w_frm, MT_.w_kind, MT_.w_number, MT_.w_sign, MT_.w_word, nqM_rd, nqM_rn, nqM_taped, nqM_mfault, nqM_mplace, nqM_told, nqM_hl, nqM_hd, NR_.w_rd, NR_.w_rn, NR_.w_taped, NR_.w_mfault, NR_.w_mplace, NR_.w_told, NR_.w_hl, NR_.w_hd, vqM_nv, NV_.w_nv, zqM_nw, NW_.w_nw] at hQ_15); (try simp only [h_17, (nlt h_17), c_37, h_38, h_41, hx_42, c_56, h_62, c_69, h_70, hx_73, hx_74, f_75, hy_76, f_77, c_82, h_91, c_100, (eq_true h_107), hx_143, f_144, c_151, hx_156, f_157, h_159, hx_163, if_true, if_false, mqM_tp, mqM_size, mqM_limit, mqM_to, mqM_frm, mqM_kind, mqM_number, mqM_sign, mqM_word, MT_.w_tp, MT_.w_size, MT_.w_limit, MT_.w_to, MT_.w_frm, MT_.w_kind, MT_.w_number, MT_.w_sign, MT_.w_word, nqM_rd, nqM_rn, nqM_taped, nqM_mfault, nqM_mplace, nqM_told, nqM_hl, nqM_hd, NR_.w_rd, NR_.w_rn, NR_.w_taped, NR_.w_mfault, NR_.w_mplace, NR_.w_told, NR_.w_hl, NR_.w_hd, vqM_nv, NV_.w_nv, zqM_nw, NW_.w_nw] at u_16); simp only [mDo2, mDo3, mNum, evqx, hs_168, hs_4, ezqx, hs_169, hs_5, emqx, hs_170, hs_7, enqx, hs_171, hs_10, hQ_15, u_16, h_17, (nlt h_17), c_37, h_38, h_41, hx_42, c_56, h_62, c_69, h_70, hx_73, hx_74, f_75, hy_76, f_77, c_82, h_91, c_100, (eq_true h_107), hx_143, f_144, c_151, hx_156, f_157, h_159, hx_163, if_true, if_false, mqM_tp, mqM_size, mqM_limit, mqM_to, mqM_frm, mqM_kind, mqM_number, mqM_sign, mqM_word, MT_.w_tp, MT_.w_size, MT_.w_limit, MT_.w_to, MT_.w_frm, MT_.w_kind, MT_.w_number, MT_.w_sign, MT_.w_word, nqM_rd, nqM_rn, nqM_taped, nqM_mfault, nqM_mplace, nqM_told, nqM_hl, nqM_hd, NR_.w_rd, NR_.w_rn, NR_.w_taped, NR_.w_mfault, NR_.w_mplace, NR_.w_told, NR_.w_hl, NR_.w_hd, vqM_nv, NV_.w_nv, zqM_nw, NW_.w_nw]), (fun _ rw hr => by rw [hb_3] at hr; cases hr; rw [(kp_j hI_164 (show a0.toNatClampNeg + 2 ≠ x_163.toNatClampNeg from by rw [nx_a tx_163 ra0 rc_3 (by decide)]; simp only [show (3 : Int32).toNatClampNeg = 3 from rfl] <;> omega) (fq_ar hFI_146 hb_3L (ro_a hb_3k (by decide) hb_3o hkx rfl) (by decide) (by decide) (fq_ar hFI_95 hb_3L (ro_a hb_3k (by decide) hb_3o hkx rfl) (by decide) (by decide) (show I_83 b_3 (a0.toNatClampNeg + 2) = x_78 from by rw [← (show x_73.toNatClampNeg = a0.toNatClampNeg + 2 from by rw [nx_a tx_73 ra0 rc_2 (by decide)]; simp only [show (2 : Int32).toNatClampNeg = 2 from rfl] <;> omega)]; exact kp_s hI_83))))]; exact (r_93).1)⟩ dX12_readDoes_162
                    · skip
                      have r_172 := (⟨(rx_145).1, (eq_rg (h_159) rc_0).2⟩ : Rg 0 0 x_145)
                      refine g_iconst C (v := 0) dX12_readDoes_147 (by decide) ?_
                      exact g_zret (ty := .boolean) (r := 0) B K rfl (rfl) ⟨hUI_146, hF_149, hG_150, rg_w rc_0 (by decide) (by decide), (by (try simp only [h_17, (nlt h_17), c_37, h_38, h_41, hx_42, c_56, h_62, c_69, h_70, hx_73, hx_74, f_75, hy_76, f_77, c_82, h_91, c_100, (eq_true h_107), hx_143, f_144, c_151, hx_156, f_157, (eq_true h_159), if_true, if_false, mqM_tp, mqM_size, mqM_limit, mqM_to, mqM_frm, mqM_kind, mqM_number, mqM_sign, mqM_word, MT_.w_tp, MT_.w_size, MT_.w_limit, MT_.w_to, MT_.w_frm, MT_.w_kind, MT_.w_number, MT_.w_sign, MT_.w_word, nqM_rd, nqM_rn, nqM_taped, nqM_mfault, nqM_mplace, nqM_told, nqM_hl, nqM_hd, NR_.w_rd, NR_.w_rn, NR_.w_taped, NR_.w_mfault, NR_.w_mplace, NR_.w_told, NR_.w_hl, NR_.w_hd, vqM_nv, NV_.w_nv, zqM_nw, NW_.w_nw] at hQ_15); (try simp only [h_17, (nlt h_17), c_37, h_38, h_41, hx_42, c_56, h_62, c_69, h_70, hx_73, hx_74, f_75, hy_76, f_77, c_82, h_91, c_100, (eq_true h_107), hx_143, f_144, c_151, hx_156, f_157, (eq_true h_159), if_true, if_false, mqM_tp, mqM_size, mqM_limit, mqM_to, mqM_frm, mqM_kind, mqM_number, mqM_sign, mqM_word, MT_.w_tp, MT_.w_size, MT_.w_limit, MT_.w_to, MT_.w_frm, MT_.w_kind, MT_.w_number, MT_.w_sign, MT_.w_word, nqM_rd, nqM_rn, nqM_taped, nqM_mfault, nqM_mplace, nqM_told, nqM_hl, nqM_hd, NR_.w_rd, NR_.w_rn, NR_.w_taped, NR_.w_mfault, NR_.w_mplace, NR_.w_told, NR_.w_hl, NR_.w_hd, vqM_nv, NV_.w_nv, zqM_nw, NW_.w_nw] at u_16); simp only [mDo2, mDo3, mNum, evqx, hs_154, hs_4, ezqx, hs_155, hs_5, emqx, hs_152, hs_7, enqx, hs_153, hs_10, hQ_15, u_16, h_17, (nlt h_17), c_37, h_38, h_41, hx_42, c_56, h_62, c_69, h_70, hx_73, hx_74, f_75, hy_76, f_77, c_82, h_91, c_100, (eq_true h_107), hx_143, f_144, c_151, hx_156, f_157, (eq_true h_159), if_true, if_false, mqM_tp, mqM_size, mqM_limit, mqM_to, mqM_frm, mqM_kind, mqM_number, mqM_sign, mqM_word, MT_.w_tp, MT_.w_size, MT_.w_limit, MT_.w_to, MT_.w_frm, MT_.w_kind, MT_.w_number, MT_.w_sign, MT_.w_word, nqM_rd, nqM_rn, nqM_taped, nqM_mfault, nqM_mplace, nqM_told, nqM_hl, nqM_hd, NR_.w_rd, NR_.w_rn, NR_.w_taped, NR_.w_mfault, NR_.w_mplace, NR_.w_told, NR_.w_hl, NR_.w_hd, vqM_nv, NV_.w_nv, zqM_nw, NW_.w_nw]), (fun q => absurd rfl q)⟩ dX12_readDoes_148
                · skip
                  have r_173 := (⟨(rx_78).1, (eq_rg (h_91) rc_m1).2⟩ : Rg (-1) (-1) x_78)
                  refine g_aload_n C 0 dX12_readDoes_113 rfl rfl ?_
                  refine g_iconst C (v := 3) dX12_readDoes_114 (by decide) ?_
                  refine g_callVI C K (c_X12_bad W9 hLx hkx 3 (rg_w rc_3 (by decide) (by decide)) hU_84) hLx hkx (by decide) rfl v_12_146 rfl ⟨rfl, rfl⟩ ⟨Nat.le_of_ble_eq_true rfl, Nat.le_of_ble_eq_true rfl⟩ (Nat.le_of_ble_eq_true rfl) ⟨Nat.le_of_ble_eq_true rfl, Nat.le_of_ble_eq_true rfl⟩ dX12_readDoes_115 rfl (st := []) (fun x_174 I_175 J_176 h_177 => ?_)
                  obtain ⟨hUI_175, hFI_175, hGJ_176, rx_174, fx_174⟩ := h_177
                  have hF_178 := fq_tr hF_85 hFI_175 (by decide)
                  have hG_179 := fq_tr hG_55 hGJ_176 (by decide)
                  obtain ⟨s_181, hs_181⟩ : ∃ z, MTq I_175 J_176 x b_6 = z := ⟨_, rfl⟩
                  obtain ⟨s_182, hs_182⟩ : ∃ z, NRq I_175 J_176 x b_8 b_9 = z := ⟨_, rfl⟩
                  have c_180 : mBad (3) (s_57) (s_10) = (x_174, s_181, s_182) := by have q := fx_174; simp only [emqx, enqx, hs_88, hs_89, hs_181, hs_182] at q; exact q.symm
                  have hs_183 : NVq I_175 J_176 x b_2 = s_4 := (vq_fq wvqx hFI_175 hGJ_176 (by decide) (by decide)).trans hs_86
                  have hs_184 : NWq I_175 J_176 x b_1 = s_5 := (zq_fq wzqx hFI_175 hGJ_176 (by decide) (by decide)).trans hs_87
                  exact g_zret (ty := .boolean) (r := x_174) B K rfl (nar_z (rg_w rx_174 (by decide) (by decide))) ⟨hUI_175, hF_178, hG_179, rg_w rx_174 (by decide) (by decide), (by (try simp only [h_17, (nlt h_17), c_37, h_38, h_41, hx_42, c_56, h_62, c_69, h_70, hx_73, hx_74, f_75, hy_76, f_77, c_82, (eq_true h_91), c_180, if_true, if_false, mqM_tp, mqM_size, mqM_limit, mqM_to, mqM_frm, mqM_kind, mqM_number, mqM_sign, mqM_word, MT_.w_tp, MT_.w_size, MT_.w_limit, MT_.w_to, MT_.w_frm, MT_.w_kind, MT_.w_number, MT_.w_sign, MT_.w_word, nqM_rd, nqM_rn, nqM_taped, nqM_mfault, nqM_mplace, nqM_told, nqM_hl, nqM_hd, NR_.w_rd, NR_.w_rn, NR_.w_taped, NR_.w_mfault, NR_.w_mplace, NR_.w_told, NR_.w_hl, NR_.w_hd, vqM_nv, NV_.w_nv, zqM_nw, NW_.w_nw] at hQ_15); (try simp only [h_17, (nlt h_17), c_37, h_38, h_41, hx_42, c_56, h_62, c_69, h_70, hx_73, hx_74, f_75, hy_76, f_77, c_82, (eq_true h_91), c_180, if_true, if_false, mqM_tp, mqM_size, mqM_limit, mqM_to, mqM_frm, mqM_kind, mqM_number, mqM_sign, mqM_word, MT_.w_tp, MT_.w_size, MT_.w_limit, MT_.w_to, MT_.w_frm, MT_.w_kind, MT_.w_number, MT_.w_sign, MT_.w_word, nqM_rd, nqM_rn, nqM_taped, nqM_mfault, nqM_mplace, nqM_told, nqM_hl, nqM_hd, NR_.w_rd, NR_.w_rn, NR_.w_taped, NR_.w_mfault, NR_.w_mplace, NR_.w_told, NR_.w_hl, NR_.w_hd, vqM_nv, NV_.w_nv, zqM_nw, NW_.w_nw] at u_16); simp only [mDo2, mDo3, mNum, evqx, hs_183, hs_4, ezqx, hs_184, hs_5, emqx, hs_181, hs_7, enqx, hs_182, hs_10, hQ_15, u_16, h_17, (nlt h_17), c_37, h_38, h_41, hx_42, c_56, h_62, c_69, h_70, hx_73, hx_74, f_75, hy_76, f_77, c_82, (eq_true h_91), c_180, if_true, if_false, mqM_tp, mqM_size, mqM_limit, mqM_to, mqM_frm, mqM_kind, mqM_number, mqM_sign, mqM_word, MT_.w_tp, MT_.w_size, MT_.w_limit, MT_.w_to, MT_.w_frm, MT_.w_kind, MT_.w_number, MT_.w_sign, MT_.w_word, nqM_rd, nqM_rn, nqM_taped, nqM_mfault, nqM_mplace, nqM_told, nqM_hl, nqM_hd, NR_.w_rd, NR_.w_rn, NR_.w_taped, NR_.w_mfault, NR_.w_mplace, NR_.w_told, NR_.w_hl, NR_.w_hd, vqM_nv, NV_.w_nv, zqM_nw, NW_.w_nw]), (fun q => ne_no q rx_174 rc_0)⟩ dX12_readDoes_118
              · skip
                have r_185 := (⟨(rx_65).1, (eq_rg (h_70) rc_0).2⟩ : Rg 0 0 x_65)
                refine g_aload_n C 0 dX12_readDoes_68 rfl rfl ?_
                refine g_iconst C (v := 1) dX12_readDoes_69 (by decide) ?_
                refine g_callVI C K (c_X12_bad W9 hLx hkx 1 (rg_w rc_1 (by decide) (by decide)) hUI_51) hLx hkx (by decide) rfl v_12_146 rfl ⟨rfl, rfl⟩ ⟨Nat.le_of_ble_eq_true rfl, Nat.le_of_ble_eq_true rfl⟩ (Nat.le_of_ble_eq_true rfl) ⟨Nat.le_of_ble_eq_true rfl, Nat.le_of_ble_eq_true rfl⟩ dX12_readDoes_70 rfl (st := []) (fun x_186 I_187 J_188 h_189 => ?_)
                obtain ⟨hUI_187, hFI_187, hGJ_188, rx_186, fx_186⟩ := h_189
                have hF_190 := fq_tr hF_54 hFI_187 (by decide)
                have hG_191 := fq_tr hG_55 hGJ_188 (by decide)
                obtain ⟨s_193, hs_193⟩ : ∃ z, MTq I_187 J_188 x b_6 = z := ⟨_, rfl⟩
                obtain ⟨s_194, hs_194⟩ : ∃ z, NRq I_187 J_188 x b_8 b_9 = z := ⟨_, rfl⟩
                have c_192 : mBad (1) (s_57) (s_10) = (x_186, s_193, s_194) := by have q := fx_186; simp only [emqx, enqx, hs_57, hs_60, hs_193, hs_194] at q; exact q.symm
                have hs_195 : NVq I_187 J_188 x b_2 = s_4 := (vq_fq wvqx hFI_187 hGJ_188 (by decide) (by decide)).trans hs_58
                have hs_196 : NWq I_187 J_188 x b_1 = s_5 := (zq_fq wzqx hFI_187 hGJ_188 (by decide) (by decide)).trans hs_59
                exact g_zret (ty := .boolean) (r := x_186) B K rfl (nar_z (rg_w rx_186 (by decide) (by decide))) ⟨hUI_187, hF_190, hG_191, rg_w rx_186 (by decide) (by decide), (by (try simp only [h_17, (nlt h_17), c_37, h_38, h_41, hx_42, c_56, h_62, c_69, (eq_true h_70), c_192, if_true, if_false, mqM_tp, mqM_size, mqM_limit, mqM_to, mqM_frm, mqM_kind, mqM_number, mqM_sign, mqM_word, MT_.w_tp, MT_.w_size, MT_.w_limit, MT_.w_to, MT_.w_frm, MT_.w_kind, MT_.w_number, MT_.w_sign, MT_.w_word, nqM_rd, nqM_rn, nqM_taped, nqM_mfault, nqM_mplace, nqM_told, nqM_hl, nqM_hd, NR_.w_rd, NR_.w_rn, NR_.w_taped, NR_.w_mfault, NR_.w_mplace, NR_.w_told, NR_.w_hl, NR_.w_hd, vqM_nv, NV_.w_nv, zqM_nw, NW_.w_nw] at hQ_15); (try simp only [h_17, (nlt h_17), c_37, h_38, h_41, hx_42, c_56, h_62, c_69, (eq_true h_70), c_192, if_true, if_false, mqM_tp, mqM_size, mqM_limit, mqM_to, mqM_frm, mqM_kind, mqM_number, mqM_sign, mqM_word, MT_.w_tp, MT_.w_size, MT_.w_limit, MT_.w_to, MT_.w_frm, MT_.w_kind, MT_.w_number, MT_.w_sign, MT_.w_word, nqM_rd, nqM_rn, nqM_taped, nqM_mfault, nqM_mplace, nqM_told, nqM_hl, nqM_hd, NR_.w_rd, NR_.w_rn, NR_.w_taped, NR_.w_mfault, NR_.w_mplace, NR_.w_told, NR_.w_hl, NR_.w_hd, vqM_nv, NV_.w_nv, zqM_nw, NW_.w_nw] at u_16); simp only [mDo2, mDo3, mNum, evqx, hs_195, hs_4, ezqx, hs_196, hs_5, emqx, hs_193, hs_7, enqx, hs_194, hs_10, hQ_15, u_16, h_17, (nlt h_17), c_37, h_38, h_41, hx_42, c_56, h_62, c_69, (eq_true h_70), c_192, if_true, if_false, mqM_tp, mqM_size, mqM_limit, mqM_to, mqM_frm, mqM_kind, mqM_number, mqM_sign, mqM_word, MT_.w_tp, MT_.w_size, MT_.w_limit, MT_.w_to, MT_.w_frm, MT_.w_kind, MT_.w_number, MT_.w_sign, MT_.w_word, nqM_rd, nqM_rn, nqM_taped, nqM_mfault, nqM_mplace, nqM_told, nqM_hl, nqM_hd, NR_.w_rd, NR_.w_rn, NR_.w_taped, NR_.w_mfault, NR_.w_mplace, NR_.w_told, NR_.w_hl, NR_.w_hd, vqM_nv, NV_.w_nv, zqM_nw, NW_.w_nw]), (fun q => ne_no q rx_186 rc_0)⟩ dX12_readDoes_73
            · skip
              have r_197 := lt_r (lo := 2) (nle h_62) rc_1 rx_42 (by decide)
              have r_198 := rg_der (k := (-9)) (lo := 11) (hi := 14) (ti_s tx_42 rc_9 (by decide)) r_197 r_32 (by decide) (by decide)
              refine g_iconst C (v := 1) dX12_readDoes_59 (by decide) ?_
              exact g_zret (ty := .boolean) (r := 1) B K rfl (rfl) ⟨hUI_51, hF_54, hG_55, rg_w rc_1 (by decide) (by decide), (by first | ((try simp only [h_17, (nlt h_17), c_37, h_38, h_41, hx_42, c_56, h_62, (nle h_62), if_true, if_false, mqM_tp, mqM_size, mqM_limit, mqM_to, mqM_frm, mqM_kind, mqM_number, mqM_sign, mqM_word, MT_.w_tp, MT_.w_size, MT_.w_limit, MT_.w_to, MT_.w_frm, MT_.w_kind, MT_.w_number, MT_.w_sign, MT_.w_word, nqM_rd, nqM_rn, nqM_taped, nqM_mfault, nqM_mplace, nqM_told, nqM_hl, nqM_hd, NR_.w_rd, NR_.w_rn, NR_.w_taped, NR_.w_mfault, NR_.w_mplace, NR_.w_told, NR_.w_hl, NR_.w_hd, vqM_nv, NV_.w_nv, zqM_nw, NW_.w_nw] at hQ_15); (try simp only [h_17, (nlt h_17), c_37, h_38, h_41, hx_42, c_56, h_62, (nle h_62), if_true, if_false, mqM_tp, mqM_size, mqM_limit, mqM_to, mqM_frm, mqM_kind, mqM_number, mqM_sign, mqM_word, MT_.w_tp, MT_.w_size, MT_.w_limit, MT_.w_to, MT_.w_frm, MT_.w_kind, MT_.w_number, MT_.w_sign, MT_.w_word, nqM_rd, nqM_rn, nqM_taped, nqM_mfault, nqM_mplace, nqM_told, nqM_hl, nqM_hd, NR_.w_rd, NR_.w_rn, NR_.w_taped, NR_.w_mfault, NR_.w_mplace, NR_.w_told, NR_.w_hl, NR_.w_hd, vqM_nv, NV_.w_nv, zqM_nw, NW_.w_nw] at u_16); simp only [mDo2, mDo3, mNum, evqx, hs_58, hs_4, ezqx, hs_59, hs_5, emqx, hs_57, hs_7, enqx, hs_60, hs_10, hQ_15, u_16, h_17, (nlt h_17), c_37, h_38, h_41, hx_42, c_56, h_62, (nle h_62), if_true, if_false, mqM_tp, mqM_size, mqM_limit, mqM_to, mqM_frm, mqM_kind, mqM_number, mqM_sign, mqM_word, MT_.w_tp, MT_.w_size, MT_.w_limit, MT_.w_to, MT_.w_frm, MT_.w_kind, MT_.w_number, MT_.w_sign, MT_.w_word, nqM_rd, nqM_rn, nqM_taped, nqM_mfault, nqM_mplace, nqM_told, nqM_hl, nqM_hd, NR_.w_rd, NR_.w_rn, NR_.w_taped, NR_.w_mfault, NR_.w_mplace, NR_.w_told, NR_.w_hl, NR_.w_hd, vqM_nv, NV_.w_nv, zqM_nw, NW_.w_nw]; done) | exact absurd (nle h_62) h_17), (fun _ rw hr => by rw [hb_3] at hr; cases hr; rw [show I_51 b_3 (a0.toNatClampNeg + 2) = I b_3 (a0.toNatClampNeg + 2) from (fq_ar hFI_51 hb_3L (ro_a hb_3k (by decide) hb_3o hkx rfl) (by decide) (by decide) (kp_j hI_43 (show a0.toNatClampNeg + 2 ≠ a0.toNatClampNeg from by omega) rfl))]; exact h2 _ hb_3)⟩ dX12_readDoes_60
          · skip
            have r_199 := lt_r (lo := 15) (nle h_41) rc_14 r_32 (by decide)
            exact rg_no r_199 (by decide)
        · skip
          have r_200 := (⟨(rx_33).1, (eq_rg (h_38) rc_0).2⟩ : Rg 0 0 x_33)
          obtain ⟨x_201, hx_201, rx_201, tx_201⟩ := ex_add (y := 1) 10 15 r_32 rc_1 (by decide) (by decide) (by decide) (by decide)
          refine g_iinc C dX12_readDoes_17 (k := 2) (v := x_201) rfl hx_201 (by decide) (lo2 := [(2, .int x_201), (0, .ref x), (1, .int a0)]) rfl ?_
          refine g_goto C (tgt := 3) dX12_readDoes_20 (by decide) ?_
          refine g_lo (is := [1, 2, 0]) (lo2 := [(0, .ref x), (1, .int a0), (2, .int x_201)]) rfl ?_
          exact ih_3 x_201 (rg_w rx_201 (by decide) (by decide)) q_12 (by (try simp only [h_17, (nlt h_17), c_37, (eq_true h_38), hx_201, if_true, if_false, mqM_tp, mqM_size, mqM_limit, mqM_to, mqM_frm, mqM_kind, mqM_number, mqM_sign, mqM_word, MT_.w_tp, MT_.w_size, MT_.w_limit, MT_.w_to, MT_.w_frm, MT_.w_kind, MT_.w_number, MT_.w_sign, MT_.w_word, nqM_rd, nqM_rn, nqM_taped, nqM_mfault, nqM_mplace, nqM_told, nqM_hl, nqM_hd, NR_.w_rd, NR_.w_rn, NR_.w_taped, NR_.w_mfault, NR_.w_mplace, NR_.w_told, NR_.w_hl, NR_.w_hd, vqM_nv, NV_.w_nv, zqM_nw, NW_.w_nw] at hQ_15); (try simp only [h_17, (nlt h_17), c_37, (eq_true h_38), hx_201, if_true, if_false, mqM_tp, mqM_size, mqM_limit, mqM_to, mqM_frm, mqM_kind, mqM_number, mqM_sign, mqM_word, MT_.w_tp, MT_.w_size, MT_.w_limit, MT_.w_to, MT_.w_frm, MT_.w_kind, MT_.w_number, MT_.w_sign, MT_.w_word, nqM_rd, nqM_rn, nqM_taped, nqM_mfault, nqM_mplace, nqM_told, nqM_hl, nqM_hd, NR_.w_rd, NR_.w_rn, NR_.w_taped, NR_.w_mfault, NR_.w_mplace, NR_.w_told, NR_.w_hl, NR_.w_hd, vqM_nv, NV_.w_nv, zqM_nw, NW_.w_nw] at u_16); simp only [mDo2, mDo3, mNum, evqx, hs_4, ezqx, hs_5, emqx, hs_7, enqx, hs_10, hQ_15, u_16, h_17, (nlt h_17), c_37, (eq_true h_38), hx_201, if_true, if_false, mqM_tp, mqM_size, mqM_limit, mqM_to, mqM_frm, mqM_kind, mqM_number, mqM_sign, mqM_word, MT_.w_tp, MT_.w_size, MT_.w_limit, MT_.w_to, MT_.w_frm, MT_.w_kind, MT_.w_number, MT_.w_sign, MT_.w_word, nqM_rd, nqM_rn, nqM_taped, nqM_mfault, nqM_mplace, nqM_told, nqM_hl, nqM_hd, NR_.w_rd, NR_.w_rn, NR_.w_taped, NR_.w_mfault, NR_.w_mplace, NR_.w_told, NR_.w_hl, NR_.w_hd, vqM_nv, NV_.w_nv, zqM_nw, NW_.w_nw]) (ms_1 hm_14 (ti_k tx_201 rc_1) (by decide))
  refine g_bipush C (v := 9) dX12_readDoes_0 (by decide) ?_
  refine g_istore_n C dX12_readDoes_2 rfl (by decide) (lo2 := [(2, .int 9), (0, .ref x), (1, .int a0)]) rfl ?_
  refine g_lo (is := [1, 2, 0]) (lo2 := [(0, .ref x), (1, .int a0), (2, .int 9)]) rfl ?_
  exact l_3 7 9 (rg_w rc_9 (by decide) (by decide)) hxp0 (by simp only [mDoes, mDo2, mDo3, mNum, evqx, hs_4, ezqx, hs_5, emqx, hs_7, enqx, hs_10, if_true, if_false, mqM_tp, mqM_size, mqM_limit, mqM_to, mqM_frm, mqM_kind, mqM_number, mqM_sign, mqM_word, MT_.w_tp, MT_.w_size, MT_.w_limit, MT_.w_to, MT_.w_frm, MT_.w_kind, MT_.w_number, MT_.w_sign, MT_.w_word, nqM_rd, nqM_rn, nqM_taped, nqM_mfault, nqM_mplace, nqM_told, nqM_hl, nqM_hd, NR_.w_rd, NR_.w_rn, NR_.w_taped, NR_.w_mfault, NR_.w_mplace, NR_.w_told, NR_.w_hl, NR_.w_hd, vqM_nv, NV_.w_nv, zqM_nw, NW_.w_nw]) (ms_s (a := 9) (b := 15) (N := 7) (rg_w rc_9 (by decide) (by decide)) (by decide))
set_option maxRecDepth 100000 in
set_option maxHeartbeats 8000000 in
theorem c_X12_readNumber_1_60 {l : Launch} {D : va_G} {cy : Nat → ClassId} {L : List Nat} {κ ln : Nat → Nat} {R : Nat → Nat → Option Nat} {I : Nat → Nat → Int32} {J : Nat → Nat → Int64} {ow : Nat → Nat × Nat} (W9 : ∀ a ∈ L, Shp L κ ln R ow a) {x : Nat} (hLx : x ∈ L) (hkx : κ x = 12) (hU : Iw L κ R ow I) : CtI l yX12_readNumber cX12_readNumber 3 (some .boolean) { frames := 2, cells := 0, slots := 0, locals := 45 } D cy L κ ln R I J [.ref x, .int 1, .int 60] (fun r I2 J2 => Iw L κ R ow I2 ∧ Fq L κ ow [1205, 1206, 1207, 1208, 1209, 1210, 1211, 1213] I I2 ∧ Fq L κ ow [1212] J J2 ∧ Rg 0 1 r ∧ ((r, MTf R I2 J2 x, NRf R I2 J2 x) = mReadNumber (1) (60) (MTf R I J x) (NRf R I J x)) ∧ (Pg_ x I I2 ∧ (¬ r = 0 → Ps_ x I I2)) ∧ (¬ r = 0 → Rg 1 60 (I2 x 13))) := by
  refine CtI.of (by decide +kernel) (Nat.le_of_ble_eq_true rfl) ?_
  intro p e s m below meth c B K
  have C := B.1
  have hF : Fq L κ ow [1205, 1206, 1207, 1208, 1209, 1210, 1211, 1213] I I := fq_rf
  have hG : Fq L κ ow [1212] J J := fq_rf
  obtain ⟨b_1, hb_1, hb_1L, hb_1k, hb_1n, hb_1o⟩ := shp_a (W9 x hLx) hkx 1 14 940 rfl (by decide)
  have emqx : ∀ I J, MTf R I J x = MTq I J x b_1 := fun I J => by simp only [MTf, rr_, Option.getD_some, hb_1]
  have wmqx : mqw_ L κ ow x b_1 := ⟨⟨hLx, hb_1L⟩, ⟨(ro_o hkx (by decide)), (ro_a hb_1k (by decide) hb_1o hkx rfl)⟩⟩
  obtain ⟨s_2, hs_2⟩ : ∃ z, MTq I J x b_1 = z := ⟨_, rfl⟩
  obtain ⟨b_3, hb_3, hb_3L, hb_3k, hb_3n, hb_3o⟩ := shp_a (W9 x hLx) hkx 15 14 72 rfl (by decide)
  obtain ⟨b_4, hb_4, hb_4L, hb_4k, hb_4n, hb_4o⟩ := shp_a (W9 x hLx) hkx 20 15 13 rfl (by decide)
  have enqx : ∀ I J, NRf R I J x = NRq I J x b_3 b_4 := fun I J => by simp only [NRf, rr_, Option.getD_some, hb_3, hb_4]
  have wnqx : nqw_ L κ ow x b_3 b_4 := ⟨⟨hLx, hb_3L, hb_4L⟩, ⟨(ro_o hkx (by decide)), (ro_a hb_3k (by decide) hb_3o hkx rfl), (ro_a hb_4k (by decide) hb_4o hkx rfl)⟩⟩
  obtain ⟨s_5, hs_5⟩ : ∃ z, NRq I J x b_3 b_4 = z := ⟨_, rfl⟩
  refine g_lo (is := [0, 1, 2]) (lo2 := [(0, .ref x), (1, .int 1), (2, .int 60)]) rfl ?_
  refine g_aload_n C 0 dX12_readNumber_0 rfl rfl ?_
  obtain ⟨x_6, hx_6, rx_6⟩ := ex_getw (I := I) (a := x) (j := 7) (lo := 0) (hi := 4) hU.1 hLx (ro_o hkx (by decide)) rfl
  have f_7 : s_2.kind = x_6 := (congrArg MT_.kind hs_2).symm.trans hx_6
  refine g_getI C K hLx hkx f_12_104 (v := x_6) hx_6 dX12_readNumber_1 ?_
  refine g_iconst C (v := 3) dX12_readNumber_4 (by decide) ?_
  refine g_icmp_eq C (tgt := 14) dX12_readNumber_5 (by decide) (fun h_8 => ?_) (fun h_8 => ?_)
  · skip
    have r_9 := (⟨(eq_rg (h_8) rc_3).1, (eq_rg (h_8) rc_3).2⟩ : Rg 3 3 x_6)
    refine g_aload_n C 0 dX12_readNumber_14 rfl rfl ?_
    obtain ⟨x_10, hx_10, rx_10⟩ := ex_getw (I := I) (a := x) (j := 8) (lo := (-2147483648)) (hi := 2147483647) hU.1 hLx (ro_o hkx (by decide)) rfl
    have f_11 : s_2.number = x_10 := (congrArg MT_.number hs_2).symm.trans hx_10
    refine g_getI C K hLx hkx f_12_121 (v := x_10) hx_10 dX12_readNumber_15 ?_
    refine g_iload_n C 1 dX12_readNumber_18 rfl rfl ?_
    refine g_iload_n C 2 dX12_readNumber_19 rfl rfl ?_
    refine g_callSI C K (c_X12_isIn W9 x_10 1 60 (rg_w rc_1 (by decide) (by decide)) (rg_w rc_60 (by decide) (by decide)) hU) s_12_149 rfl ⟨rfl, rfl⟩ ⟨Nat.le_of_ble_eq_true rfl, Nat.le_of_ble_eq_true rfl⟩ (Nat.le_of_ble_eq_true rfl) ⟨Nat.le_of_ble_eq_true rfl, Nat.le_of_ble_eq_true rfl⟩ dX12_readNumber_20 rfl (st := []) (fun x_12 I_13 J_14 h_15 => ?_)
    obtain ⟨rfl, rfl, rx_12, fx_12, ex_12⟩ := h_15
    have c_16 : isIn_ (x_10) (1) (60) = x_12 := fx_12.symm
    refine g_if_ne C (tgt := 32) dX12_readNumber_23 (by decide) (fun h_17 => ?_) (fun h_17 => ?_)
    · skip
      have n_18 : ¬ x_12 = 0 := h_17
      have r_19 := ne_lo (lo := 1) n_18 rx_12 rc_0 rfl (by decide)
      have r_20 := le_r (((ex_12.1) n_18)) rc_1 rx_10
      have r_21 := le_l (((ex_12.2) n_18)) r_20 rc_60
      refine g_aload_n C 0 dX12_readNumber_32 rfl rfl ?_
      refine g_aload_n C 0 dX12_readNumber_33 rfl rfl ?_
      refine g_getI C K hLx hkx f_12_121 (v := x_10) hx_10 dX12_readNumber_34 ?_
      refine h_putI C K hLx hkx f_12_153 p_12_13 dX12_readNumber_37 (fun I_22 hI_22 => ?_)
      have hU_23 := iw_put W9 hU hI_22 (ro_o hkx (by decide)) (lo := (-2147483648)) (hi := 2147483647) (rfl) (rg_all _) rfl
      have hF_24 := fq_puto hF hI_22 hkx (by decide) (by decide)
      have hs_25 : MTq I_22 J x b_1 = s_2 := by rw [hI_22]; exact (mq_uIt wmqx (by decide)).trans hs_2
      have hs_26 : NRq I_22 J x b_3 b_4 = (NR_.w_told s_5 (x_10)) := by rw [hI_22]; exact ((nq_told wnqx).trans (congrArg (fun z : NR_ => NR_.w_told z (x_10)) hs_5)).trans rfl
      refine g_aload_n C 0 dX12_readNumber_40 rfl rfl ?_
      refine g_callVV C K (c_X12_go W9 hLx hkx   hU_23) hLx hkx (by decide) rfl v_12_156 rfl ⟨rfl, rfl⟩ ⟨Nat.le_of_ble_eq_true rfl, Nat.le_of_ble_eq_true rfl⟩ (Nat.le_of_ble_eq_true rfl) ⟨Nat.le_of_ble_eq_true rfl, Nat.le_of_ble_eq_true rfl⟩ dX12_readNumber_41 rfl (st := []) (fun I_28 J_29 h_30 => ?_)
      obtain ⟨hUI_28, hFI_28, hGJ_29, fx_27, ex_27⟩ := h_30
      have hF_31 := fq_tr hF_24 hFI_28 (by decide)
      have hG_32 := fq_tr hG hGJ_29 (by decide)
      obtain ⟨s_34, hs_34⟩ : ∃ z, MTq I_28 J_29 x b_1 = z := ⟨_, rfl⟩
      have c_33 : mGo (s_2) = s_34 := by have q := fx_27; simp only [emqx, hs_25, hs_34] at q; exact q.symm
      have hs_35 : NRq I_28 J_29 x b_3 b_4 = (NR_.w_told s_5 (x_10)) := (nq_fq wnqx hFI_28 hGJ_29 (by decide) (by decide)).trans hs_26
      refine g_iconst C (v := 1) dX12_readNumber_44 (by decide) ?_
      exact g_zret (ty := .boolean) (r := 1) B K rfl (rfl) ⟨hUI_28, hF_31, hG_32, rg_w rc_1 (by decide) (by decide), (by simp only [mReadNumber, emqx, hs_34, hs_2, enqx, hs_35, hs_5, hx_6, f_7, (eq_true h_8), hx_10, f_11, c_16, h_17, c_33, if_true, if_false, mqM_tp, mqM_size, mqM_limit, mqM_to, mqM_frm, mqM_kind, mqM_number, mqM_sign, mqM_word, MT_.w_tp, MT_.w_size, MT_.w_limit, MT_.w_to, MT_.w_frm, MT_.w_kind, MT_.w_number, MT_.w_sign, MT_.w_word, nqM_rd, nqM_rn, nqM_taped, nqM_mfault, nqM_mplace, nqM_told, nqM_hl, nqM_hd, NR_.w_rd, NR_.w_rn, NR_.w_taped, NR_.w_mfault, NR_.w_mplace, NR_.w_told, NR_.w_hl, NR_.w_hd]), ⟨(pg_s (ps_t2 (pg_u pg_rf hI_22 (Or.inr (by decide)) (Or.inr (by decide))) ex_27)), fun _ => (ps_t2 (pg_u pg_rf hI_22 (Or.inr (by decide)) (Or.inr (by decide))) ex_27)⟩, (fun _ => eq_rg (fq_at hFI_28 hLx hkx (by decide) (by decide) (kp_s hI_22)) (r_21))⟩ dX12_readNumber_45
    · skip
      have r_36 := (⟨(rx_12).1, (eq_rg (h_17) rc_0).2⟩ : Rg 0 0 x_12)
      refine g_aload_n C 0 dX12_readNumber_26 rfl rfl ?_
      refine g_iconst C (v := 2) dX12_readNumber_27 (by decide) ?_
      refine g_callVI C K (c_X12_bad W9 hLx hkx 2 (rg_w rc_2 (by decide) (by decide)) hU) hLx hkx (by decide) rfl v_12_146 rfl ⟨rfl, rfl⟩ ⟨Nat.le_of_ble_eq_true rfl, Nat.le_of_ble_eq_true rfl⟩ (Nat.le_of_ble_eq_true rfl) ⟨Nat.le_of_ble_eq_true rfl, Nat.le_of_ble_eq_true rfl⟩ dX12_readNumber_28 rfl (st := []) (fun x_37 I_38 J_39 h_40 => ?_)
      obtain ⟨hUI_38, hFI_38, hGJ_39, rx_37, fx_37⟩ := h_40
      have hF_41 := fq_tr hF hFI_38 (by decide)
      have hG_42 := fq_tr hG hGJ_39 (by decide)
      obtain ⟨s_44, hs_44⟩ : ∃ z, MTq I_38 J_39 x b_1 = z := ⟨_, rfl⟩
      obtain ⟨s_45, hs_45⟩ : ∃ z, NRq I_38 J_39 x b_3 b_4 = z := ⟨_, rfl⟩
      have c_43 : mBad (2) (s_2) (s_5) = (x_37, s_44, s_45) := by have q := fx_37; simp only [emqx, enqx, hs_2, hs_5, hs_44, hs_45] at q; exact q.symm
      exact g_zret (ty := .boolean) (r := x_37) B K rfl (nar_z (rg_w rx_37 (by decide) (by decide))) ⟨hUI_38, hF_41, hG_42, rg_w rx_37 (by decide) (by decide), (by simp only [mReadNumber, emqx, hs_44, hs_2, enqx, hs_45, hs_5, hx_6, f_7, (eq_true h_8), hx_10, f_11, c_16, (eq_true h_17), c_43, if_true, if_false, mqM_tp, mqM_size, mqM_limit, mqM_to, mqM_frm, mqM_kind, mqM_number, mqM_sign, mqM_word, MT_.w_tp, MT_.w_size, MT_.w_limit, MT_.w_to, MT_.w_frm, MT_.w_kind, MT_.w_number, MT_.w_sign, MT_.w_word, nqM_rd, nqM_rn, nqM_taped, nqM_mfault, nqM_mplace, nqM_told, nqM_hl, nqM_hd, NR_.w_rd, NR_.w_rn, NR_.w_taped, NR_.w_mfault, NR_.w_mplace, NR_.w_told, NR_.w_hl, NR_.w_hd]), ⟨(pg_fq pg_rf hFI_38 hLx hkx (by decide) (by decide)), fun q => ne_no q rx_37 rc_0⟩, (fun q => ne_no q rx_37 rc_0)⟩ dX12_readNumber_31
  · skip
    have n_46 : ¬ x_6 = 3 := h_8
    refine g_aload_n C 0 dX12_readNumber_8 rfl rfl ?_
    refine g_iconst C (v := 1) dX12_readNumber_9 (by decide) ?_
    refine g_callVI C K (c_X12_bad W9 hLx hkx 1 (rg_w rc_1 (by decide) (by decide)) hU) hLx hkx (by decide) rfl v_12_146 rfl ⟨rfl, rfl⟩ ⟨Nat.le_of_ble_eq_true rfl, Nat.le_of_ble_eq_true rfl⟩ (Nat.le_of_ble_eq_true rfl) ⟨Nat.le_of_ble_eq_true rfl, Nat.le_of_ble_eq_true rfl⟩ dX12_readNumber_10 rfl (st := []) (fun x_47 I_48 J_49 h_50 => ?_)
    obtain ⟨hUI_48, hFI_48, hGJ_49, rx_47, fx_47⟩ := h_50
    have hF_51 := fq_tr hF hFI_48 (by decide)
    have hG_52 := fq_tr hG hGJ_49 (by decide)
    obtain ⟨s_54, hs_54⟩ : ∃ z, MTq I_48 J_49 x b_1 = z := ⟨_, rfl⟩
    obtain ⟨s_55, hs_55⟩ : ∃ z, NRq I_48 J_49 x b_3 b_4 = z := ⟨_, rfl⟩
    have c_53 : mBad (1) (s_2) (s_5) = (x_47, s_54, s_55) := by have q := fx_47; simp only [emqx, enqx, hs_2, hs_5, hs_54, hs_55] at q; exact q.symm
    exact g_zret (ty := .boolean) (r := x_47) B K rfl (nar_z (rg_w rx_47 (by decide) (by decide))) ⟨hUI_48, hF_51, hG_52, rg_w rx_47 (by decide) (by decide), (by simp only [mReadNumber, emqx, hs_54, hs_2, enqx, hs_55, hs_5, hx_6, f_7, h_8, c_53, if_true, if_false, mqM_tp, mqM_size, mqM_limit, mqM_to, mqM_frm, mqM_kind, mqM_number, mqM_sign, mqM_word, MT_.w_tp, MT_.w_size, MT_.w_limit, MT_.w_to, MT_.w_frm, MT_.w_kind, MT_.w_number, MT_.w_sign, MT_.w_word, nqM_rd, nqM_rn, nqM_taped, nqM_mfault, nqM_mplace, nqM_told, nqM_hl, nqM_hd, NR_.w_rd, NR_.w_rn, NR_.w_taped, NR_.w_mfault, NR_.w_mplace, NR_.w_told, NR_.w_hl, NR_.w_hd]), ⟨(pg_fq pg_rf hFI_48 hLx hkx (by decide) (by decide)), fun q => ne_no q rx_47 rc_0⟩, (fun q => ne_no q rx_47 rc_0)⟩ dX12_readNumber_13
set_option maxRecDepth 100000 in
set_option maxHeartbeats 8000000 in
theorem c_X12_readBookLine {l : Launch} {D : va_G} {cy : Nat → ClassId} {L : List Nat} {κ ln : Nat → Nat} {R : Nat → Nat → Option Nat} {I : Nat → Nat → Int32} {J : Nat → Nat → Int64} {ow : Nat → Nat × Nat} (W9 : ∀ a ∈ L, Shp L κ ln R ow a) {x : Nat} (hLx : x ∈ L) (hkx : κ x = 12) (hU : Iw L κ R ow I) : CtI l yX12_readBookLine cX12_readBookLine 3 (some .boolean) { frames := 4, cells := 0, slots := 0, locals := 91 } D cy L κ ln R I J [.ref x] (fun r I2 J2 => Iw L κ R ow I2 ∧ Fq L κ ow [1205, 1206, 1207, 1208, 1209, 1210, 1211, 1213, 86200] I I2 ∧ Fq L κ ow [1212] J J2 ∧ Rg 0 1 r ∧ ((r, MTf R I2 J2 x, NRf R I2 J2 x) = mBkLine (NVf R I J x) (NWf R I J x) (YTf R I J x) (MTf R I J x) (NRf R I J x)) ∧ (¬ r = 0 → ∀ rw, R x 42 = some rw → 0 ≤ (I2 rw (4 * (I2 x 44).toNatClampNeg + 2)).toInt) ∧ (¬ r = 0 → Rg 0 39 (I2 x 44))) := by
  refine CtI.of (by decide +kernel) (Nat.le_of_ble_eq_true rfl) ?_
  intro p e s m below meth c B K
  have C := B.1
  have hF : Fq L κ ow [1205, 1206, 1207, 1208, 1209, 1210, 1211, 1213, 86200] I I := fq_rf
  have hG : Fq L κ ow [1212] J J := fq_rf
  obtain ⟨b_1, hb_1, hb_1L, hb_1k, hb_1n, hb_1o⟩ := shp_a (W9 x hLx) hkx 14 14 389 rfl (by decide)
  obtain ⟨b_2, hb_2, hb_2L, hb_2k, hb_2n, hb_2o⟩ := shp_a (W9 x hLx) hkx 19 15 13 rfl (by decide)
  obtain ⟨b_3, hb_3, hb_3L, hb_3k, hb_3n, hb_3o⟩ := shp_a (W9 x hLx) hkx 42 14 160 rfl (by decide)
  have evqx : ∀ I J, NVf R I J x = NVq I J x b_2 := fun I J => by simp only [NVf, rr_, Option.getD_some, hb_2]
  have wvqx : vqw_ L κ ow x b_2 := ⟨⟨hLx, hb_2L⟩, ⟨(ro_o hkx (by decide)), (ro_a hb_2k (by decide) hb_2o hkx rfl)⟩⟩
  obtain ⟨s_4, hs_4⟩ : ∃ z, NVq I J x b_2 = z := ⟨_, rfl⟩
  have ezqx : ∀ I J, NWf R I J x = NWq I J x b_1 := fun I J => by simp only [NWf, rr_, Option.getD_some, hb_1]
  have wzqx : zqw_ L κ ow x b_1 := ⟨⟨hLx, hb_1L⟩, ⟨(ro_o hkx (by decide)), (ro_a hb_1k (by decide) hb_1o hkx rfl)⟩⟩
  obtain ⟨s_5, hs_5⟩ : ∃ z, NWq I J x b_1 = z := ⟨_, rfl⟩
  have euqx : ∀ I J, YTf R I J x = YTq I J x := fun I J => by simp only [YTf, rr_, Option.getD_some]
  have wuqx : uqw_ L κ ow x := ⟨hLx, (ro_o hkx (by decide))⟩
  obtain ⟨s_6, hs_6⟩ : ∃ z, YTq I J x = z := ⟨_, rfl⟩
  obtain ⟨b_7, hb_7, hb_7L, hb_7k, hb_7n, hb_7o⟩ := shp_a (W9 x hLx) hkx 1 14 940 rfl (by decide)
  have emqx : ∀ I J, MTf R I J x = MTq I J x b_7 := fun I J => by simp only [MTf, rr_, Option.getD_some, hb_7]
  have wmqx : mqw_ L κ ow x b_7 := ⟨⟨hLx, hb_7L⟩, ⟨(ro_o hkx (by decide)), (ro_a hb_7k (by decide) hb_7o hkx rfl)⟩⟩
  obtain ⟨s_8, hs_8⟩ : ∃ z, MTq I J x b_7 = z := ⟨_, rfl⟩
  obtain ⟨b_9, hb_9, hb_9L, hb_9k, hb_9n, hb_9o⟩ := shp_a (W9 x hLx) hkx 15 14 72 rfl (by decide)
  obtain ⟨b_10, hb_10, hb_10L, hb_10k, hb_10n, hb_10o⟩ := shp_a (W9 x hLx) hkx 20 15 13 rfl (by decide)
  have enqx : ∀ I J, NRf R I J x = NRq I J x b_9 b_10 := fun I J => by simp only [NRf, rr_, Option.getD_some, hb_9, hb_10]
  have wnqx : nqw_ L κ ow x b_9 b_10 := ⟨⟨hLx, hb_9L, hb_10L⟩, ⟨(ro_o hkx (by decide)), (ro_a hb_9k (by decide) hb_9o hkx rfl), (ro_a hb_10k (by decide) hb_10o hkx rfl)⟩⟩
  obtain ⟨s_11, hs_11⟩ : ∃ z, NRq I J x b_9 b_10 = z := ⟨_, rfl⟩
  refine g_lo (is := [0]) (lo2 := [(0, .ref x)]) rfl ?_
  refine g_aload_n C 0 dX12_readBookLine_0 rfl rfl ?_
  refine g_bipush C (v := 15) dX12_readBookLine_1 (by decide) ?_
  refine g_callVI C K (c_X12_isWord W9 hLx hkx 15 (rg_w rc_15 (by decide) (by decide)) hU) hLx hkx (by decide) rfl v_12_191 rfl ⟨rfl, rfl⟩ ⟨Nat.le_of_ble_eq_true rfl, Nat.le_of_ble_eq_true rfl⟩ (Nat.le_of_ble_eq_true rfl) ⟨Nat.le_of_ble_eq_true rfl, Nat.le_of_ble_eq_true rfl⟩ dX12_readBookLine_3 rfl (st := []) (fun x_12 I_13 J_14 h_15 => ?_)
  obtain ⟨rfl, rfl, rx_12, fx_12⟩ := h_15
  have c_16 : mIsWord (15) (s_8) = x_12 := by have q := fx_12; simp only [emqx, hs_8] at q; exact q.symm
  refine g_istore_n C dX12_readBookLine_6 rfl (by decide) (lo2 := [(1, .int x_12), (0, .ref x)]) rfl ?_
  refine g_iload_n C 0 dX12_readBookLine_7 rfl rfl ?_
  refine g_if_ne C (tgt := 52) dX12_readBookLine_8 (by decide) (fun h_17 => ?_) (fun h_17 => ?_)
  · skip
    have n_18 : ¬ x_12 = 0 := h_17
    have r_19 := ne_lo (lo := 1) n_18 rx_12 rc_0 rfl (by decide)
    refine g_aload_n C 1 dX12_readBookLine_52 rfl rfl ?_
    obtain ⟨x_20, hx_20, rx_20⟩ := ex_getw (I := I) (a := x) (j := 44) (lo := 0) (hi := 40) hU.1 hLx (ro_o hkx (by decide)) rfl
    have f_21 : s_6.blm = x_20 := (congrArg YT_.blm hs_6).symm.trans hx_20
    refine g_getI C K hLx hkx f_12_361 (v := x_20) hx_20 dX12_readBookLine_53 ?_
    refine g_bipush C (v := 40) dX12_readBookLine_56 (by decide) ?_
    refine g_icmp_ne C (tgt := 67) dX12_readBookLine_58 (by decide) (fun h_22 => ?_) (fun h_22 => ?_)
    · skip
      have n_23 : ¬ x_20 = 40 := h_22
      have r_24 := ne_hi (hi := 39) n_23 rx_20 rc_40 rfl (by decide)
      refine g_iconst C (v := 4) dX12_readBookLine_67 (by decide) ?_
      refine g_aload_n C 1 dX12_readBookLine_68 rfl rfl ?_
      refine g_getI C K hLx hkx f_12_361 (v := x_20) hx_20 dX12_readBookLine_69 ?_
      obtain ⟨x_25, hx_25, rx_25, tx_25⟩ := ex_mulT 0 156 rc_4 r_24 (by decide) (by decide) (by decide) (by decide) (by decide)
      refine g_imul C (v := x_25) dX12_readBookLine_72 hx_25 ?_
      refine g_istore_n C dX12_readBookLine_73 rfl (by decide) (lo2 := [(2, .int x_25), (1, .int x_12), (0, .ref x)]) rfl ?_
      refine g_aload_n C 2 dX12_readBookLine_74 rfl rfl ?_
      refine g_getR C K hLx hkx f_12_73 hb_3 dX12_readBookLine_75 ?_
      refine g_iload_n C 0 dX12_readBookLine_78 rfl rfl ?_
      refine g_bipush C (v := 6) dX12_readBookLine_79 (by decide) ?_
      refine h_iast C K hb_3L hb_3k (x_25.toNatClampNeg) (rfl) (ix_0 rx_25 (by decide)) (ix_lt rx_25 (by decide) hb_3n (by decide)) dX12_readBookLine_81 (fun I_26 hI_26 => ?_)
      have hU_27 := iw_rw W9 hU (uw_put hU.1 hI_26 (ro_a hb_3k (by decide) hb_3o hkx rfl) (lo := 0) (hi := 6) (bn_862.trans (rz_0 (ix_m (md_m tx_25) rx_25 (by decide)))) (rg_w rc_6 (by decide) (by decide))) hLx hkx hb_3 hI_26 hx_20 (r_24).1 (by rw [nx_m (k := 4) tx_25 r_24 (by decide)]; omega)
      have hF_28 := fq_puta hF hI_26 (ro_a hb_3k (by decide) hb_3o hkx rfl) (by decide) (by decide)
      have hs_29 : NVq I_26 J x b_2 = s_4 := by rw [hI_26]; exact (vq_oI wvqx (ro_a hb_3k (by decide) hb_3o hkx rfl) (by decide)).trans hs_4
      have hs_30 : NWq I_26 J x b_1 = s_5 := by rw [hI_26]; exact (zq_oI wzqx (ro_a hb_3k (by decide) hb_3o hkx rfl) (by decide)).trans hs_5
      have hs_31 : YTq I_26 J x = s_6 := by rw [hI_26]; exact (uq_oI wuqx (ro_a hb_3k (by decide) hb_3o hkx rfl) (by decide)).trans hs_6
      have hs_32 : MTq I_26 J x b_7 = s_8 := by rw [hI_26]; exact (mq_oI wmqx (ro_a hb_3k (by decide) hb_3o hkx rfl) (by decide)).trans hs_8
      have hs_33 : NRq I_26 J x b_9 b_10 = s_11 := by rw [hI_26]; exact (nq_oI wnqx (ro_a hb_3k (by decide) hb_3o hkx rfl) (by decide)).trans hs_11
      refine g_aload_n C 2 dX12_readBookLine_82 rfl rfl ?_
      refine g_getR C K hLx hkx f_12_73 hb_3 dX12_readBookLine_83 ?_
      refine g_iload_n C 0 dX12_readBookLine_86 rfl rfl ?_
      refine g_iconst C (v := 1) dX12_readBookLine_87 (by decide) ?_
      obtain ⟨x_34, hx_34, rx_34, tx_34⟩ := ex_add 1 157 rx_25 rc_1 (by decide) (by decide) (by decide) (by decide)
      refine g_iadd C (v := x_34) dX12_readBookLine_88 hx_34 ?_
      refine g_iload_n C 1 dX12_readBookLine_89 rfl rfl ?_
      refine g_if_eq C (tgt := 97) dX12_readBookLine_90 (by decide) (fun h_35 => ?_) (fun h_35 => ?_)
      · skip
        exact eq_no (h_35) r_19 rc_0 (by decide)
      · skip
        have n_36 : ¬ x_12 = 0 := h_35
        refine g_iconst C (v := 0) dX12_readBookLine_93 (by decide) ?_
        refine g_goto C (tgt := 115) dX12_readBookLine_94 (by decide) ?_
        refine h_iast C K hb_3L hb_3k (x_34.toNatClampNeg) (rfl) (ix_0 rx_34 (by decide)) (ix_lt rx_34 (by decide) hb_3n (by decide)) dX12_readBookLine_115 (fun I_37 hI_37 => ?_)
        have hU_38 := iw_rw W9 hU_27 (uw_put hU_27.1 hI_37 (ro_a hb_3k (by decide) hb_3o hkx rfl) (lo := 0) (hi := 6) (bn_862.trans (rz_1 (ix_m (md_a (r2 := 1) tx_34 (md_m tx_25) rc_1 (by decide)) rx_34 (by decide)))) (rg_w rc_0 (by decide) (by decide))) hLx hkx hb_3 hI_37 (kp_k (κ := κ) hI_26 (by rw [hkx, hb_3k]; decide) hx_20) (r_24).1 (by rw [nx_a tx_34 rx_25 rc_1 (by decide), nx_m (k := 4) tx_25 r_24 (by decide)]; simp only [show (1 : Int32).toNatClampNeg = 1 from rfl] <;> omega)
        have hF_39 := fq_puta hF_28 hI_37 (ro_a hb_3k (by decide) hb_3o hkx rfl) (by decide) (by decide)
        have hs_40 : NVq I_37 J x b_2 = s_4 := by rw [hI_37]; exact (vq_oI wvqx (ro_a hb_3k (by decide) hb_3o hkx rfl) (by decide)).trans hs_29
        have hs_41 : NWq I_37 J x b_1 = s_5 := by rw [hI_37]; exact (zq_oI wzqx (ro_a hb_3k (by decide) hb_3o hkx rfl) (by decide)).trans hs_30
        have hs_42 : YTq I_37 J x = s_6 := by rw [hI_37]; exact (uq_oI wuqx (ro_a hb_3k (by decide) hb_3o hkx rfl) (by decide)).trans hs_31
        have hs_43 : MTq I_37 J x b_7 = s_8 := by rw [hI_37]; exact (mq_oI wmqx (ro_a hb_3k (by decide) hb_3o hkx rfl) (by decide)).trans hs_32
        have hs_44 : NRq I_37 J x b_9 b_10 = s_11 := by rw [hI_37]; exact (nq_oI wnqx (ro_a hb_3k (by decide) hb_3o hkx rfl) (by decide)).trans hs_33
        refine g_aload_n C 2 dX12_readBookLine_116 rfl rfl ?_
        refine g_getR C K hLx hkx f_12_73 hb_3 dX12_readBookLine_117 ?_
        refine g_iload_n C 0 dX12_readBookLine_120 rfl rfl ?_
        refine g_iconst C (v := 2) dX12_readBookLine_121 (by decide) ?_
        obtain ⟨x_45, hx_45, rx_45, tx_45⟩ := ex_add 2 158 rx_25 rc_2 (by decide) (by decide) (by decide) (by decide)
        refine g_iadd C (v := x_45) dX12_readBookLine_122 hx_45 ?_
        refine g_iconst C (v := 0) dX12_readBookLine_123 (by decide) ?_
        refine h_iast C K hb_3L hb_3k (x_45.toNatClampNeg) (rfl) (ix_0 rx_45 (by decide)) (ix_lt rx_45 (by decide) hb_3n (by decide)) dX12_readBookLine_124 (fun I_46 hI_46 => ?_)
        have hU_47 := iw_rw W9 hU_38 (uw_put hU_38.1 hI_46 (ro_a hb_3k (by decide) hb_3o hkx rfl) (lo := (-1)) (hi := 5) (bn_862.trans (rz_2 (ix_m (md_a (r2 := 2) tx_45 (md_m tx_25) rc_2 (by decide)) rx_45 (by decide)))) (rg_w rc_0 (by decide) (by decide))) hLx hkx hb_3 hI_46 (kp_k (κ := κ) hI_37 (by rw [hkx, hb_3k]; decide) (kp_k (κ := κ) hI_26 (by rw [hkx, hb_3k]; decide) hx_20)) (r_24).1 (by rw [nx_a tx_45 rx_25 rc_2 (by decide), nx_m (k := 4) tx_25 r_24 (by decide)]; simp only [show (2 : Int32).toNatClampNeg = 2 from rfl] <;> omega)
        have hF_48 := fq_puta hF_39 hI_46 (ro_a hb_3k (by decide) hb_3o hkx rfl) (by decide) (by decide)
        have hs_49 : NVq I_46 J x b_2 = s_4 := by rw [hI_46]; exact (vq_oI wvqx (ro_a hb_3k (by decide) hb_3o hkx rfl) (by decide)).trans hs_40
        have hs_50 : NWq I_46 J x b_1 = s_5 := by rw [hI_46]; exact (zq_oI wzqx (ro_a hb_3k (by decide) hb_3o hkx rfl) (by decide)).trans hs_41
        have hs_51 : YTq I_46 J x = s_6 := by rw [hI_46]; exact (uq_oI wuqx (ro_a hb_3k (by decide) hb_3o hkx rfl) (by decide)).trans hs_42
        have hs_52 : MTq I_46 J x b_7 = s_8 := by rw [hI_46]; exact (mq_oI wmqx (ro_a hb_3k (by decide) hb_3o hkx rfl) (by decide)).trans hs_43
        have hs_53 : NRq I_46 J x b_9 b_10 = s_11 := by rw [hI_46]; exact (nq_oI wnqx (ro_a hb_3k (by decide) hb_3o hkx rfl) (by decide)).trans hs_44
        refine g_aload_n C 2 dX12_readBookLine_125 rfl rfl ?_
        refine g_callVV C K (c_X12_go W9 hLx hkx   hU_47) hLx hkx (by decide) rfl v_12_156 rfl ⟨rfl, rfl⟩ ⟨Nat.le_of_ble_eq_true rfl, Nat.le_of_ble_eq_true rfl⟩ (Nat.le_of_ble_eq_true rfl) ⟨Nat.le_of_ble_eq_true rfl, Nat.le_of_ble_eq_true rfl⟩ dX12_readBookLine_126 rfl (st := []) (fun I_55 J_56 h_57 => ?_)
        obtain ⟨hUI_55, hFI_55, hGJ_56, fx_54, ex_54⟩ := h_57
        have hF_58 := fq_tr hF_48 hFI_55 (by decide)
        have hG_59 := fq_tr hG hGJ_56 (by decide)
        obtain ⟨s_61, hs_61⟩ : ∃ z, MTq I_55 J_56 x b_7 = z := ⟨_, rfl⟩
        have c_60 : mGo (s_8) = s_61 := by have q := fx_54; simp only [emqx, hs_52, hs_61] at q; exact q.symm
        have hs_62 : NVq I_55 J_56 x b_2 = s_4 := (vq_fq wvqx hFI_55 hGJ_56 (by decide) (by decide)).trans hs_49
        have hs_63 : NWq I_55 J_56 x b_1 = s_5 := (zq_fq wzqx hFI_55 hGJ_56 (by decide) (by decide)).trans hs_50
        have hs_64 : YTq I_55 J_56 x = s_6 := (uq_fq wuqx hFI_55 hGJ_56 (by decide) (by decide)).trans hs_51
        have hs_65 : NRq I_55 J_56 x b_9 b_10 = s_11 := (nq_fq wnqx hFI_55 hGJ_56 (by decide) (by decide)).trans hs_53
        refine g_iload_n C 1 dX12_readBookLine_129 rfl rfl ?_
        refine g_if_ne C (tgt := 154) dX12_readBookLine_130 (by decide) (fun h_66 => ?_) (fun h_66 => ?_)
        · skip
          have n_67 : ¬ x_12 = 0 := h_66
          refine g_aload_n C 2 dX12_readBookLine_154 rfl rfl ?_
          refine g_iconst C (v := 1) dX12_readBookLine_155 (by decide) ?_
          refine g_bipush C (v := 60) dX12_readBookLine_156 (by decide) ?_
          obtain ⟨x_68, hx_68, rx_68⟩ := ex_getw (I := I_55) (a := x) (j := 13) (lo := (-2147483648)) (hi := 2147483647) hUI_55.1 hLx (ro_o hkx (by decide)) rfl
          have f_69 : s_11.told = x_68 := (congrArg NR_.told hs_65).symm.trans hx_68
          refine g_callVI C K (c_X12_readNumber_1_60 W9 hLx hkx   hUI_55) hLx hkx (by decide) rfl v_12_184 rfl ⟨rfl, rfl⟩ ⟨Nat.le_of_ble_eq_true rfl, Nat.le_of_ble_eq_true rfl⟩ (Nat.le_of_ble_eq_true rfl) ⟨Nat.le_of_ble_eq_true rfl, Nat.le_of_ble_eq_true rfl⟩ dX12_readBookLine_158 rfl (st := []) (fun x_70 I_71 J_72 h_73 => ?_)
          obtain ⟨hUI_71, hFI_71, hGJ_72, rx_70, fx_70, ex_70⟩ := h_73
          have hF_74 := fq_tr hF_58 hFI_71 (by decide)
          have hG_75 := fq_tr hG_59 hGJ_72 (by decide)
          obtain ⟨s_77, hs_77⟩ : ∃ z, MTq I_71 J_72 x b_7 = z := ⟨_, rfl⟩
          obtain ⟨s_78, hs_78⟩ : ∃ z, NRq I_71 J_72 x b_9 b_10 = z := ⟨_, rfl⟩
          have c_76 : mReadNumber (1) (60) (s_61) (s_11) = (x_70, s_77, s_78) := by have q := fx_70; simp only [emqx, enqx, hs_61, hs_65, hs_77, hs_78] at q; exact q.symm
          have hs_79 : NVq I_71 J_72 x b_2 = s_4 := (vq_fq wvqx hFI_71 hGJ_72 (by decide) (by decide)).trans hs_62
          have hs_80 : NWq I_71 J_72 x b_1 = s_5 := (zq_fq wzqx hFI_71 hGJ_72 (by decide) (by decide)).trans hs_63
          have hs_81 : YTq I_71 J_72 x = s_6 := (uq_fq wuqx hFI_71 hGJ_72 (by decide) (by decide)).trans hs_64
          obtain ⟨x_82, hx_82, rx_82⟩ := ex_getw (I := I_71) (a := x) (j := 13) (lo := (-2147483648)) (hi := 2147483647) hUI_71.1 hLx (ro_o hkx (by decide)) rfl
          have f_83 : s_78.told = x_82 := (congrArg NR_.told hs_78).symm.trans hx_82
          have q_84 := hx_82
          refine g_if_ne C (tgt := 166) dX12_readBookLine_161 (by decide) (fun h_85 => ?_) (fun h_85 => ?_)
          · skip
            have n_86 : ¬ x_70 = 0 := h_85
            have r_87 := ne_lo (lo := 1) n_86 rx_70 rc_0 rfl (by decide)
            have r_88 := rg_i rx_82 (eq_rg q_84.symm ((ex_70.2) n_86)) (lo := 1) (hi := 60) (by decide) (by decide)
            refine g_aload_n C 2 dX12_readBookLine_166 rfl rfl ?_
            refine g_getR C K hLx hkx f_12_73 hb_3 dX12_readBookLine_167 ?_
            refine g_iload_n C 0 dX12_readBookLine_170 rfl rfl ?_
            refine g_iconst C (v := 3) dX12_readBookLine_171 (by decide) ?_
            obtain ⟨x_89, hx_89, rx_89, tx_89⟩ := ex_add 3 159 rx_25 rc_3 (by decide) (by decide) (by decide) (by decide)
            refine g_iadd C (v := x_89) dX12_readBookLine_172 hx_89 ?_
            refine g_aload_n C 2 dX12_readBookLine_173 rfl rfl ?_
            refine g_getI C K hLx hkx f_12_153 (v := x_82) hx_82 dX12_readBookLine_174 ?_
            refine h_iast C K hb_3L hb_3k (x_89.toNatClampNeg) (rfl) (ix_0 rx_89 (by decide)) (ix_lt rx_89 (by decide) hb_3n (by decide)) dX12_readBookLine_177 (fun I_90 hI_90 => ?_)
            have q_91 := (fq_at hFI_71 hLx hkx (by decide) (by decide) (fq_at hFI_55 hLx hkx (by decide) (by decide) (kp_k (κ := κ) hI_46 (by rw [hkx, hb_3k]; decide) (kp_k (κ := κ) hI_37 (by rw [hkx, hb_3k]; decide) (kp_k (κ := κ) hI_26 (by rw [hkx, hb_3k]; decide) hx_20)))))
            have hU_92 := iw_rw W9 hUI_71 (uw_put hUI_71.1 hI_90 (ro_a hb_3k (by decide) hb_3o hkx rfl) (lo := 0) (hi := 60) (bn_862.trans (rz_3 (ix_m (md_a (r2 := 3) tx_89 (md_m tx_25) rc_3 (by decide)) rx_89 (by decide)))) (rg_w r_88 (by decide) (by decide))) hLx hkx hb_3 hI_90 q_91 (r_24).1 (by rw [nx_a tx_89 rx_25 rc_3 (by decide), nx_m (k := 4) tx_25 r_24 (by decide)]; simp only [show (3 : Int32).toNatClampNeg = 3 from rfl] <;> omega)
            have hF_93 := fq_puta hF_74 hI_90 (ro_a hb_3k (by decide) hb_3o hkx rfl) (by decide) (by decide)
            have hs_94 : NVq I_90 J_72 x b_2 = s_4 := by rw [hI_90]; exact (vq_oI wvqx (ro_a hb_3k (by decide) hb_3o hkx rfl) (by decide)).trans hs_79
            have hs_95 : NWq I_90 J_72 x b_1 = s_5 := by rw [hI_90]; exact (zq_oI wzqx (ro_a hb_3k (by decide) hb_3o hkx rfl) (by decide)).trans hs_80
            have hs_96 : YTq I_90 J_72 x = s_6 := by rw [hI_90]; exact (uq_oI wuqx (ro_a hb_3k (by decide) hb_3o hkx rfl) (by decide)).trans hs_81
            have hs_97 : MTq I_90 J_72 x b_7 = s_77 := by rw [hI_90]; exact (mq_oI wmqx (ro_a hb_3k (by decide) hb_3o hkx rfl) (by decide)).trans hs_77
            have hs_98 : NRq I_90 J_72 x b_9 b_10 = s_78 := by rw [hI_90]; exact (nq_oI wnqx (ro_a hb_3k (by decide) hb_3o hkx rfl) (by decide)).trans hs_78
            refine g_aload_n C 2 dX12_readBookLine_178 rfl rfl ?_
            refine g_callVI C K (c_X12_readEnd W9 hLx hkx   hU_92) hLx hkx (by decide) rfl v_12_222 rfl ⟨rfl, rfl⟩ ⟨Nat.le_of_ble_eq_true rfl, Nat.le_of_ble_eq_true rfl⟩ (Nat.le_of_ble_eq_true rfl) ⟨Nat.le_of_ble_eq_true rfl, Nat.le_of_ble_eq_true rfl⟩ dX12_readBookLine_179 rfl (st := []) (fun x_99 I_100 J_101 h_102 => ?_)
            obtain ⟨hUI_100, hFI_100, hGJ_101, rx_99, fx_99, ex_99⟩ := h_102
            have hF_103 := fq_tr hF_93 hFI_100 (by decide)
            have hG_104 := fq_tr hG_75 hGJ_101 (by decide)
            obtain ⟨s_106, hs_106⟩ : ∃ z, MTq I_100 J_101 x b_7 = z := ⟨_, rfl⟩
            obtain ⟨s_107, hs_107⟩ : ∃ z, NRq I_100 J_101 x b_9 b_10 = z := ⟨_, rfl⟩
            have c_105 : mReadEnd (s_77) (s_78) = (x_99, s_106, s_107) := by have q := fx_99; simp only [emqx, enqx, hs_97, hs_98, hs_106, hs_107] at q; exact q.symm
            have hs_108 : NVq I_100 J_101 x b_2 = s_4 := (vq_fq wvqx hFI_100 hGJ_101 (by decide) (by decide)).trans hs_94
            have hs_109 : NWq I_100 J_101 x b_1 = s_5 := (zq_fq wzqx hFI_100 hGJ_101 (by decide) (by decide)).trans hs_95
            have hs_110 : YTq I_100 J_101 x = s_6 := (uq_fq wuqx hFI_100 hGJ_101 (by decide) (by decide)).trans hs_96
            exact g_zret (ty := .boolean) (r := x_99) B K rfl (nar_z (rx_99)) ⟨hUI_100, hF_103, hG_104, rx_99, (by simp only [mBkLine, mBk3, mBk4, mBk5, evqx, hs_108, hs_4, ezqx, hs_109, hs_5, euqx, hs_110, hs_6, emqx, hs_106, hs_8, enqx, hs_107, hs_11, c_16, h_17, hx_20, f_21, h_22, hx_25, hx_34, h_35, hx_45, c_60, h_66, hx_68, f_69, c_76, hx_82, f_83, h_85, hx_89, c_105, if_true, if_false, mqM_tp, mqM_size, mqM_limit, mqM_to, mqM_frm, mqM_kind, mqM_number, mqM_sign, mqM_word, MT_.w_tp, MT_.w_size, MT_.w_limit, MT_.w_to, MT_.w_frm, MT_.w_kind, MT_.w_number, MT_.w_sign, MT_.w_word, nqM_rd, nqM_rn, nqM_taped, nqM_mfault, nqM_mplace, nqM_told, nqM_hl, nqM_hd, NR_.w_rd, NR_.w_rn, NR_.w_taped, NR_.w_mfault, NR_.w_mplace, NR_.w_told, NR_.w_hl, NR_.w_hd, vqM_nv, NV_.w_nv, zqM_nw, NW_.w_nw, uqM_blm, YT_.w_blm]), (fun _ rw hr => by rw [hb_3] at hr; cases hr; rw [(fq_at hFI_100 hLx hkx (by decide) (by decide) (kp_k (κ := κ) hI_90 (by rw [hkx, hb_3k]; decide) q_91)), show 4 * x_20.toNatClampNeg + 2 = x_45.toNatClampNeg from ((show x_45.toNatClampNeg = 4 * x_20.toNatClampNeg + 2 from by rw [nx_a tx_45 rx_25 rc_2 (by decide), nx_m (k := 4) tx_25 r_24 (by decide)]; simp only [show (2 : Int32).toNatClampNeg = 2 from rfl] <;> omega)).symm, (fq_ar hFI_100 hb_3L (ro_a hb_3k (by decide) hb_3o hkx rfl) (by decide) (by decide) (kp_j hI_90 (show x_45.toNatClampNeg ≠ x_89.toNatClampNeg from by rw [nx_a tx_89 rx_25 rc_3 (by decide), nx_a tx_45 rx_25 rc_2 (by decide), nx_m (k := 4) tx_25 r_24 (by decide)]; simp only [show (2 : Int32).toNatClampNeg = 2 from rfl, show (3 : Int32).toNatClampNeg = 3 from rfl] <;> omega) (fq_ar hFI_71 hb_3L (ro_a hb_3k (by decide) hb_3o hkx rfl) (by decide) (by decide) (fq_ar hFI_55 hb_3L (ro_a hb_3k (by decide) hb_3o hkx rfl) (by decide) (by decide) (kp_s hI_46)))))]; exact (rc_0).1), (fun hq => by have n_111 : ¬ x_99 = 0 := hq; have r_112 := ne_lo (lo := 1) n_111 rx_99 rc_0 rfl (by decide); exact eq_rg (fq_at hFI_100 hLx hkx (by decide) (by decide) (kp_k (κ := κ) hI_90 (by rw [hkx, hb_3k]; decide) q_91)) (r_24))⟩ dX12_readBookLine_182
          · skip
            have r_113 := (⟨(rx_70).1, (eq_rg (h_85) rc_0).2⟩ : Rg 0 0 x_70)
            refine g_iconst C (v := 0) dX12_readBookLine_164 (by decide) ?_
            exact g_zret (ty := .boolean) (r := 0) B K rfl (rfl) ⟨hUI_71, hF_74, hG_75, rg_w rc_0 (by decide) (by decide), (by simp only [mBkLine, mBk3, mBk4, mBk5, evqx, hs_79, hs_4, ezqx, hs_80, hs_5, euqx, hs_81, hs_6, emqx, hs_77, hs_8, enqx, hs_78, hs_11, c_16, h_17, hx_20, f_21, h_22, hx_25, hx_34, h_35, hx_45, c_60, h_66, hx_68, f_69, c_76, hx_82, f_83, (eq_true h_85), if_true, if_false, mqM_tp, mqM_size, mqM_limit, mqM_to, mqM_frm, mqM_kind, mqM_number, mqM_sign, mqM_word, MT_.w_tp, MT_.w_size, MT_.w_limit, MT_.w_to, MT_.w_frm, MT_.w_kind, MT_.w_number, MT_.w_sign, MT_.w_word, nqM_rd, nqM_rn, nqM_taped, nqM_mfault, nqM_mplace, nqM_told, nqM_hl, nqM_hd, NR_.w_rd, NR_.w_rn, NR_.w_taped, NR_.w_mfault, NR_.w_mplace, NR_.w_told, NR_.w_hl, NR_.w_hd, vqM_nv, NV_.w_nv, zqM_nw, NW_.w_nw, uqM_blm, YT_.w_blm]), (fun q => absurd rfl q), (fun q => absurd rfl q)⟩ dX12_readBookLine_165
        · skip
          exact eq_no (h_66) r_19 rc_0 (by decide)
    · skip
      have r_114 := (⟨(eq_rg (h_22) rc_40).1, (rx_20).2⟩ : Rg 40 40 x_20)
      refine g_aload_n C 1 dX12_readBookLine_61 rfl rfl ?_
      refine g_iconst C (v := 4) dX12_readBookLine_62 (by decide) ?_
      refine g_callVI C K (c_X12_bad W9 hLx hkx 4 (rg_w rc_4 (by decide) (by decide)) hU) hLx hkx (by decide) rfl v_12_146 rfl ⟨rfl, rfl⟩ ⟨Nat.le_of_ble_eq_true rfl, Nat.le_of_ble_eq_true rfl⟩ (Nat.le_of_ble_eq_true rfl) ⟨Nat.le_of_ble_eq_true rfl, Nat.le_of_ble_eq_true rfl⟩ dX12_readBookLine_63 rfl (st := []) (fun x_115 I_116 J_117 h_118 => ?_)
      obtain ⟨hUI_116, hFI_116, hGJ_117, rx_115, fx_115⟩ := h_118
      have hF_119 := fq_tr hF hFI_116 (by decide)
      have hG_120 := fq_tr hG hGJ_117 (by decide)
      obtain ⟨s_122, hs_122⟩ : ∃ z, MTq I_116 J_117 x b_7 = z := ⟨_, rfl⟩
      obtain ⟨s_123, hs_123⟩ : ∃ z, NRq I_116 J_117 x b_9 b_10 = z := ⟨_, rfl⟩
      have c_121 : mBad (4) (s_8) (s_11) = (x_115, s_122, s_123) := by have q := fx_115; simp only [emqx, enqx, hs_8, hs_11, hs_122, hs_123] at q; exact q.symm
      have hs_124 : NVq I_116 J_117 x b_2 = s_4 := (vq_fq wvqx hFI_116 hGJ_117 (by decide) (by decide)).trans hs_4
      have hs_125 : NWq I_116 J_117 x b_1 = s_5 := (zq_fq wzqx hFI_116 hGJ_117 (by decide) (by decide)).trans hs_5
      have hs_126 : YTq I_116 J_117 x = s_6 := (uq_fq wuqx hFI_116 hGJ_117 (by decide) (by decide)).trans hs_6
      exact g_zret (ty := .boolean) (r := x_115) B K rfl (nar_z (rg_w rx_115 (by decide) (by decide))) ⟨hUI_116, hF_119, hG_120, rg_w rx_115 (by decide) (by decide), (by simp only [mBkLine, mBk3, mBk4, mBk5, evqx, hs_124, hs_4, ezqx, hs_125, hs_5, euqx, hs_126, hs_6, emqx, hs_122, hs_8, enqx, hs_123, hs_11, c_16, h_17, hx_20, f_21, (eq_true h_22), c_121, if_true, if_false, mqM_tp, mqM_size, mqM_limit, mqM_to, mqM_frm, mqM_kind, mqM_number, mqM_sign, mqM_word, MT_.w_tp, MT_.w_size, MT_.w_limit, MT_.w_to, MT_.w_frm, MT_.w_kind, MT_.w_number, MT_.w_sign, MT_.w_word, nqM_rd, nqM_rn, nqM_taped, nqM_mfault, nqM_mplace, nqM_told, nqM_hl, nqM_hd, NR_.w_rd, NR_.w_rn, NR_.w_taped, NR_.w_mfault, NR_.w_mplace, NR_.w_told, NR_.w_hl, NR_.w_hd, vqM_nv, NV_.w_nv, zqM_nw, NW_.w_nw, uqM_blm, YT_.w_blm]), (fun q => ne_no q rx_115 rc_0), (fun q => ne_no q rx_115 rc_0)⟩ dX12_readBookLine_66
  · skip
    have r_127 := (⟨(rx_12).1, (eq_rg (h_17) rc_0).2⟩ : Rg 0 0 x_12)
    refine g_aload_n C 1 dX12_readBookLine_11 rfl rfl ?_
    refine g_callVI C K (c_X12_isName W9 hLx hkx   hU) hLx hkx (by decide) rfl v_12_166 rfl ⟨rfl, rfl⟩ ⟨Nat.le_of_ble_eq_true rfl, Nat.le_of_ble_eq_true rfl⟩ (Nat.le_of_ble_eq_true rfl) ⟨Nat.le_of_ble_eq_true rfl, Nat.le_of_ble_eq_true rfl⟩ dX12_readBookLine_12 rfl (st := []) (fun x_128 I_129 J_130 h_131 => ?_)
    obtain ⟨rfl, rfl, rx_128, fx_128⟩ := h_131
    have c_132 : mIsName (s_8) = x_128 := by have q := fx_128; simp only [emqx, hs_8] at q; exact q.symm
    refine g_if_ne C (tgt := 24) dX12_readBookLine_15 (by decide) (fun h_133 => ?_) (fun h_133 => ?_)
    · skip
      have n_134 : ¬ x_128 = 0 := h_133
      have r_135 := ne_lo (lo := 1) n_134 rx_128 rc_0 rfl (by decide)
      refine g_aload_n C 1 dX12_readBookLine_24 rfl rfl ?_
      refine g_getR C K hLx hkx f_12_28 hb_2 dX12_readBookLine_25 ?_
      refine g_iconst C (v := 0) dX12_readBookLine_28 (by decide) ?_
      refine g_aload_n C 1 dX12_readBookLine_29 rfl rfl ?_
      refine g_getR C K hLx hkx f_12_13 hb_1 dX12_readBookLine_30 ?_
      refine g_iconst C (v := 0) dX12_readBookLine_33 (by decide) ?_
      obtain ⟨x_136, hx_136, rx_136⟩ := ex_getw (I := I) (a := b_1) (j := 0) (lo := 0) (hi := 7) hU.1 hb_1L (ro_a hb_1k (by decide) hb_1o hkx rfl) (by decide)
      refine h_iald C K hb_1L hb_1k (v := x_136) (0) (by decide) (by decide) (by rw [hb_1n]; decide) hx_136 dX12_readBookLine_34 ?_
      have f_137 : s_5.nw (0) = x_136 := (congrFun (congrArg NW_.nw hs_5) _).symm.trans hx_136
      refine g_aload_n C 1 dX12_readBookLine_35 rfl rfl ?_
      obtain ⟨y_138, hy_138⟩ : ∃ z, J x 12 = z := ⟨_, rfl⟩
      have f_139 : s_8.word = y_138 := (congrArg MT_.word hs_8).symm.trans hy_138
      refine g_getJ C K hLx hkx f_12_117 (v := y_138) hy_138 dX12_readBookLine_36 ?_
      refine g_callSI C K (c_X12_findIn_0 W9 hb_2L hb_2k hb_2n x_136 y_138 (rx_136) hU) s_12_170 rfl ⟨rfl, rfl⟩ ⟨Nat.le_of_ble_eq_true rfl, Nat.le_of_ble_eq_true rfl⟩ (Nat.le_of_ble_eq_true rfl) ⟨Nat.le_of_ble_eq_true rfl, Nat.le_of_ble_eq_true rfl⟩ dX12_readBookLine_39 rfl (st := []) (fun x_140 I_141 J_142 h_143 => ?_)
      obtain ⟨rfl, rfl, rx_140, fx_140, ex_140⟩ := h_143
      have c_144 : mfnd s_4.nv 0 (x_136) y_138 0 = x_140 := by have q := fx_140; rw [show J b_2 = s_4.nv from congrArg NV_.nv hs_4] at q; exact q.symm
      refine g_iconst C (v := (-1)) dX12_readBookLine_42 (by decide) ?_
      refine g_icmp_ne C (tgt := 52) dX12_readBookLine_43 (by decide) (fun h_145 => ?_) (fun h_145 => ?_)
      · skip
        have n_146 : ¬ x_140 = (-1) := h_145
        have r_147 := ne_lo (lo := 0) n_146 rx_140 rc_m1 rfl (by decide)
        refine g_aload_n C 1 dX12_readBookLine_52 rfl rfl ?_
        obtain ⟨x_148, hx_148, rx_148⟩ := ex_getw (I := I) (a := x) (j := 44) (lo := 0) (hi := 40) hU.1 hLx (ro_o hkx (by decide)) rfl
        have f_149 : s_6.blm = x_148 := (congrArg YT_.blm hs_6).symm.trans hx_148
        refine g_getI C K hLx hkx f_12_361 (v := x_148) hx_148 dX12_readBookLine_53 ?_
        refine g_bipush C (v := 40) dX12_readBookLine_56 (by decide) ?_
        refine g_icmp_ne C (tgt := 67) dX12_readBookLine_58 (by decide) (fun h_150 => ?_) (fun h_150 => ?_)
        · skip
          have n_151 : ¬ x_148 = 40 := h_150
          have r_152 := ne_hi (hi := 39) n_151 rx_148 rc_40 rfl (by decide)
          refine g_iconst C (v := 4) dX12_readBookLine_67 (by decide) ?_
          refine g_aload_n C 1 dX12_readBookLine_68 rfl rfl ?_
          refine g_getI C K hLx hkx f_12_361 (v := x_148) hx_148 dX12_readBookLine_69 ?_
          obtain ⟨x_153, hx_153, rx_153, tx_153⟩ := ex_mulT 0 156 rc_4 r_152 (by decide) (by decide) (by decide) (by decide) (by decide)
          refine g_imul C (v := x_153) dX12_readBookLine_72 hx_153 ?_
          refine g_istore_n C dX12_readBookLine_73 rfl (by decide) (lo2 := [(2, .int x_153), (1, .int x_12), (0, .ref x)]) rfl ?_
          refine g_aload_n C 2 dX12_readBookLine_74 rfl rfl ?_
          refine g_getR C K hLx hkx f_12_73 hb_3 dX12_readBookLine_75 ?_
          refine g_iload_n C 0 dX12_readBookLine_78 rfl rfl ?_
          refine g_bipush C (v := 6) dX12_readBookLine_79 (by decide) ?_
          refine h_iast C K hb_3L hb_3k (x_153.toNatClampNeg) (rfl) (ix_0 rx_153 (by decide)) (ix_lt rx_153 (by decide) hb_3n (by decide)) dX12_readBookLine_81 (fun I_154 hI_154 => ?_)
          have hU_155 := iw_rw W9 hU (uw_put hU.1 hI_154 (ro_a hb_3k (by decide) hb_3o hkx rfl) (lo := 0) (hi := 6) (bn_862.trans (rz_0 (ix_m (md_m tx_153) rx_153 (by decide)))) (rg_w rc_6 (by decide) (by decide))) hLx hkx hb_3 hI_154 hx_148 (r_152).1 (by rw [nx_m (k := 4) tx_153 r_152 (by decide)]; omega)
          have hF_156 := fq_puta hF hI_154 (ro_a hb_3k (by decide) hb_3o hkx rfl) (by decide) (by decide)
          have hs_157 : NVq I_154 J x b_2 = s_4 := by rw [hI_154]; exact (vq_oI wvqx (ro_a hb_3k (by decide) hb_3o hkx rfl) (by decide)).trans hs_4
          have hs_158 : NWq I_154 J x b_1 = s_5 := by rw [hI_154]; exact (zq_oI wzqx (ro_a hb_3k (by decide) hb_3o hkx rfl) (by decide)).trans hs_5
          have hs_159 : YTq I_154 J x = s_6 := by rw [hI_154]; exact (uq_oI wuqx (ro_a hb_3k (by decide) hb_3o hkx rfl) (by decide)).trans hs_6
          have hs_160 : MTq I_154 J x b_7 = s_8 := by rw [hI_154]; exact (mq_oI wmqx (ro_a hb_3k (by decide) hb_3o hkx rfl) (by decide)).trans hs_8
          have hs_161 : NRq I_154 J x b_9 b_10 = s_11 := by rw [hI_154]; exact (nq_oI wnqx (ro_a hb_3k (by decide) hb_3o hkx rfl) (by decide)).trans hs_11
          refine g_aload_n C 2 dX12_readBookLine_82 rfl rfl ?_
          refine g_getR C K hLx hkx f_12_73 hb_3 dX12_readBookLine_83 ?_
          refine g_iload_n C 0 dX12_readBookLine_86 rfl rfl ?_
          refine g_iconst C (v := 1) dX12_readBookLine_87 (by decide) ?_
          obtain ⟨x_162, hx_162, rx_162, tx_162⟩ := ex_add 1 157 rx_153 rc_1 (by decide) (by decide) (by decide) (by decide)
          refine g_iadd C (v := x_162) dX12_readBookLine_88 hx_162 ?_
          refine g_iload_n C 1 dX12_readBookLine_89 rfl rfl ?_
          refine g_if_eq C (tgt := 97) dX12_readBookLine_90 (by decide) (fun h_163 => ?_) (fun h_163 => ?_)
          · skip
            refine g_aload_n C 2 dX12_readBookLine_97 rfl rfl ?_
            refine g_getR C K hLx hkx f_12_28 hb_2 dX12_readBookLine_98 ?_
            refine g_iconst C (v := 0) dX12_readBookLine_101 (by decide) ?_
            refine g_aload_n C 2 dX12_readBookLine_102 rfl rfl ?_
            refine g_getR C K hLx hkx f_12_13 hb_1 dX12_readBookLine_103 ?_
            refine g_iconst C (v := 0) dX12_readBookLine_106 (by decide) ?_
            refine h_iald C K hb_1L hb_1k (v := x_136) (0) (by decide) (by decide) (by rw [hb_1n]; decide) (kp_r hI_154 (ro_a hb_1k (by decide) hb_1o hkx rfl) (ro_a hb_3k (by decide) hb_3o hkx rfl) (by decide) hx_136) dX12_readBookLine_107 ?_
            refine g_aload_n C 2 dX12_readBookLine_108 rfl rfl ?_
            refine g_getJ C K hLx hkx f_12_117 (v := y_138) hy_138 dX12_readBookLine_109 ?_
            refine g_callSI C K (c_X12_findIn_0 W9 hb_2L hb_2k hb_2n x_136 y_138 (rx_136) hU_155) s_12_170 rfl ⟨rfl, rfl⟩ ⟨Nat.le_of_ble_eq_true rfl, Nat.le_of_ble_eq_true rfl⟩ (Nat.le_of_ble_eq_true rfl) ⟨Nat.le_of_ble_eq_true rfl, Nat.le_of_ble_eq_true rfl⟩ dX12_readBookLine_112 rfl (st := [.int x_162, .ref b_3]) (fun x_165 I_166 J_167 h_168 => ?_)
            obtain ⟨rfl, rfl, rx_165, fx_165, ex_165⟩ := h_168
            have c_169 : mfnd s_4.nv 0 (x_136) y_138 0 = x_165 := by have q := fx_165; rw [show J b_2 = s_4.nv from congrArg NV_.nv hs_157] at q; exact q.symm
            have n_170 : ¬ x_165 = (-1) := (fun q => by obtain ⟨k, h1, h2⟩ := ex_140.2 n_146; exact ex_165.1 q k h1 h2)
            have r_171 := ne_lo (lo := 0) n_170 rx_165 rc_m1 rfl (by decide)
            refine h_iast C K hb_3L hb_3k (x_162.toNatClampNeg) (rfl) (ix_0 rx_162 (by decide)) (ix_lt rx_162 (by decide) hb_3n (by decide)) dX12_readBookLine_115 (fun I_172 hI_172 => ?_)
            have hU_173 := iw_rw W9 hU_155 (uw_put hU_155.1 hI_172 (ro_a hb_3k (by decide) hb_3o hkx rfl) (lo := 0) (hi := 6) (bn_862.trans (rz_1 (ix_m (md_a (r2 := 1) tx_162 (md_m tx_153) rc_1 (by decide)) rx_162 (by decide)))) (r_171)) hLx hkx hb_3 hI_172 (kp_k (κ := κ) hI_154 (by rw [hkx, hb_3k]; decide) hx_148) (r_152).1 (by rw [nx_a tx_162 rx_153 rc_1 (by decide), nx_m (k := 4) tx_153 r_152 (by decide)]; simp only [show (1 : Int32).toNatClampNeg = 1 from rfl] <;> omega)
            have hF_174 := fq_puta hF_156 hI_172 (ro_a hb_3k (by decide) hb_3o hkx rfl) (by decide) (by decide)
            have hs_175 : NVq I_172 J x b_2 = s_4 := by rw [hI_172]; exact (vq_oI wvqx (ro_a hb_3k (by decide) hb_3o hkx rfl) (by decide)).trans hs_157
            have hs_176 : NWq I_172 J x b_1 = s_5 := by rw [hI_172]; exact (zq_oI wzqx (ro_a hb_3k (by decide) hb_3o hkx rfl) (by decide)).trans hs_158
            have hs_177 : YTq I_172 J x = s_6 := by rw [hI_172]; exact (uq_oI wuqx (ro_a hb_3k (by decide) hb_3o hkx rfl) (by decide)).trans hs_159
            have hs_178 : MTq I_172 J x b_7 = s_8 := by rw [hI_172]; exact (mq_oI wmqx (ro_a hb_3k (by decide) hb_3o hkx rfl) (by decide)).trans hs_160
            have hs_179 : NRq I_172 J x b_9 b_10 = s_11 := by rw [hI_172]; exact (nq_oI wnqx (ro_a hb_3k (by decide) hb_3o hkx rfl) (by decide)).trans hs_161
            refine g_aload_n C 2 dX12_readBookLine_116 rfl rfl ?_
            refine g_getR C K hLx hkx f_12_73 hb_3 dX12_readBookLine_117 ?_
            refine g_iload_n C 0 dX12_readBookLine_120 rfl rfl ?_
            refine g_iconst C (v := 2) dX12_readBookLine_121 (by decide) ?_
            obtain ⟨x_180, hx_180, rx_180, tx_180⟩ := ex_add 2 158 rx_153 rc_2 (by decide) (by decide) (by decide) (by decide)
            refine g_iadd C (v := x_180) dX12_readBookLine_122 hx_180 ?_
            refine g_iconst C (v := 0) dX12_readBookLine_123 (by decide) ?_
            refine h_iast C K hb_3L hb_3k (x_180.toNatClampNeg) (rfl) (ix_0 rx_180 (by decide)) (ix_lt rx_180 (by decide) hb_3n (by decide)) dX12_readBookLine_124 (fun I_181 hI_181 => ?_)
            have hU_182 := iw_rw W9 hU_173 (uw_put hU_173.1 hI_181 (ro_a hb_3k (by decide) hb_3o hkx rfl) (lo := (-1)) (hi := 5) (bn_862.trans (rz_2 (ix_m (md_a (r2 := 2) tx_180 (md_m tx_153) rc_2 (by decide)) rx_180 (by decide)))) (rg_w rc_0 (by decide) (by decide))) hLx hkx hb_3 hI_181 (kp_k (κ := κ) hI_172 (by rw [hkx, hb_3k]; decide) (kp_k (κ := κ) hI_154 (by rw [hkx, hb_3k]; decide) hx_148)) (r_152).1 (by rw [nx_a tx_180 rx_153 rc_2 (by decide), nx_m (k := 4) tx_153 r_152 (by decide)]; simp only [show (2 : Int32).toNatClampNeg = 2 from rfl] <;> omega)
            have hF_183 := fq_puta hF_174 hI_181 (ro_a hb_3k (by decide) hb_3o hkx rfl) (by decide) (by decide)
            have hs_184 : NVq I_181 J x b_2 = s_4 := by rw [hI_181]; exact (vq_oI wvqx (ro_a hb_3k (by decide) hb_3o hkx rfl) (by decide)).trans hs_175
            have hs_185 : NWq I_181 J x b_1 = s_5 := by rw [hI_181]; exact (zq_oI wzqx (ro_a hb_3k (by decide) hb_3o hkx rfl) (by decide)).trans hs_176
            have hs_186 : YTq I_181 J x = s_6 := by rw [hI_181]; exact (uq_oI wuqx (ro_a hb_3k (by decide) hb_3o hkx rfl) (by decide)).trans hs_177
            have hs_187 : MTq I_181 J x b_7 = s_8 := by rw [hI_181]; exact (mq_oI wmqx (ro_a hb_3k (by decide) hb_3o hkx rfl) (by decide)).trans hs_178
            have hs_188 : NRq I_181 J x b_9 b_10 = s_11 := by rw [hI_181]; exact (nq_oI wnqx (ro_a hb_3k (by decide) hb_3o hkx rfl) (by decide)).trans hs_179
            refine g_aload_n C 2 dX12_readBookLine_125 rfl rfl ?_
            refine g_callVV C K (c_X12_go W9 hLx hkx   hU_182) hLx hkx (by decide) rfl v_12_156 rfl ⟨rfl, rfl⟩ ⟨Nat.le_of_ble_eq_true rfl, Nat.le_of_ble_eq_true rfl⟩ (Nat.le_of_ble_eq_true rfl) ⟨Nat.le_of_ble_eq_true rfl, Nat.le_of_ble_eq_true rfl⟩ dX12_readBookLine_126 rfl (st := []) (fun I_190 J_191 h_192 => ?_)
            obtain ⟨hUI_190, hFI_190, hGJ_191, fx_189, ex_189⟩ := h_192
            have hF_193 := fq_tr hF_183 hFI_190 (by decide)
            have hG_194 := fq_tr hG hGJ_191 (by decide)
            obtain ⟨s_196, hs_196⟩ : ∃ z, MTq I_190 J_191 x b_7 = z := ⟨_, rfl⟩
            have c_195 : mGo (s_8) = s_196 := by have q := fx_189; simp only [emqx, hs_187, hs_196] at q; exact q.symm
            have hs_197 : NVq I_190 J_191 x b_2 = s_4 := (vq_fq wvqx hFI_190 hGJ_191 (by decide) (by decide)).trans hs_184
            have hs_198 : NWq I_190 J_191 x b_1 = s_5 := (zq_fq wzqx hFI_190 hGJ_191 (by decide) (by decide)).trans hs_185
            have hs_199 : YTq I_190 J_191 x = s_6 := (uq_fq wuqx hFI_190 hGJ_191 (by decide) (by decide)).trans hs_186
            have hs_200 : NRq I_190 J_191 x b_9 b_10 = s_11 := (nq_fq wnqx hFI_190 hGJ_191 (by decide) (by decide)).trans hs_188
            refine g_iload_n C 1 dX12_readBookLine_129 rfl rfl ?_
            refine g_if_ne C (tgt := 154) dX12_readBookLine_130 (by decide) (fun h_201 => ?_) (fun h_201 => ?_)
            · skip
              exact ne_no (h_201) r_127 rc_0
            · skip
              refine g_aload_n C 2 dX12_readBookLine_133 rfl rfl ?_
              refine g_iload_n C 0 dX12_readBookLine_134 rfl rfl ?_
              have q_202 := (fq_at hFI_190 hLx hkx (by decide) (by decide) (kp_k (κ := κ) hI_181 (by rw [hkx, hb_3k]; decide) (kp_k (κ := κ) hI_172 (by rw [hkx, hb_3k]; decide) (kp_k (κ := κ) hI_154 (by rw [hkx, hb_3k]; decide) hx_148))))
              refine g_callVI C K (c_X12_readDoes W9 hLx hkx x_153 (rx_153) hUI_190  (eq_rg q_202 (r_152)) ((md_m tx_153)) (by rw [q_202]; exact (show x_153.toNatClampNeg = 4 * x_148.toNatClampNeg from by rw [nx_m (k := 4) tx_153 r_152 (by decide)] <;> omega)) (fun rw hr => by rw [hb_3] at hr; cases hr; rw [show x_153.toNatClampNeg + 2 = x_180.toNatClampNeg from (by rw [nx_a tx_180 rx_153 rc_2 (by decide)]; rfl), (fq_ar hFI_190 hb_3L (ro_a hb_3k (by decide) hb_3o hkx rfl) (by decide) (by decide) (kp_s hI_181))]; exact (rc_0).1)) hLx hkx (by decide) rfl v_12_364 rfl ⟨rfl, rfl⟩ ⟨Nat.le_of_ble_eq_true rfl, Nat.le_of_ble_eq_true rfl⟩ (Nat.le_of_ble_eq_true rfl) ⟨Nat.le_of_ble_eq_true rfl, Nat.le_of_ble_eq_true rfl⟩ dX12_readBookLine_135 rfl (st := []) (fun x_203 I_204 J_205 h_206 => ?_)
              obtain ⟨hUI_204, hFI_204, hGJ_205, rx_203, fx_203, ex_203⟩ := h_206
              have hF_207 := fq_tr hF_193 hFI_204 (by decide)
              have hG_208 := fq_tr hG_194 hGJ_205 (by decide)
              obtain ⟨s_210, hs_210⟩ : ∃ z, MTq I_204 J_205 x b_7 = z := ⟨_, rfl⟩
              obtain ⟨s_211, hs_211⟩ : ∃ z, NRq I_204 J_205 x b_9 b_10 = z := ⟨_, rfl⟩
              have c_209 : mDoes (s_4) (s_5) (s_196) (s_11) = (x_203, s_210, s_211) := by have q := fx_203; simp only [evqx, ezqx, emqx, enqx, hs_197, hs_198, hs_196, hs_200, hs_210, hs_211] at q; exact q.symm
              have hs_212 : NVq I_204 J_205 x b_2 = s_4 := (vq_fq wvqx hFI_204 hGJ_205 (by decide) (by decide)).trans hs_197
              have hs_213 : NWq I_204 J_205 x b_1 = s_5 := (zq_fq wzqx hFI_204 hGJ_205 (by decide) (by decide)).trans hs_198
              have hs_214 : YTq I_204 J_205 x = s_6 := (uq_fq wuqx hFI_204 hGJ_205 (by decide) (by decide)).trans hs_199
              refine g_if_eq C (tgt := 152) dX12_readBookLine_138 (by decide) (fun h_215 => ?_) (fun h_215 => ?_)
              · skip
                have r_216 := (⟨(rx_203).1, (eq_rg (h_215) rc_0).2⟩ : Rg 0 0 x_203)
                refine g_iconst C (v := 0) dX12_readBookLine_152 (by decide) ?_
                exact g_zret (ty := .boolean) (r := 0) B K rfl (rfl) ⟨hUI_204, hF_207, hG_208, rg_w rc_0 (by decide) (by decide), (by simp only [mBkLine, mBk3, mBk4, mBk5, evqx, hs_212, hs_4, ezqx, hs_213, hs_5, euqx, hs_214, hs_6, emqx, hs_210, hs_8, enqx, hs_211, hs_11, c_16, (eq_true h_17), c_132, h_133, hx_136, f_137, hy_138, f_139, c_144, h_145, hx_148, f_149, h_150, hx_153, hx_162, (eq_true h_163), c_169, hx_180, c_195, (eq_true h_201), c_209, (eq_true h_215), if_true, if_false, mqM_tp, mqM_size, mqM_limit, mqM_to, mqM_frm, mqM_kind, mqM_number, mqM_sign, mqM_word, MT_.w_tp, MT_.w_size, MT_.w_limit, MT_.w_to, MT_.w_frm, MT_.w_kind, MT_.w_number, MT_.w_sign, MT_.w_word, nqM_rd, nqM_rn, nqM_taped, nqM_mfault, nqM_mplace, nqM_told, nqM_hl, nqM_hd, NR_.w_rd, NR_.w_rn, NR_.w_taped, NR_.w_mfault, NR_.w_mplace, NR_.w_told, NR_.w_hl, NR_.w_hd, vqM_nv, NV_.w_nv, zqM_nw, NW_.w_nw, uqM_blm, YT_.w_blm]), (fun q => absurd rfl q), (fun q => absurd rfl q)⟩ dX12_readBookLine_153
              · skip
                have n_217 : ¬ x_203 = 0 := h_215
                have r_218 := ne_lo (lo := 1) n_217 rx_203 rc_0 rfl (by decide)
                refine g_aload_n C 2 dX12_readBookLine_141 rfl rfl ?_
                refine g_callVI C K (c_X12_readEnd W9 hLx hkx   hUI_204) hLx hkx (by decide) rfl v_12_222 rfl ⟨rfl, rfl⟩ ⟨Nat.le_of_ble_eq_true rfl, Nat.le_of_ble_eq_true rfl⟩ (Nat.le_of_ble_eq_true rfl) ⟨Nat.le_of_ble_eq_true rfl, Nat.le_of_ble_eq_true rfl⟩ dX12_readBookLine_142 rfl (st := []) (fun x_219 I_220 J_221 h_222 => ?_)
                obtain ⟨hUI_220, hFI_220, hGJ_221, rx_219, fx_219, ex_219⟩ := h_222
                have hF_223 := fq_tr hF_207 hFI_220 (by decide)
                have hG_224 := fq_tr hG_208 hGJ_221 (by decide)
                obtain ⟨s_226, hs_226⟩ : ∃ z, MTq I_220 J_221 x b_7 = z := ⟨_, rfl⟩
                obtain ⟨s_227, hs_227⟩ : ∃ z, NRq I_220 J_221 x b_9 b_10 = z := ⟨_, rfl⟩
                have c_225 : mReadEnd (s_210) (s_211) = (x_219, s_226, s_227) := by have q := fx_219; simp only [emqx, enqx, hs_210, hs_211, hs_226, hs_227] at q; exact q.symm
                have hs_228 : NVq I_220 J_221 x b_2 = s_4 := (vq_fq wvqx hFI_220 hGJ_221 (by decide) (by decide)).trans hs_212
                have hs_229 : NWq I_220 J_221 x b_1 = s_5 := (zq_fq wzqx hFI_220 hGJ_221 (by decide) (by decide)).trans hs_213
                have hs_230 : YTq I_220 J_221 x = s_6 := (uq_fq wuqx hFI_220 hGJ_221 (by decide) (by decide)).trans hs_214
                refine g_if_eq C (tgt := 152) dX12_readBookLine_145 (by decide) (fun h_231 => ?_) (fun h_231 => ?_)
                · skip
                  have r_232 := (⟨(rx_219).1, (eq_rg (h_231) rc_0).2⟩ : Rg 0 0 x_219)
                  refine g_iconst C (v := 0) dX12_readBookLine_152 (by decide) ?_
                  exact g_zret (ty := .boolean) (r := 0) B K rfl (rfl) ⟨hUI_220, hF_223, hG_224, rg_w rc_0 (by decide) (by decide), (by simp only [mBkLine, mBk3, mBk4, mBk5, evqx, hs_228, hs_4, ezqx, hs_229, hs_5, euqx, hs_230, hs_6, emqx, hs_226, hs_8, enqx, hs_227, hs_11, c_16, (eq_true h_17), c_132, h_133, hx_136, f_137, hy_138, f_139, c_144, h_145, hx_148, f_149, h_150, hx_153, hx_162, (eq_true h_163), c_169, hx_180, c_195, (eq_true h_201), c_209, h_215, c_225, (eq_true h_231), if_true, if_false, mqM_tp, mqM_size, mqM_limit, mqM_to, mqM_frm, mqM_kind, mqM_number, mqM_sign, mqM_word, MT_.w_tp, MT_.w_size, MT_.w_limit, MT_.w_to, MT_.w_frm, MT_.w_kind, MT_.w_number, MT_.w_sign, MT_.w_word, nqM_rd, nqM_rn, nqM_taped, nqM_mfault, nqM_mplace, nqM_told, nqM_hl, nqM_hd, NR_.w_rd, NR_.w_rn, NR_.w_taped, NR_.w_mfault, NR_.w_mplace, NR_.w_told, NR_.w_hl, NR_.w_hd, vqM_nv, NV_.w_nv, zqM_nw, NW_.w_nw, uqM_blm, YT_.w_blm]), (fun q => absurd rfl q), (fun q => absurd rfl q)⟩ dX12_readBookLine_153
                · skip
                  have n_233 : ¬ x_219 = 0 := h_231
                  have r_234 := ne_lo (lo := 1) n_233 rx_219 rc_0 rfl (by decide)
                  refine g_iconst C (v := 1) dX12_readBookLine_148 (by decide) ?_
                  refine g_goto C (tgt := 153) dX12_readBookLine_149 (by decide) ?_
                  exact g_zret (ty := .boolean) (r := 1) B K rfl (rfl) ⟨hUI_220, hF_223, hG_224, rg_w rc_1 (by decide) (by decide), (by simp only [mBkLine, mBk3, mBk4, mBk5, evqx, hs_228, hs_4, ezqx, hs_229, hs_5, euqx, hs_230, hs_6, emqx, hs_226, hs_8, enqx, hs_227, hs_11, c_16, (eq_true h_17), c_132, h_133, hx_136, f_137, hy_138, f_139, c_144, h_145, hx_148, f_149, h_150, hx_153, hx_162, (eq_true h_163), c_169, hx_180, c_195, (eq_true h_201), c_209, h_215, c_225, h_231, if_true, if_false, mqM_tp, mqM_size, mqM_limit, mqM_to, mqM_frm, mqM_kind, mqM_number, mqM_sign, mqM_word, MT_.w_tp, MT_.w_size, MT_.w_limit, MT_.w_to, MT_.w_frm, MT_.w_kind, MT_.w_number, MT_.w_sign, MT_.w_word, nqM_rd, nqM_rn, nqM_taped, nqM_mfault, nqM_mplace, nqM_told, nqM_hl, nqM_hd, NR_.w_rd, NR_.w_rn, NR_.w_taped, NR_.w_mfault, NR_.w_mplace, NR_.w_told, NR_.w_hl, NR_.w_hd, vqM_nv, NV_.w_nv, zqM_nw, NW_.w_nw, uqM_blm, YT_.w_blm]), (fun _ rw hr => by rw [hb_3] at hr; cases hr; rw [(fq_at hFI_220 hLx hkx (by decide) (by decide) (fq_at hFI_204 hLx hkx (by decide) (by decide) q_202)), show 4 * x_148.toNatClampNeg = x_153.toNatClampNeg from ((show x_153.toNatClampNeg = 4 * x_148.toNatClampNeg from by rw [nx_m (k := 4) tx_153 r_152 (by decide)] <;> omega)).symm, show I_220 b_3 (x_153.toNatClampNeg + 2) = _ from (fq_ar hFI_220 hb_3L (ro_a hb_3k (by decide) hb_3o hkx rfl) (by decide) (by decide) rfl)]; exact (ex_203 (rg_nz r_218 (by decide)) _ hb_3)), (fun _ => eq_rg (fq_at hFI_220 hLx hkx (by decide) (by decide) (fq_at hFI_204 hLx hkx (by decide) (by decide) q_202)) (r_152))⟩ dX12_readBookLine_153
          · skip
            exact ne_no (h_163) r_127 rc_0
        · skip
          have r_235 := (⟨(eq_rg (h_150) rc_40).1, (rx_148).2⟩ : Rg 40 40 x_148)
          refine g_aload_n C 1 dX12_readBookLine_61 rfl rfl ?_
          refine g_iconst C (v := 4) dX12_readBookLine_62 (by decide) ?_
          refine g_callVI C K (c_X12_bad W9 hLx hkx 4 (rg_w rc_4 (by decide) (by decide)) hU) hLx hkx (by decide) rfl v_12_146 rfl ⟨rfl, rfl⟩ ⟨Nat.le_of_ble_eq_true rfl, Nat.le_of_ble_eq_true rfl⟩ (Nat.le_of_ble_eq_true rfl) ⟨Nat.le_of_ble_eq_true rfl, Nat.le_of_ble_eq_true rfl⟩ dX12_readBookLine_63 rfl (st := []) (fun x_236 I_237 J_238 h_239 => ?_)
          obtain ⟨hUI_237, hFI_237, hGJ_238, rx_236, fx_236⟩ := h_239
          have hF_240 := fq_tr hF hFI_237 (by decide)
          have hG_241 := fq_tr hG hGJ_238 (by decide)
          obtain ⟨s_243, hs_243⟩ : ∃ z, MTq I_237 J_238 x b_7 = z := ⟨_, rfl⟩
          obtain ⟨s_244, hs_244⟩ : ∃ z, NRq I_237 J_238 x b_9 b_10 = z := ⟨_, rfl⟩
          have c_242 : mBad (4) (s_8) (s_11) = (x_236, s_243, s_244) := by have q := fx_236; simp only [emqx, enqx, hs_8, hs_11, hs_243, hs_244] at q; exact q.symm
          have hs_245 : NVq I_237 J_238 x b_2 = s_4 := (vq_fq wvqx hFI_237 hGJ_238 (by decide) (by decide)).trans hs_4
          have hs_246 : NWq I_237 J_238 x b_1 = s_5 := (zq_fq wzqx hFI_237 hGJ_238 (by decide) (by decide)).trans hs_5
          have hs_247 : YTq I_237 J_238 x = s_6 := (uq_fq wuqx hFI_237 hGJ_238 (by decide) (by decide)).trans hs_6
          exact g_zret (ty := .boolean) (r := x_236) B K rfl (nar_z (rg_w rx_236 (by decide) (by decide))) ⟨hUI_237, hF_240, hG_241, rg_w rx_236 (by decide) (by decide), (by simp only [mBkLine, mBk3, mBk4, mBk5, evqx, hs_245, hs_4, ezqx, hs_246, hs_5, euqx, hs_247, hs_6, emqx, hs_243, hs_8, enqx, hs_244, hs_11, c_16, (eq_true h_17), c_132, h_133, hx_136, f_137, hy_138, f_139, c_144, h_145, hx_148, f_149, (eq_true h_150), c_242, if_true, if_false, mqM_tp, mqM_size, mqM_limit, mqM_to, mqM_frm, mqM_kind, mqM_number, mqM_sign, mqM_word, MT_.w_tp, MT_.w_size, MT_.w_limit, MT_.w_to, MT_.w_frm, MT_.w_kind, MT_.w_number, MT_.w_sign, MT_.w_word, nqM_rd, nqM_rn, nqM_taped, nqM_mfault, nqM_mplace, nqM_told, nqM_hl, nqM_hd, NR_.w_rd, NR_.w_rn, NR_.w_taped, NR_.w_mfault, NR_.w_mplace, NR_.w_told, NR_.w_hl, NR_.w_hd, vqM_nv, NV_.w_nv, zqM_nw, NW_.w_nw, uqM_blm, YT_.w_blm]), (fun q => ne_no q rx_236 rc_0), (fun q => ne_no q rx_236 rc_0)⟩ dX12_readBookLine_66
      · skip
        have r_248 := (⟨(rx_140).1, (eq_rg (h_145) rc_m1).2⟩ : Rg (-1) (-1) x_140)
        refine g_aload_n C 1 dX12_readBookLine_46 rfl rfl ?_
        refine g_iconst C (v := 3) dX12_readBookLine_47 (by decide) ?_
        refine g_callVI C K (c_X12_bad W9 hLx hkx 3 (rg_w rc_3 (by decide) (by decide)) hU) hLx hkx (by decide) rfl v_12_146 rfl ⟨rfl, rfl⟩ ⟨Nat.le_of_ble_eq_true rfl, Nat.le_of_ble_eq_true rfl⟩ (Nat.le_of_ble_eq_true rfl) ⟨Nat.le_of_ble_eq_true rfl, Nat.le_of_ble_eq_true rfl⟩ dX12_readBookLine_48 rfl (st := []) (fun x_249 I_250 J_251 h_252 => ?_)
        obtain ⟨hUI_250, hFI_250, hGJ_251, rx_249, fx_249⟩ := h_252
        have hF_253 := fq_tr hF hFI_250 (by decide)
        have hG_254 := fq_tr hG hGJ_251 (by decide)
        obtain ⟨s_256, hs_256⟩ : ∃ z, MTq I_250 J_251 x b_7 = z := ⟨_, rfl⟩
        obtain ⟨s_257, hs_257⟩ : ∃ z, NRq I_250 J_251 x b_9 b_10 = z := ⟨_, rfl⟩
        have c_255 : mBad (3) (s_8) (s_11) = (x_249, s_256, s_257) := by have q := fx_249; simp only [emqx, enqx, hs_8, hs_11, hs_256, hs_257] at q; exact q.symm
        have hs_258 : NVq I_250 J_251 x b_2 = s_4 := (vq_fq wvqx hFI_250 hGJ_251 (by decide) (by decide)).trans hs_4
        have hs_259 : NWq I_250 J_251 x b_1 = s_5 := (zq_fq wzqx hFI_250 hGJ_251 (by decide) (by decide)).trans hs_5
        have hs_260 : YTq I_250 J_251 x = s_6 := (uq_fq wuqx hFI_250 hGJ_251 (by decide) (by decide)).trans hs_6
        exact g_zret (ty := .boolean) (r := x_249) B K rfl (nar_z (rg_w rx_249 (by decide) (by decide))) ⟨hUI_250, hF_253, hG_254, rg_w rx_249 (by decide) (by decide), (by simp only [mBkLine, mBk3, mBk4, mBk5, evqx, hs_258, hs_4, ezqx, hs_259, hs_5, euqx, hs_260, hs_6, emqx, hs_256, hs_8, enqx, hs_257, hs_11, c_16, (eq_true h_17), c_132, h_133, hx_136, f_137, hy_138, f_139, c_144, (eq_true h_145), c_255, if_true, if_false, mqM_tp, mqM_size, mqM_limit, mqM_to, mqM_frm, mqM_kind, mqM_number, mqM_sign, mqM_word, MT_.w_tp, MT_.w_size, MT_.w_limit, MT_.w_to, MT_.w_frm, MT_.w_kind, MT_.w_number, MT_.w_sign, MT_.w_word, nqM_rd, nqM_rn, nqM_taped, nqM_mfault, nqM_mplace, nqM_told, nqM_hl, nqM_hd, NR_.w_rd, NR_.w_rn, NR_.w_taped, NR_.w_mfault, NR_.w_mplace, NR_.w_told, NR_.w_hl, NR_.w_hd, vqM_nv, NV_.w_nv, zqM_nw, NW_.w_nw, uqM_blm, YT_.w_blm]), (fun q => ne_no q rx_249 rc_0), (fun q => ne_no q rx_249 rc_0)⟩ dX12_readBookLine_51
    · skip
      have r_261 := (⟨(rx_128).1, (eq_rg (h_133) rc_0).2⟩ : Rg 0 0 x_128)
      refine g_aload_n C 1 dX12_readBookLine_18 rfl rfl ?_
      refine g_iconst C (v := 1) dX12_readBookLine_19 (by decide) ?_
      refine g_callVI C K (c_X12_bad W9 hLx hkx 1 (rg_w rc_1 (by decide) (by decide)) hU) hLx hkx (by decide) rfl v_12_146 rfl ⟨rfl, rfl⟩ ⟨Nat.le_of_ble_eq_true rfl, Nat.le_of_ble_eq_true rfl⟩ (Nat.le_of_ble_eq_true rfl) ⟨Nat.le_of_ble_eq_true rfl, Nat.le_of_ble_eq_true rfl⟩ dX12_readBookLine_20 rfl (st := []) (fun x_262 I_263 J_264 h_265 => ?_)
      obtain ⟨hUI_263, hFI_263, hGJ_264, rx_262, fx_262⟩ := h_265
      have hF_266 := fq_tr hF hFI_263 (by decide)
      have hG_267 := fq_tr hG hGJ_264 (by decide)
      obtain ⟨s_269, hs_269⟩ : ∃ z, MTq I_263 J_264 x b_7 = z := ⟨_, rfl⟩
      obtain ⟨s_270, hs_270⟩ : ∃ z, NRq I_263 J_264 x b_9 b_10 = z := ⟨_, rfl⟩
      have c_268 : mBad (1) (s_8) (s_11) = (x_262, s_269, s_270) := by have q := fx_262; simp only [emqx, enqx, hs_8, hs_11, hs_269, hs_270] at q; exact q.symm
      have hs_271 : NVq I_263 J_264 x b_2 = s_4 := (vq_fq wvqx hFI_263 hGJ_264 (by decide) (by decide)).trans hs_4
      have hs_272 : NWq I_263 J_264 x b_1 = s_5 := (zq_fq wzqx hFI_263 hGJ_264 (by decide) (by decide)).trans hs_5
      have hs_273 : YTq I_263 J_264 x = s_6 := (uq_fq wuqx hFI_263 hGJ_264 (by decide) (by decide)).trans hs_6
      exact g_zret (ty := .boolean) (r := x_262) B K rfl (nar_z (rg_w rx_262 (by decide) (by decide))) ⟨hUI_263, hF_266, hG_267, rg_w rx_262 (by decide) (by decide), (by simp only [mBkLine, mBk3, mBk4, mBk5, evqx, hs_271, hs_4, ezqx, hs_272, hs_5, euqx, hs_273, hs_6, emqx, hs_269, hs_8, enqx, hs_270, hs_11, c_16, (eq_true h_17), c_132, (eq_true h_133), c_268, if_true, if_false, mqM_tp, mqM_size, mqM_limit, mqM_to, mqM_frm, mqM_kind, mqM_number, mqM_sign, mqM_word, MT_.w_tp, MT_.w_size, MT_.w_limit, MT_.w_to, MT_.w_frm, MT_.w_kind, MT_.w_number, MT_.w_sign, MT_.w_word, nqM_rd, nqM_rn, nqM_taped, nqM_mfault, nqM_mplace, nqM_told, nqM_hl, nqM_hd, NR_.w_rd, NR_.w_rn, NR_.w_taped, NR_.w_mfault, NR_.w_mplace, NR_.w_told, NR_.w_hl, NR_.w_hd, vqM_nv, NV_.w_nv, zqM_nw, NW_.w_nw, uqM_blm, YT_.w_blm]), (fun q => ne_no q rx_262 rc_0), (fun q => ne_no q rx_262 rc_0)⟩ dX12_readBookLine_23
set_option maxRecDepth 100000 in
set_option maxHeartbeats 8000000 in
theorem c_X12_stay {l : Launch} {D : va_G} {cy : Nat → ClassId} {L : List Nat} {κ ln : Nat → Nat} {R : Nat → Nat → Option Nat} {I : Nat → Nat → Int32} {J : Nat → Nat → Int64} {ow : Nat → Nat × Nat} (W9 : ∀ a ∈ L, Shp L κ ln R ow a) {x : Nat} (hLx : x ∈ L) (hkx : κ x = 12) (a0 : Int32) (ra0 : Rg 0 1 a0) (hU : Iw L κ R ow I) (hga : Ga_ R x I) : CtV l yX12_stay cX12_stay 4 none { frames := 1, cells := 0, slots := 0, locals := 21 } D cy L κ ln R I J [.ref x, .int a0] (fun I2 J2 => Iw L κ R ow I2 ∧ Fq L κ ow [1223, 83400, 83700, 83800] I I2 ∧ Fq L κ ow [] J J2 ∧ (Hd_ R x I I2)) := by
  refine CtV.of (by decide +kernel) (Nat.le_of_ble_eq_true rfl) ?_
  intro p e s m below meth c B K
  have C := B.1
  have hF : Fq L κ ow [1223, 83400, 83700, 83800] I I := fq_rf
  have hG : Fq L κ ow [] J J := fq_rf
  obtain ⟨b_1, hb_1, hb_1L, hb_1k, hb_1n, hb_1o⟩ := shp_a (W9 x hLx) hkx 18 14 75 rfl (by decide)
  obtain ⟨b_2, hb_2, hb_2L, hb_2k, hb_2n, hb_2o⟩ := shp_a (W9 x hLx) hkx 14 14 389 rfl (by decide)
  refine g_lo (is := [0, 1]) (lo2 := [(0, .ref x), (1, .int a0)]) rfl ?_
  refine g_iconst C (v := 0) dX12_stay_0 (by decide) ?_
  refine g_istore_n C dX12_stay_1 rfl (by decide) (lo2 := [(2, .int 0), (0, .ref x), (1, .int a0)]) rfl ?_
  refine g_lo (is := [1, 2, 0]) (lo2 := [(0, .ref x), (1, .int a0), (2, .int 0)]) rfl ?_
  have ex_2 : ∀ (I_4 : Nat → Nat → Int32) (hI_4 : I_4 = swp_ I b_2 b_1 75) (v_3 : Int32) (rv_3 : Rg 75 75 v_3), WG p l e { frames := 1, cells := 0, slots := 0, locals := 21 } s m ([.ref x, .int a0] : List Value).toArray below meth c 4 0 0 (MQ below (Qv_ D cy L κ ln R (fun I2 J2 => Iw L κ R ow I2 ∧ Fq L κ ow [1223, 83400, 83700, 83800] I I2 ∧ Fq L κ ow [] J J2 ∧ (Hd_ R x I I2))) ([.ref x, .int a0] : List Value).toArray s 0 0 (Al_ L)) D cy (Al_ L) s.heap L κ ln R I_4 J 46 [(0, .ref x), (1, .int a0), (2, .int v_3)] [] := by
    intro I_4 hI_4 v_3 rv_3
    have hF_5 := fq_swp hF hI_4 (ro_a hb_2k (by decide) hb_2o hkx rfl) (ro_a hb_1k (by decide) hb_1o hkx rfl) (by decide) (by decide)
    have hU_6 := uw_swp hU.1 hb_2L hb_1L hI_4 (ro_a hb_2k (by decide) hb_2o hkx rfl) (ro_a hb_1k (by decide) hb_1o hkx rfl)
    have q_7 := iw_sw W9 hU hU_6 hLx hkx hb_2 hb_1 hI_4 hga
    refine g_iload_n C 1 dX12_stay_46 rfl rfl ?_
    refine g_if_ne C (tgt := 51) dX12_stay_47 (by decide) (fun h_8 => ?_) (fun h_8 => ?_)
    · skip
      have n_9 : ¬ a0 = 0 := h_8
      have r_10 := ne_lo (lo := 1) n_9 ra0 rc_0 rfl (by decide)
      refine g_aload_n C 0 dX12_stay_51 rfl rfl ?_
      refine g_callVV C K (c_X12_snap W9 hLx hkx   q_7.1) hLx hkx (by decide) rfl v_12_282 rfl ⟨rfl, rfl⟩ ⟨Nat.le_of_ble_eq_true rfl, Nat.le_of_ble_eq_true rfl⟩ (Nat.le_of_ble_eq_true rfl) ⟨Nat.le_of_ble_eq_true rfl, Nat.le_of_ble_eq_true rfl⟩ dX12_stay_52 rfl (st := []) (fun I_12 J_13 h_14 => ?_)
      obtain ⟨hUI_12, hFI_12, hGJ_13, ex_11⟩ := h_14
      have hF_15 := fq_tr hF_5 hFI_12 (by decide)
      have hG_16 := fq_tr hG hGJ_13 (by decide)
      refine g_aload_n C 0 dX12_stay_55 rfl rfl ?_
      refine g_callVV C K (c_X12_takeBack W9 hLx hkx   hUI_12  ((ga_mv W9 hLx hkx q_7.2 ex_11 hFI_12 (by decide)))) hLx hkx (by decide) rfl v_12_332 rfl ⟨rfl, rfl⟩ ⟨Nat.le_of_ble_eq_true rfl, Nat.le_of_ble_eq_true rfl⟩ (Nat.le_of_ble_eq_true rfl) ⟨Nat.le_of_ble_eq_true rfl, Nat.le_of_ble_eq_true rfl⟩ dX12_stay_56 rfl (st := []) (fun I_18 J_19 h_20 => ?_)
      obtain ⟨hUI_18, hFI_18, hGJ_19, ex_17⟩ := h_20
      have hF_21 := fq_tr hF_15 hFI_18 (by decide)
      have hG_22 := fq_tr hG_16 hGJ_19 (by decide)
      exact g_vret B K rfl ⟨hUI_18, hF_21, hG_22, (hd_t (hd_t (hd_sw hb_2 (ro_a hb_2k (by decide) hb_2o hkx rfl) (ro_a hb_1k (by decide) hb_1o hkx rfl) hd_rf hI_4) ex_11) ex_17)⟩ dX12_stay_59
    · skip
      have r_23 := (⟨(ra0).1, (eq_rg (h_8) rc_0).2⟩ : Rg 0 0 a0)
      exact g_vret B K rfl ⟨q_7.1, hF_5, hG, (hd_sw hb_2 (ro_a hb_2k (by decide) hb_2o hkx rfl) (ro_a hb_1k (by decide) hb_1o hkx rfl) hd_rf hI_4)⟩ dX12_stay_50
  have l_2 : ∀ (m_2 : Nat) (v_24 : Int32) (I_25 : Nat → Nat → Int32), v_24.toInt + (m_2 : Int) = 75 → 0 ≤ v_24.toInt → I_25 = swp_ I b_2 b_1 v_24.toNatClampNeg → WG p l e { frames := 1, cells := 0, slots := 0, locals := 21 } s m ([.ref x, .int a0] : List Value).toArray below meth c 4 0 0 (MQ below (Qv_ D cy L κ ln R (fun I2 J2 => Iw L κ R ow I2 ∧ Fq L κ ow [1223, 83400, 83700, 83800] I I2 ∧ Fq L κ ow [] J J2 ∧ (Hd_ R x I I2))) ([.ref x, .int a0] : List Value).toArray s 0 0 (Al_ L)) D cy (Al_ L) s.heap L κ ln R I_25 J 2 [(0, .ref x), (1, .int a0), (2, .int v_24)] [] := by
    intro m_2
    induction m_2 with
    | zero =>
      intro v_24 I_25 hk_2 h0_2 hI_25
      have rv_24 : Rg 75 75 v_24 := by unfold Rg; omega
      refine g_iload_n C 2 dX12_stay_2 rfl rfl ?_
      refine g_bipush C (v := 75) dX12_stay_3 (by decide) ?_
      refine g_icmp_ge C (tgt := 46) dX12_stay_5 (by decide) (fun h_26 => ?_) (fun h_26 => ?_)
      · skip
        refine g_lo (is := [0, 1, 2]) (lo2 := [(0, .ref x), (1, .int a0), (2, .int v_24)]) rfl ?_
        exact ex_2 I_25 (hI_25.trans (congrArg (fun q => swp_ I b_2 b_1 q) (show v_24.toNatClampNeg = 75 from by have := ix_n rv_24 (by decide); have := rv_24.1; have := rv_24.2; omega))) v_24 rv_24
      · skip
        have r_27 := lt_l (hi := 74) (nle h_26) rv_24 rc_75 (by decide)
        exact rg_no r_27 (by decide)
    | succ m_2 ih_2 =>
      intro v_24 I_25 hk_2 h0_2 hI_25
      have rv_24 : Rg 0 74 v_24 := by unfold Rg; omega
      refine g_iload_n C 2 dX12_stay_2 rfl rfl ?_
      refine g_bipush C (v := 75) dX12_stay_3 (by decide) ?_
      refine g_icmp_ge C (tgt := 46) dX12_stay_5 (by decide) (fun h_28 => ?_) (fun h_28 => ?_)
      · skip
        have r_29 := le_r (h_28) rc_75 rv_24
        exact rg_no r_29 (by decide)
      · skip
        refine g_aload_n C 0 dX12_stay_8 rfl rfl ?_
        refine g_getR C K hLx hkx f_12_13 hb_2 dX12_stay_9 ?_
        refine g_bipush C (v := 72) dX12_stay_12 (by decide) ?_
        refine g_iload_n C 2 dX12_stay_14 rfl rfl ?_
        obtain ⟨x_30, hx_30, rx_30, tx_30⟩ := ex_add 72 146 rc_72 rv_24 (by decide) (by decide) (by decide) (by decide)
        refine g_iadd C (v := x_30) dX12_stay_15 hx_30 ?_
        obtain ⟨x_31, hx_31, rx_31⟩ := ex_any (z0 := I_25 b_2 (x_30.toNatClampNeg))
        refine h_iald C K hb_2L hb_2k (v := x_31) (x_30.toNatClampNeg) (rfl) (ix_0 rx_30 (by decide)) (ix_lt rx_30 (by decide) hb_2n (by decide)) hx_31 dX12_stay_16 ?_
        refine g_istore_n C dX12_stay_17 rfl (by decide) (lo2 := [(3, .int x_31), (0, .ref x), (1, .int a0), (2, .int v_24)]) rfl ?_
        refine g_aload_n C 1 dX12_stay_18 rfl rfl ?_
        refine g_getR C K hLx hkx f_12_13 hb_2 dX12_stay_19 ?_
        refine g_bipush C (v := 72) dX12_stay_22 (by decide) ?_
        refine g_iload_n C 3 dX12_stay_24 rfl rfl ?_
        refine g_iadd C (v := x_30) dX12_stay_25 hx_30 ?_
        refine g_aload_n C 1 dX12_stay_26 rfl rfl ?_
        refine g_getR C K hLx hkx f_12_25 hb_1 dX12_stay_27 ?_
        refine g_iload_n C 3 dX12_stay_30 rfl rfl ?_
        obtain ⟨x_32, hx_32, rx_32⟩ := ex_any (z0 := I_25 b_1 (v_24.toNatClampNeg))
        refine h_iald C K hb_1L hb_1k (v := x_32) (v_24.toNatClampNeg) (rfl) (ix_0 rv_24 (by decide)) (ix_lt rv_24 (by decide) hb_1n (by decide)) hx_32 dX12_stay_31 ?_
        refine h_iast C K hb_2L hb_2k (x_30.toNatClampNeg) (rfl) (ix_0 rx_30 (by decide)) (ix_lt rx_30 (by decide) hb_2n (by decide)) dX12_stay_32 (fun I_33 hI_33 => ?_)
        refine g_aload_n C 1 dX12_stay_33 rfl rfl ?_
        refine g_getR C K hLx hkx f_12_25 hb_1 dX12_stay_34 ?_
        refine g_iload_n C 3 dX12_stay_37 rfl rfl ?_
        refine g_iload_n C 0 dX12_stay_38 rfl rfl ?_
        refine h_iast C K hb_1L hb_1k (v_24.toNatClampNeg) (rfl) (ix_0 rv_24 (by decide)) (ix_lt rv_24 (by decide) hb_1n (by decide)) dX12_stay_39 (fun I_34 hI_34 => ?_)
        obtain ⟨x_35, hx_35, rx_35, tx_35⟩ := ex_add (y := 1) 1 75 rv_24 rc_1 (by decide) (by decide) (by decide) (by decide)
        refine g_iinc C dX12_stay_40 (k := 3) (v := x_35) rfl hx_35 (by decide) (lo2 := [(2, .int x_35), (3, .int x_31), (0, .ref x), (1, .int a0)]) rfl ?_
        refine g_goto C (tgt := 2) dX12_stay_43 (by decide) ?_
        refine g_lo (is := [2, 3, 0]) (lo2 := [(0, .ref x), (1, .int a0), (2, .int x_35)]) rfl ?_
        have kk_2 : x_35.toNatClampNeg = v_24.toNatClampNeg + 1 := by have q1 := ix_n rv_24 (by decide); have q2 := (ti_k tx_35 rc_1); have q3 : x_35.toNatClampNeg = x_35.toInt.toNat := rfl; omega
        exact ih_2 x_35 I_34 (by have := (ti_k tx_35 rc_1); omega) (by have := (ti_k tx_35 rc_1); omega) (by rw [kk_2]; exact swp_s hI_25 (ne_ro (ro_a hb_2k (by decide) hb_2o hkx rfl) (ro_a hb_1k (by decide) hb_1o hkx rfl) (by decide)) hx_31 hx_32 hI_33 hI_34 (show x_30.toNatClampNeg = 72 + v_24.toNatClampNeg from by rw [nx_a tx_30 rc_72 rv_24 (by decide)]; simp only [show (72 : Int32).toNatClampNeg = 72 from rfl] <;> omega) rfl rfl)
  exact l_2 75 0 I (by decide) (by decide) swp_0
set_option maxRecDepth 100000 in
set_option maxHeartbeats 8000000 in
theorem c_X12_book {l : Launch} {D : va_G} {cy : Nat → ClassId} {L : List Nat} {κ ln : Nat → Nat} {R : Nat → Nat → Option Nat} {I : Nat → Nat → Int32} {J : Nat → Nat → Int64} {ow : Nat → Nat × Nat} (W9 : ∀ a ∈ L, Shp L κ ln R ow a) {x : Nat} (hLx : x ∈ L) (hkx : κ x = 12) (a0 : Int32) (hU : Iw L κ R ow I) : CtI l yX12_book cX12_book 4 (some .int) { frames := 6, cells := 0, slots := 0, locals := 143 } D cy L κ ln R I J [.ref x, .int a0] (fun r I2 J2 => Iw L κ R ow I2 ∧ Fq L κ ow [1200, 1202, 1203, 1204, 1205, 1206, 1207, 1208, 1209, 1210, 1211, 1213, 1223, 1244, 1245, 83400, 83700, 83800, 86200, 86300] I I2 ∧ Fq L κ ow [1212] J J2 ∧ Rg (-2147483648) 2147483647 r ∧ (I2 x 10 = mBookF a0 (NVf R I J x) (NWf R I J x) (YTf R I J x) (MTf R I J x) (NRf R I J x)) ∧ (Hd_ R x I I2)) := by
  obtain ⟨zf, hzf⟩ : ∃ z, mBookF a0 (NVf R I J x) (NWf R I J x) (YTf R I J x) (MTf R I J x) (NRf R I J x) = z := ⟨_, rfl⟩
  have rzf : Rg (-2147483648) 2147483647 zf := rg_all zf
  refine CtI.of (by decide +kernel) (Nat.le_of_ble_eq_true rfl) ?_
  intro p e s m below meth c B K
  have C := B.1
  have hF : Fq L κ ow [1200, 1202, 1203, 1204, 1205, 1206, 1207, 1208, 1209, 1210, 1211, 1213, 1223, 1244, 1245, 83400, 83700, 83800, 86200, 86300] I I := fq_rf
  have hG : Fq L κ ow [1212] J J := fq_rf
  obtain ⟨b_1, hb_1, hb_1L, hb_1k, hb_1n, hb_1o⟩ := shp_a (W9 x hLx) hkx 14 14 389 rfl (by decide)
  obtain ⟨b_2, hb_2, hb_2L, hb_2k, hb_2n, hb_2o⟩ := shp_a (W9 x hLx) hkx 43 14 4 rfl (by decide)
  obtain ⟨b_3, hb_3, hb_3L, hb_3k, hb_3n, hb_3o⟩ := shp_a (W9 x hLx) hkx 42 14 160 rfl (by decide)
  obtain ⟨b_4, hb_4, hb_4L, hb_4k, hb_4n, hb_4o⟩ := shp_a (W9 x hLx) hkx 19 15 13 rfl (by decide)
  have evqx : ∀ I J, NVf R I J x = NVq I J x b_4 := fun I J => by simp only [NVf, rr_, Option.getD_some, hb_4]
  have wvqx : vqw_ L κ ow x b_4 := ⟨⟨hLx, hb_4L⟩, ⟨(ro_o hkx (by decide)), (ro_a hb_4k (by decide) hb_4o hkx rfl)⟩⟩
  obtain ⟨s_5, hs_5⟩ : ∃ z, NVq I J x b_4 = z := ⟨_, rfl⟩
  have ezqx : ∀ I J, NWf R I J x = NWq I J x b_1 := fun I J => by simp only [NWf, rr_, Option.getD_some, hb_1]
  have wzqx : zqw_ L κ ow x b_1 := ⟨⟨hLx, hb_1L⟩, ⟨(ro_o hkx (by decide)), (ro_a hb_1k (by decide) hb_1o hkx rfl)⟩⟩
  obtain ⟨s_6, hs_6⟩ : ∃ z, NWq I J x b_1 = z := ⟨_, rfl⟩
  have euqx : ∀ I J, YTf R I J x = YTq I J x := fun I J => by simp only [YTf, rr_, Option.getD_some]
  have wuqx : uqw_ L κ ow x := ⟨hLx, (ro_o hkx (by decide))⟩
  obtain ⟨s_7, hs_7⟩ : ∃ z, YTq I J x = z := ⟨_, rfl⟩
  obtain ⟨b_8, hb_8, hb_8L, hb_8k, hb_8n, hb_8o⟩ := shp_a (W9 x hLx) hkx 1 14 940 rfl (by decide)
  have emqx : ∀ I J, MTf R I J x = MTq I J x b_8 := fun I J => by simp only [MTf, rr_, Option.getD_some, hb_8]
  have wmqx : mqw_ L κ ow x b_8 := ⟨⟨hLx, hb_8L⟩, ⟨(ro_o hkx (by decide)), (ro_a hb_8k (by decide) hb_8o hkx rfl)⟩⟩
  obtain ⟨s_9, hs_9⟩ : ∃ z, MTq I J x b_8 = z := ⟨_, rfl⟩
  obtain ⟨b_10, hb_10, hb_10L, hb_10k, hb_10n, hb_10o⟩ := shp_a (W9 x hLx) hkx 15 14 72 rfl (by decide)
  obtain ⟨b_11, hb_11, hb_11L, hb_11k, hb_11n, hb_11o⟩ := shp_a (W9 x hLx) hkx 20 15 13 rfl (by decide)
  have enqx : ∀ I J, NRf R I J x = NRq I J x b_10 b_11 := fun I J => by simp only [NRf, rr_, Option.getD_some, hb_10, hb_11]
  have wnqx : nqw_ L κ ow x b_10 b_11 := ⟨⟨hLx, hb_10L, hb_11L⟩, ⟨(ro_o hkx (by decide)), (ro_a hb_10k (by decide) hb_10o hkx rfl), (ro_a hb_11k (by decide) hb_11o hkx rfl)⟩⟩
  obtain ⟨s_12, hs_12⟩ : ∃ z, NRq I J x b_10 b_11 = z := ⟨_, rfl⟩
  refine g_lo (is := [0, 1]) (lo2 := [(0, .ref x), (1, .int a0)]) rfl ?_
  have l_73 : ∀ (n_73 : Nat) (I_13 : Nat → Nat → Int32) (J_14 : Nat → Nat → Int64) (hU_15 : Iw L κ R ow I_13) (hF_16 : Fq L κ ow [1200, 1202, 1203, 1204, 1205, 1206, 1207, 1208, 1209, 1210, 1211, 1213, 1223, 1244, 1245, 83400, 83700, 83800, 86200, 86300] I I_13) (hG_17 : Fq L κ ow [1212] J J_14) (r_18 : Rg 0 1 a0) (v_19 : Int32) (rv_19 : Rg 0 40 v_19) (v_20 : Int32) (rv_20 : Rg 0 0 v_20) (v_21 : Int32) (v_22 : Int32) (rv_22 : Rg 0 40 v_22) (v_23 : Int32) (rv_23 : Rg 0 0 v_23) (q_24 : I_13 x 10 = v_21) (q_25 : I_13 x 44 = v_22) (q_26 : I_13 x 7 = v_23) (hd_27 : Hd_ R x I I_13) (ga_28 : Ga_ R x I_13) (hq_29 : zf + 0 = zf + 0) (zq_30 : I_13 x 10 = zf) (hm_31 : 40 < (v_19 : Int32).toInt + (n_73 : Int)), WG p l e { frames := 6, cells := 0, slots := 0, locals := 143 } s m ([.ref x, .int a0] : List Value).toArray below meth c 4 0 0 (MQ below (Qi_ D cy L κ ln R (fun r I2 J2 => Iw L κ R ow I2 ∧ Fq L κ ow [1200, 1202, 1203, 1204, 1205, 1206, 1207, 1208, 1209, 1210, 1211, 1213, 1223, 1244, 1245, 83400, 83700, 83800, 86200, 86300] I I2 ∧ Fq L κ ow [1212] J J2 ∧ Rg (-2147483648) 2147483647 r ∧ (I2 x 10 = mBookF a0 (NVf R I J x) (NWf R I J x) (YTf R I J x) (MTf R I J x) (NRf R I J x)) ∧ (Hd_ R x I I2))) ([.ref x, .int a0] : List Value).toArray s 0 0 (Al_ L)) D cy (Al_ L) s.heap L κ ln R I_13 J_14 73 [(0, .ref x), (1, .int a0), (2, .int v_19), (3, .int v_20)] [] := by
    intro n_73
    induction n_73 with
    | zero =>
      intro I_13 J_14 hU_15 hF_16 hG_17 r_18 v_19 rv_19 v_20 rv_20 v_21 v_22 rv_22 v_23 rv_23 q_24 q_25 q_26 hd_27 ga_28 hq_29 zq_30 hm_31
      exact ms_0 rv_19 hm_31
    | succ n_73 ih_73 =>
      intro I_13 J_14 hU_15 hF_16 hG_17 r_18 v_19 rv_19 v_20 rv_20 v_21 v_22 rv_22 v_23 rv_23 q_24 q_25 q_26 hd_27 ga_28 hq_29 zq_30 hm_31
      obtain ⟨s_32, hs_32⟩ : ∃ z, NVq I_13 J_14 x b_4 = z := ⟨_, rfl⟩
      obtain ⟨s_33, hs_33⟩ : ∃ z, NWq I_13 J_14 x b_1 = z := ⟨_, rfl⟩
      obtain ⟨s_34, hs_34⟩ : ∃ z, YTq I_13 J_14 x = z := ⟨_, rfl⟩
      obtain ⟨s_35, hs_35⟩ : ∃ z, MTq I_13 J_14 x b_8 = z := ⟨_, rfl⟩
      obtain ⟨s_36, hs_36⟩ : ∃ z, NRq I_13 J_14 x b_10 b_11 = z := ⟨_, rfl⟩
      (try simp only [hs_32, hs_33, hs_34, hs_35, hs_36] at hq_29)
      refine g_iload_n C 2 dX12_book_73 rfl rfl ?_
      refine g_aload_n C 0 dX12_book_74 rfl rfl ?_
      refine g_getI C K hLx hkx f_12_361 (v := v_22) q_25 dX12_book_75 ?_
      refine g_icmp_ge C (tgt := 103) dX12_book_78 (by decide) (fun h_37 => ?_) (fun h_37 => ?_)
      · skip
        refine g_aload_n C 0 dX12_book_103 rfl rfl ?_
        refine g_getR C K hLx hkx f_12_76 hb_2 dX12_book_104 ?_
        refine g_iconst C (v := 0) dX12_book_107 (by decide) ?_
        refine g_iload_n C 3 dX12_book_108 rfl rfl ?_
        refine h_iast C K hb_2L hb_2k (0) (by decide) (by decide) (by rw [hb_2n]; decide) dX12_book_109 (fun I_38 hI_38 => ?_)
        have hU_39 := iw_put W9 hU_15 hI_38 (ro_a hb_2k (by decide) hb_2o hkx rfl) (lo := (-2147483648)) (hi := 2147483647) (rfl) (rg_all _) rfl
        have hF_40 := fq_puta hF_16 hI_38 (ro_a hb_2k (by decide) hb_2o hkx rfl) (by decide) (by decide)
        refine g_aload_n C 0 dX12_book_110 rfl rfl ?_
        refine g_getR C K hLx hkx f_12_76 hb_2 dX12_book_111 ?_
        refine g_iconst C (v := 1) dX12_book_114 (by decide) ?_
        refine g_iload_n C 2 dX12_book_115 rfl rfl ?_
        refine h_iast C K hb_2L hb_2k (1) (by decide) (by decide) (by rw [hb_2n]; decide) dX12_book_116 (fun I_41 hI_41 => ?_)
        have hU_42 := iw_put W9 hU_39 hI_41 (ro_a hb_2k (by decide) hb_2o hkx rfl) (lo := (-2147483648)) (hi := 2147483647) (rfl) (rg_all _) rfl
        have hF_43 := fq_puta hF_40 hI_41 (ro_a hb_2k (by decide) hb_2o hkx rfl) (by decide) (by decide)
        refine g_aload_n C 0 dX12_book_117 rfl rfl ?_
        refine g_getR C K hLx hkx f_12_76 hb_2 dX12_book_118 ?_
        refine g_iconst C (v := 2) dX12_book_121 (by decide) ?_
        refine g_aload_n C 0 dX12_book_122 rfl rfl ?_
        refine g_getR C K hLx hkx f_12_13 hb_1 dX12_book_123 ?_
        refine g_bipush C (v := 72) dX12_book_126 (by decide) ?_
        obtain ⟨x_44, hx_44, rx_44⟩ := ex_any (z0 := I_41 b_1 (72))
        refine h_iald C K hb_1L hb_1k (v := x_44) (72) (by decide) (by decide) (by rw [hb_1n]; decide) hx_44 dX12_book_128 ?_
        refine h_iast C K hb_2L hb_2k (2) (by decide) (by decide) (by rw [hb_2n]; decide) dX12_book_129 (fun I_45 hI_45 => ?_)
        have hU_46 := iw_put W9 hU_42 hI_45 (ro_a hb_2k (by decide) hb_2o hkx rfl) (lo := (-2147483648)) (hi := 2147483647) (rfl) (rx_44) rfl
        have hF_47 := fq_puta hF_43 hI_45 (ro_a hb_2k (by decide) hb_2o hkx rfl) (by decide) (by decide)
        refine g_aload_n C 0 dX12_book_130 rfl rfl ?_
        refine g_getR C K hLx hkx f_12_76 hb_2 dX12_book_131 ?_
        refine g_iconst C (v := 3) dX12_book_134 (by decide) ?_
        refine g_aload_n C 0 dX12_book_135 rfl rfl ?_
        refine g_getR C K hLx hkx f_12_13 hb_1 dX12_book_136 ?_
        refine g_bipush C (v := 73) dX12_book_139 (by decide) ?_
        obtain ⟨x_48, hx_48, rx_48⟩ := ex_any (z0 := I_45 b_1 (73))
        refine h_iald C K hb_1L hb_1k (v := x_48) (73) (by decide) (by decide) (by rw [hb_1n]; decide) hx_48 dX12_book_141 ?_
        refine h_iast C K hb_2L hb_2k (3) (by decide) (by decide) (by rw [hb_2n]; decide) dX12_book_142 (fun I_49 hI_49 => ?_)
        have hU_50 := iw_put W9 hU_46 hI_49 (ro_a hb_2k (by decide) hb_2o hkx rfl) (lo := (-2147483648)) (hi := 2147483647) (rfl) (rx_48) rfl
        have hF_51 := fq_puta hF_47 hI_49 (ro_a hb_2k (by decide) hb_2o hkx rfl) (by decide) (by decide)
        refine g_aload_n C 0 dX12_book_143 rfl rfl ?_
        refine g_iconst C (v := 1) dX12_book_144 (by decide) ?_
        refine h_putZ C K hLx hkx f_12_373 p_12_45 (rg_bool (rg_w rc_1 (by decide) (by decide))) dX12_book_145 (fun I_52 hI_52 => ?_)
        have hU_53 := iw_put W9 hU_50 hI_52 (ro_o hkx (by decide)) (lo := 0) (hi := 1) (rfl) (rg_w rc_1 (by decide) (by decide)) rfl
        have hF_54 := fq_puto hF_51 hI_52 hkx (by decide) (by decide)
        refine g_aload_n C 0 dX12_book_148 rfl rfl ?_
        refine g_iload_n C 1 dX12_book_149 rfl rfl ?_
        refine g_iconst C (v := 1) dX12_book_150 (by decide) ?_
        refine g_icmp_ne C (tgt := 162) dX12_book_151 (by decide) (fun h_55 => ?_) (fun h_55 => ?_)
        · skip
          have n_56 : ¬ a0 = 1 := h_55
          have r_57 := ne_hi (hi := 0) n_56 r_18 rc_1 rfl (by decide)
          refine g_iconst C (v := 0) dX12_book_162 (by decide) ?_
          refine g_callVV C K (c_X12_stay W9 hLx hkx 0 (rg_w rc_0 (by decide) (by decide)) hU_53  ((ga_u (r := 0) W9 hLx hkx (ga_u W9 hLx hkx (ga_u W9 hLx hkx (ga_u W9 hLx hkx (ga_u W9 hLx hkx ga_28 hI_38 (Or.inr (Or.inl ⟨(ro_a hb_2k (by decide) hb_2o hkx rfl), by decide, by decide⟩))) hI_41 (Or.inr (Or.inl ⟨(ro_a hb_2k (by decide) hb_2o hkx rfl), by decide, by decide⟩))) hI_45 (Or.inr (Or.inl ⟨(ro_a hb_2k (by decide) hb_2o hkx rfl), by decide, by decide⟩))) hI_49 (Or.inr (Or.inl ⟨(ro_a hb_2k (by decide) hb_2o hkx rfl), by decide, by decide⟩))) hI_52 (Or.inl (ro_o hkx (by decide)))))) hLx hkx (by decide) rfl v_12_376 rfl ⟨rfl, rfl⟩ ⟨Nat.le_of_ble_eq_true rfl, Nat.le_of_ble_eq_true rfl⟩ (Nat.le_of_ble_eq_true rfl) ⟨Nat.le_of_ble_eq_true rfl, Nat.le_of_ble_eq_true rfl⟩ dX12_book_163 rfl (st := []) (fun I_59 J_60 h_61 => ?_)
          obtain ⟨hUI_59, hFI_59, hGJ_60, ex_58⟩ := h_61
          have hF_62 := fq_tr hF_54 hFI_59 (by decide)
          have hG_63 := fq_tr hG_17 hGJ_60 (by decide)
          refine g_iload_n C 3 dX12_book_166 rfl rfl ?_
          refine g_if_ne C (tgt := 174) dX12_book_167 (by decide) (fun h_64 => ?_) (fun h_64 => ?_)
          · skip
            exact ne_no (h_64) rv_20 rc_0
          · skip
            refine g_iconst C (v := (-1)) dX12_book_170 (by decide) ?_
            refine g_goto C (tgt := 175) dX12_book_171 (by decide) ?_
            have q_65 := (fq_at hFI_59 hLx hkx (by decide) (by decide) (kp_j hI_52 (by decide) (kp_k (κ := κ) hI_49 (by rw [hkx, hb_2k]; decide) (kp_k (κ := κ) hI_45 (by rw [hkx, hb_2k]; decide) (kp_k (κ := κ) hI_41 (by rw [hkx, hb_2k]; decide) (kp_k (κ := κ) hI_38 (by rw [hkx, hb_2k]; decide) zq_30))))))
            exact g_zret (ty := .int) (r := (-1)) B K rfl (rfl) ⟨hUI_59, hF_62, hG_63, rg_all _, (Eq.trans q_65 hzf.symm), (hd_t (hd_u (r := 0) W9 hLx hkx (hd_u W9 hLx hkx (hd_u W9 hLx hkx (hd_u W9 hLx hkx (hd_u W9 hLx hkx hd_27 hI_38 (Or.inr (Or.inl ⟨(ro_a hb_2k (by decide) hb_2o hkx rfl), by decide⟩))) hI_41 (Or.inr (Or.inl ⟨(ro_a hb_2k (by decide) hb_2o hkx rfl), by decide⟩))) hI_45 (Or.inr (Or.inl ⟨(ro_a hb_2k (by decide) hb_2o hkx rfl), by decide⟩))) hI_49 (Or.inr (Or.inl ⟨(ro_a hb_2k (by decide) hb_2o hkx rfl), by decide⟩))) hI_52 (Or.inl (ro_o hkx (by decide)))) ex_58)⟩ dX12_book_175
        · skip
          have r_66 := (⟨(eq_rg (h_55) rc_1).1, (r_18).2⟩ : Rg 1 1 a0)
          refine g_iload_n C 2 dX12_book_154 rfl rfl ?_
          refine g_if_le C (tgt := 162) dX12_book_155 (by decide) (fun h_67 => ?_) (fun h_67 => ?_)
          · skip
            have r_68 := le_l (h_67) rv_19 rc_0
            refine g_iconst C (v := 0) dX12_book_162 (by decide) ?_
            refine g_callVV C K (c_X12_stay W9 hLx hkx 0 (rg_w rc_0 (by decide) (by decide)) hU_53  ((ga_u (r := 0) W9 hLx hkx (ga_u W9 hLx hkx (ga_u W9 hLx hkx (ga_u W9 hLx hkx (ga_u W9 hLx hkx ga_28 hI_38 (Or.inr (Or.inl ⟨(ro_a hb_2k (by decide) hb_2o hkx rfl), by decide, by decide⟩))) hI_41 (Or.inr (Or.inl ⟨(ro_a hb_2k (by decide) hb_2o hkx rfl), by decide, by decide⟩))) hI_45 (Or.inr (Or.inl ⟨(ro_a hb_2k (by decide) hb_2o hkx rfl), by decide, by decide⟩))) hI_49 (Or.inr (Or.inl ⟨(ro_a hb_2k (by decide) hb_2o hkx rfl), by decide, by decide⟩))) hI_52 (Or.inl (ro_o hkx (by decide)))))) hLx hkx (by decide) rfl v_12_376 rfl ⟨rfl, rfl⟩ ⟨Nat.le_of_ble_eq_true rfl, Nat.le_of_ble_eq_true rfl⟩ (Nat.le_of_ble_eq_true rfl) ⟨Nat.le_of_ble_eq_true rfl, Nat.le_of_ble_eq_true rfl⟩ dX12_book_163 rfl (st := []) (fun I_70 J_71 h_72 => ?_)
            obtain ⟨hUI_70, hFI_70, hGJ_71, ex_69⟩ := h_72
            have hF_73 := fq_tr hF_54 hFI_70 (by decide)
            have hG_74 := fq_tr hG_17 hGJ_71 (by decide)
            refine g_iload_n C 3 dX12_book_166 rfl rfl ?_
            refine g_if_ne C (tgt := 174) dX12_book_167 (by decide) (fun h_75 => ?_) (fun h_75 => ?_)
            · skip
              exact ne_no (h_75) rv_20 rc_0
            · skip
              refine g_iconst C (v := (-1)) dX12_book_170 (by decide) ?_
              refine g_goto C (tgt := 175) dX12_book_171 (by decide) ?_
              have q_76 := (fq_at hFI_70 hLx hkx (by decide) (by decide) (kp_j hI_52 (by decide) (kp_k (κ := κ) hI_49 (by rw [hkx, hb_2k]; decide) (kp_k (κ := κ) hI_45 (by rw [hkx, hb_2k]; decide) (kp_k (κ := κ) hI_41 (by rw [hkx, hb_2k]; decide) (kp_k (κ := κ) hI_38 (by rw [hkx, hb_2k]; decide) zq_30))))))
              exact g_zret (ty := .int) (r := (-1)) B K rfl (rfl) ⟨hUI_70, hF_73, hG_74, rg_all _, (Eq.trans q_76 hzf.symm), (hd_t (hd_u (r := 0) W9 hLx hkx (hd_u W9 hLx hkx (hd_u W9 hLx hkx (hd_u W9 hLx hkx (hd_u W9 hLx hkx hd_27 hI_38 (Or.inr (Or.inl ⟨(ro_a hb_2k (by decide) hb_2o hkx rfl), by decide⟩))) hI_41 (Or.inr (Or.inl ⟨(ro_a hb_2k (by decide) hb_2o hkx rfl), by decide⟩))) hI_45 (Or.inr (Or.inl ⟨(ro_a hb_2k (by decide) hb_2o hkx rfl), by decide⟩))) hI_49 (Or.inr (Or.inl ⟨(ro_a hb_2k (by decide) hb_2o hkx rfl), by decide⟩))) hI_52 (Or.inl (ro_o hkx (by decide)))) ex_69)⟩ dX12_book_175
          · skip
            have r_77 := lt_r (lo := 1) (nle h_67) rc_0 rv_19 (by decide)
            refine g_iconst C (v := 1) dX12_book_158 (by decide) ?_
            refine g_goto C (tgt := 163) dX12_book_159 (by decide) ?_
            refine g_callVV C K (c_X12_stay W9 hLx hkx 1 (rg_w rc_1 (by decide) (by decide)) hU_53  ((ga_u (r := 0) W9 hLx hkx (ga_u W9 hLx hkx (ga_u W9 hLx hkx (ga_u W9 hLx hkx (ga_u W9 hLx hkx ga_28 hI_38 (Or.inr (Or.inl ⟨(ro_a hb_2k (by decide) hb_2o hkx rfl), by decide, by decide⟩))) hI_41 (Or.inr (Or.inl ⟨(ro_a hb_2k (by decide) hb_2o hkx rfl), by decide, by decide⟩))) hI_45 (Or.inr (Or.inl ⟨(ro_a hb_2k (by decide) hb_2o hkx rfl), by decide, by decide⟩))) hI_49 (Or.inr (Or.inl ⟨(ro_a hb_2k (by decide) hb_2o hkx rfl), by decide, by decide⟩))) hI_52 (Or.inl (ro_o hkx (by decide)))))) hLx hkx (by decide) rfl v_12_376 rfl ⟨rfl, rfl⟩ ⟨Nat.le_of_ble_eq_true rfl, Nat.le_of_ble_eq_true rfl⟩ (Nat.le_of_ble_eq_true rfl) ⟨Nat.le_of_ble_eq_true rfl, Nat.le_of_ble_eq_true rfl⟩ dX12_book_163 rfl (st := []) (fun I_79 J_80 h_81 => ?_)
            obtain ⟨hUI_79, hFI_79, hGJ_80, ex_78⟩ := h_81
            have hF_82 := fq_tr hF_54 hFI_79 (by decide)
            have hG_83 := fq_tr hG_17 hGJ_80 (by decide)
            refine g_iload_n C 3 dX12_book_166 rfl rfl ?_
            refine g_if_ne C (tgt := 174) dX12_book_167 (by decide) (fun h_84 => ?_) (fun h_84 => ?_)
            · skip
              exact ne_no (h_84) rv_20 rc_0
            · skip
              refine g_iconst C (v := (-1)) dX12_book_170 (by decide) ?_
              refine g_goto C (tgt := 175) dX12_book_171 (by decide) ?_
              have q_85 := (fq_at hFI_79 hLx hkx (by decide) (by decide) (kp_j hI_52 (by decide) (kp_k (κ := κ) hI_49 (by rw [hkx, hb_2k]; decide) (kp_k (κ := κ) hI_45 (by rw [hkx, hb_2k]; decide) (kp_k (κ := κ) hI_41 (by rw [hkx, hb_2k]; decide) (kp_k (κ := κ) hI_38 (by rw [hkx, hb_2k]; decide) zq_30))))))
              exact g_zret (ty := .int) (r := (-1)) B K rfl (rfl) ⟨hUI_79, hF_82, hG_83, rg_all _, (Eq.trans q_85 hzf.symm), (hd_t (hd_u (r := 0) W9 hLx hkx (hd_u W9 hLx hkx (hd_u W9 hLx hkx (hd_u W9 hLx hkx (hd_u W9 hLx hkx hd_27 hI_38 (Or.inr (Or.inl ⟨(ro_a hb_2k (by decide) hb_2o hkx rfl), by decide⟩))) hI_41 (Or.inr (Or.inl ⟨(ro_a hb_2k (by decide) hb_2o hkx rfl), by decide⟩))) hI_45 (Or.inr (Or.inl ⟨(ro_a hb_2k (by decide) hb_2o hkx rfl), by decide⟩))) hI_49 (Or.inr (Or.inl ⟨(ro_a hb_2k (by decide) hb_2o hkx rfl), by decide⟩))) hI_52 (Or.inl (ro_o hkx (by decide)))) ex_78)⟩ dX12_book_175
      · skip
        have r_86 := lt_l (hi := 39) (nle h_37) rv_19 rv_22 (by decide)
        have r_87 := lt_r (lo := 1) (nle h_37) rv_19 rv_22 (by decide)
        refine g_iload_n C 3 dX12_book_81 rfl rfl ?_
        refine g_if_ne C (tgt := 103) dX12_book_82 (by decide) (fun h_88 => ?_) (fun h_88 => ?_)
        · skip
          exact ne_no (h_88) rv_20 rc_0
        · skip
          refine g_aload_n C 0 dX12_book_85 rfl rfl ?_
          refine g_iconst C (v := 4) dX12_book_86 (by decide) ?_
          refine g_iload_n C 2 dX12_book_87 rfl rfl ?_
          obtain ⟨x_89, hx_89, rx_89, tx_89⟩ := ex_mulT 0 156 rc_4 r_86 (by decide) (by decide) (by decide) (by decide) (by decide)
          refine g_imul C (v := x_89) dX12_book_88 hx_89 ?_
          refine g_callVI C K (c_X12_goBy W9 hLx hkx x_89 (rx_89) hU_15  ((md_m tx_89)) (fun rw hr => by rw [nx_m (k := 4) tx_89 r_86 (by decide)]; exact gm_ln W9 hU_15.2 hLx hkx hr (by rw [ix_n r_86 (by decide), q_25]; exact Int32.lt_iff_toInt_lt.mp (nle h_37)))) hLx hkx (by decide) rfl v_12_370 rfl ⟨rfl, rfl⟩ ⟨Nat.le_of_ble_eq_true rfl, Nat.le_of_ble_eq_true rfl⟩ (Nat.le_of_ble_eq_true rfl) ⟨Nat.le_of_ble_eq_true rfl, Nat.le_of_ble_eq_true rfl⟩ dX12_book_89 rfl (st := []) (fun x_90 I_91 J_92 h_93 => ?_)
          obtain ⟨hUI_91, hFI_91, hGJ_92, rx_90, ex_90⟩ := h_93
          have hF_94 := fq_tr hF_16 hFI_91 (by decide)
          have hG_95 := fq_tr hG_17 hGJ_92 (by decide)
          refine g_istore_n C dX12_book_92 rfl (by decide) (lo2 := [(3, .int x_90), (0, .ref x), (1, .int a0), (2, .int v_19)]) rfl ?_
          refine g_iload_n C 0 dX12_book_93 rfl rfl ?_
          refine g_if_ne C (tgt := 73) dX12_book_94 (by decide) (fun h_96 => ?_) (fun h_96 => ?_)
          · skip
            have n_97 : ¬ x_90 = 0 := h_96
            have r_98 := ne_lo (lo := 1) n_97 rx_90 rc_0 rfl (by decide)
            refine g_iload_n C 3 dX12_book_73 rfl rfl ?_
            refine g_aload_n C 1 dX12_book_74 rfl rfl ?_
            refine g_getI C K hLx hkx f_12_361 (v := v_22) (fq_at hFI_91 hLx hkx (by decide) (by decide) q_25) dX12_book_75 ?_
            refine g_icmp_ge C (tgt := 103) dX12_book_78 (by decide) (fun h_99 => ?_) (fun h_99 => ?_)
            · skip
              have r_100 := le_l (h_99) r_87 r_86
              have r_101 := le_r (h_99) r_87 r_86
              refine g_aload_n C 1 dX12_book_103 rfl rfl ?_
              refine g_getR C K hLx hkx f_12_76 hb_2 dX12_book_104 ?_
              refine g_iconst C (v := 0) dX12_book_107 (by decide) ?_
              refine g_iload_n C 0 dX12_book_108 rfl rfl ?_
              refine h_iast C K hb_2L hb_2k (0) (by decide) (by decide) (by rw [hb_2n]; decide) dX12_book_109 (fun I_102 hI_102 => ?_)
              have hU_103 := iw_put W9 hUI_91 hI_102 (ro_a hb_2k (by decide) hb_2o hkx rfl) (lo := (-2147483648)) (hi := 2147483647) (rfl) (rg_all _) rfl
              have hF_104 := fq_puta hF_94 hI_102 (ro_a hb_2k (by decide) hb_2o hkx rfl) (by decide) (by decide)
              refine g_aload_n C 1 dX12_book_110 rfl rfl ?_
              refine g_getR C K hLx hkx f_12_76 hb_2 dX12_book_111 ?_
              refine g_iconst C (v := 1) dX12_book_114 (by decide) ?_
              refine g_iload_n C 3 dX12_book_115 rfl rfl ?_
              refine h_iast C K hb_2L hb_2k (1) (by decide) (by decide) (by rw [hb_2n]; decide) dX12_book_116 (fun I_105 hI_105 => ?_)
              have hU_106 := iw_put W9 hU_103 hI_105 (ro_a hb_2k (by decide) hb_2o hkx rfl) (lo := (-2147483648)) (hi := 2147483647) (rfl) (rg_all _) rfl
              have hF_107 := fq_puta hF_104 hI_105 (ro_a hb_2k (by decide) hb_2o hkx rfl) (by decide) (by decide)
              refine g_aload_n C 1 dX12_book_117 rfl rfl ?_
              refine g_getR C K hLx hkx f_12_76 hb_2 dX12_book_118 ?_
              refine g_iconst C (v := 2) dX12_book_121 (by decide) ?_
              refine g_aload_n C 1 dX12_book_122 rfl rfl ?_
              refine g_getR C K hLx hkx f_12_13 hb_1 dX12_book_123 ?_
              refine g_bipush C (v := 72) dX12_book_126 (by decide) ?_
              obtain ⟨x_108, hx_108, rx_108⟩ := ex_any (z0 := I_105 b_1 (72))
              refine h_iald C K hb_1L hb_1k (v := x_108) (72) (by decide) (by decide) (by rw [hb_1n]; decide) hx_108 dX12_book_128 ?_
              refine h_iast C K hb_2L hb_2k (2) (by decide) (by decide) (by rw [hb_2n]; decide) dX12_book_129 (fun I_109 hI_109 => ?_)
              have hU_110 := iw_put W9 hU_106 hI_109 (ro_a hb_2k (by decide) hb_2o hkx rfl) (lo := (-2147483648)) (hi := 2147483647) (rfl) (rx_108) rfl
              have hF_111 := fq_puta hF_107 hI_109 (ro_a hb_2k (by decide) hb_2o hkx rfl) (by decide) (by decide)
              refine g_aload_n C 1 dX12_book_130 rfl rfl ?_
              refine g_getR C K hLx hkx f_12_76 hb_2 dX12_book_131 ?_
              refine g_iconst C (v := 3) dX12_book_134 (by decide) ?_
              refine g_aload_n C 1 dX12_book_135 rfl rfl ?_
              refine g_getR C K hLx hkx f_12_13 hb_1 dX12_book_136 ?_
              refine g_bipush C (v := 73) dX12_book_139 (by decide) ?_
              obtain ⟨x_112, hx_112, rx_112⟩ := ex_any (z0 := I_109 b_1 (73))
              refine h_iald C K hb_1L hb_1k (v := x_112) (73) (by decide) (by decide) (by rw [hb_1n]; decide) hx_112 dX12_book_141 ?_
              refine h_iast C K hb_2L hb_2k (3) (by decide) (by decide) (by rw [hb_2n]; decide) dX12_book_142 (fun I_113 hI_113 => ?_)
              have hU_114 := iw_put W9 hU_110 hI_113 (ro_a hb_2k (by decide) hb_2o hkx rfl) (lo := (-2147483648)) (hi := 2147483647) (rfl) (rx_112) rfl
              have hF_115 := fq_puta hF_111 hI_113 (ro_a hb_2k (by decide) hb_2o hkx rfl) (by decide) (by decide)
              refine g_aload_n C 1 dX12_book_143 rfl rfl ?_
              refine g_iconst C (v := 1) dX12_book_144 (by decide) ?_
              refine h_putZ C K hLx hkx f_12_373 p_12_45 (rg_bool (rg_w rc_1 (by decide) (by decide))) dX12_book_145 (fun I_116 hI_116 => ?_)
              have hU_117 := iw_put W9 hU_114 hI_116 (ro_o hkx (by decide)) (lo := 0) (hi := 1) (rfl) (rg_w rc_1 (by decide) (by decide)) rfl
              have hF_118 := fq_puto hF_115 hI_116 hkx (by decide) (by decide)
              refine g_aload_n C 1 dX12_book_148 rfl rfl ?_
              refine g_iload_n C 2 dX12_book_149 rfl rfl ?_
              refine g_iconst C (v := 1) dX12_book_150 (by decide) ?_
              refine g_icmp_ne C (tgt := 162) dX12_book_151 (by decide) (fun h_119 => ?_) (fun h_119 => ?_)
              · skip
                have n_120 : ¬ a0 = 1 := h_119
                have r_121 := ne_hi (hi := 0) n_120 r_18 rc_1 rfl (by decide)
                refine g_iconst C (v := 0) dX12_book_162 (by decide) ?_
                refine g_callVV C K (c_X12_stay W9 hLx hkx 0 (rg_w rc_0 (by decide) (by decide)) hU_117  ((ga_u (r := 0) W9 hLx hkx (ga_u W9 hLx hkx (ga_u W9 hLx hkx (ga_u W9 hLx hkx (ga_u W9 hLx hkx (ga_mv W9 hLx hkx ga_28 ex_90 hFI_91 (by decide)) hI_102 (Or.inr (Or.inl ⟨(ro_a hb_2k (by decide) hb_2o hkx rfl), by decide, by decide⟩))) hI_105 (Or.inr (Or.inl ⟨(ro_a hb_2k (by decide) hb_2o hkx rfl), by decide, by decide⟩))) hI_109 (Or.inr (Or.inl ⟨(ro_a hb_2k (by decide) hb_2o hkx rfl), by decide, by decide⟩))) hI_113 (Or.inr (Or.inl ⟨(ro_a hb_2k (by decide) hb_2o hkx rfl), by decide, by decide⟩))) hI_116 (Or.inl (ro_o hkx (by decide)))))) hLx hkx (by decide) rfl v_12_376 rfl ⟨rfl, rfl⟩ ⟨Nat.le_of_ble_eq_true rfl, Nat.le_of_ble_eq_true rfl⟩ (Nat.le_of_ble_eq_true rfl) ⟨Nat.le_of_ble_eq_true rfl, Nat.le_of_ble_eq_true rfl⟩ dX12_book_163 rfl (st := []) (fun I_123 J_124 h_125 => ?_)
                obtain ⟨hUI_123, hFI_123, hGJ_124, ex_122⟩ := h_125
                have hF_126 := fq_tr hF_118 hFI_123 (by decide)
                have hG_127 := fq_tr hG_95 hGJ_124 (by decide)
                refine g_iload_n C 0 dX12_book_166 rfl rfl ?_
                refine g_if_ne C (tgt := 174) dX12_book_167 (by decide) (fun h_128 => ?_) (fun h_128 => ?_)
                · skip
                  have n_129 : ¬ x_90 = 0 := h_128
                  refine g_iload_n C 3 dX12_book_174 rfl rfl ?_
                  have q_130 := (fq_at hFI_123 hLx hkx (by decide) (by decide) (kp_j hI_116 (by decide) (kp_k (κ := κ) hI_113 (by rw [hkx, hb_2k]; decide) (kp_k (κ := κ) hI_109 (by rw [hkx, hb_2k]; decide) (kp_k (κ := κ) hI_105 (by rw [hkx, hb_2k]; decide) (kp_k (κ := κ) hI_102 (by rw [hkx, hb_2k]; decide) (fq_at hFI_91 hLx hkx (by decide) (by decide) zq_30)))))))
                  exact g_zret (ty := .int) (r := v_19) B K rfl (rfl) ⟨hUI_123, hF_126, hG_127, rg_all _, (Eq.trans q_130 hzf.symm), (hd_t (hd_u (r := 0) W9 hLx hkx (hd_u W9 hLx hkx (hd_u W9 hLx hkx (hd_u W9 hLx hkx (hd_u W9 hLx hkx (hd_t hd_27 ex_90) hI_102 (Or.inr (Or.inl ⟨(ro_a hb_2k (by decide) hb_2o hkx rfl), by decide⟩))) hI_105 (Or.inr (Or.inl ⟨(ro_a hb_2k (by decide) hb_2o hkx rfl), by decide⟩))) hI_109 (Or.inr (Or.inl ⟨(ro_a hb_2k (by decide) hb_2o hkx rfl), by decide⟩))) hI_113 (Or.inr (Or.inl ⟨(ro_a hb_2k (by decide) hb_2o hkx rfl), by decide⟩))) hI_116 (Or.inl (ro_o hkx (by decide)))) ex_122)⟩ dX12_book_175
                · skip
                  exact eq_no (h_128) r_98 rc_0 (by decide)
              · skip
                have r_131 := (⟨(eq_rg (h_119) rc_1).1, (r_18).2⟩ : Rg 1 1 a0)
                refine g_iload_n C 3 dX12_book_154 rfl rfl ?_
                refine g_if_le C (tgt := 162) dX12_book_155 (by decide) (fun h_132 => ?_) (fun h_132 => ?_)
                · skip
                  have r_133 := le_l (h_132) r_101 rc_0
                  exact rg_no r_133 (by decide)
                · skip
                  refine g_iconst C (v := 1) dX12_book_158 (by decide) ?_
                  refine g_goto C (tgt := 163) dX12_book_159 (by decide) ?_
                  refine g_callVV C K (c_X12_stay W9 hLx hkx 1 (rg_w rc_1 (by decide) (by decide)) hU_117  ((ga_u (r := 0) W9 hLx hkx (ga_u W9 hLx hkx (ga_u W9 hLx hkx (ga_u W9 hLx hkx (ga_u W9 hLx hkx (ga_mv W9 hLx hkx ga_28 ex_90 hFI_91 (by decide)) hI_102 (Or.inr (Or.inl ⟨(ro_a hb_2k (by decide) hb_2o hkx rfl), by decide, by decide⟩))) hI_105 (Or.inr (Or.inl ⟨(ro_a hb_2k (by decide) hb_2o hkx rfl), by decide, by decide⟩))) hI_109 (Or.inr (Or.inl ⟨(ro_a hb_2k (by decide) hb_2o hkx rfl), by decide, by decide⟩))) hI_113 (Or.inr (Or.inl ⟨(ro_a hb_2k (by decide) hb_2o hkx rfl), by decide, by decide⟩))) hI_116 (Or.inl (ro_o hkx (by decide)))))) hLx hkx (by decide) rfl v_12_376 rfl ⟨rfl, rfl⟩ ⟨Nat.le_of_ble_eq_true rfl, Nat.le_of_ble_eq_true rfl⟩ (Nat.le_of_ble_eq_true rfl) ⟨Nat.le_of_ble_eq_true rfl, Nat.le_of_ble_eq_true rfl⟩ dX12_book_163 rfl (st := []) (fun I_135 J_136 h_137 => ?_)
                  obtain ⟨hUI_135, hFI_135, hGJ_136, ex_134⟩ := h_137
                  have hF_138 := fq_tr hF_118 hFI_135 (by decide)
                  have hG_139 := fq_tr hG_95 hGJ_136 (by decide)
                  refine g_iload_n C 0 dX12_book_166 rfl rfl ?_
                  refine g_if_ne C (tgt := 174) dX12_book_167 (by decide) (fun h_140 => ?_) (fun h_140 => ?_)
                  · skip
                    have n_141 : ¬ x_90 = 0 := h_140
                    refine g_iload_n C 3 dX12_book_174 rfl rfl ?_
                    have q_142 := (fq_at hFI_135 hLx hkx (by decide) (by decide) (kp_j hI_116 (by decide) (kp_k (κ := κ) hI_113 (by rw [hkx, hb_2k]; decide) (kp_k (κ := κ) hI_109 (by rw [hkx, hb_2k]; decide) (kp_k (κ := κ) hI_105 (by rw [hkx, hb_2k]; decide) (kp_k (κ := κ) hI_102 (by rw [hkx, hb_2k]; decide) (fq_at hFI_91 hLx hkx (by decide) (by decide) zq_30)))))))
                    exact g_zret (ty := .int) (r := v_19) B K rfl (rfl) ⟨hUI_135, hF_138, hG_139, rg_all _, (Eq.trans q_142 hzf.symm), (hd_t (hd_u (r := 0) W9 hLx hkx (hd_u W9 hLx hkx (hd_u W9 hLx hkx (hd_u W9 hLx hkx (hd_u W9 hLx hkx (hd_t hd_27 ex_90) hI_102 (Or.inr (Or.inl ⟨(ro_a hb_2k (by decide) hb_2o hkx rfl), by decide⟩))) hI_105 (Or.inr (Or.inl ⟨(ro_a hb_2k (by decide) hb_2o hkx rfl), by decide⟩))) hI_109 (Or.inr (Or.inl ⟨(ro_a hb_2k (by decide) hb_2o hkx rfl), by decide⟩))) hI_113 (Or.inr (Or.inl ⟨(ro_a hb_2k (by decide) hb_2o hkx rfl), by decide⟩))) hI_116 (Or.inl (ro_o hkx (by decide)))) ex_134)⟩ dX12_book_175
                  · skip
                    exact eq_no (h_140) r_98 rc_0 (by decide)
            · skip
              refine g_iload_n C 0 dX12_book_81 rfl rfl ?_
              refine g_if_ne C (tgt := 103) dX12_book_82 (by decide) (fun h_143 => ?_) (fun h_143 => ?_)
              · skip
                have n_144 : ¬ x_90 = 0 := h_143
                refine g_aload_n C 1 dX12_book_103 rfl rfl ?_
                refine g_getR C K hLx hkx f_12_76 hb_2 dX12_book_104 ?_
                refine g_iconst C (v := 0) dX12_book_107 (by decide) ?_
                refine g_iload_n C 0 dX12_book_108 rfl rfl ?_
                refine h_iast C K hb_2L hb_2k (0) (by decide) (by decide) (by rw [hb_2n]; decide) dX12_book_109 (fun I_145 hI_145 => ?_)
                have hU_146 := iw_put W9 hUI_91 hI_145 (ro_a hb_2k (by decide) hb_2o hkx rfl) (lo := (-2147483648)) (hi := 2147483647) (rfl) (rg_all _) rfl
                have hF_147 := fq_puta hF_94 hI_145 (ro_a hb_2k (by decide) hb_2o hkx rfl) (by decide) (by decide)
                refine g_aload_n C 1 dX12_book_110 rfl rfl ?_
                refine g_getR C K hLx hkx f_12_76 hb_2 dX12_book_111 ?_
                refine g_iconst C (v := 1) dX12_book_114 (by decide) ?_
                refine g_iload_n C 3 dX12_book_115 rfl rfl ?_
                refine h_iast C K hb_2L hb_2k (1) (by decide) (by decide) (by rw [hb_2n]; decide) dX12_book_116 (fun I_148 hI_148 => ?_)
                have hU_149 := iw_put W9 hU_146 hI_148 (ro_a hb_2k (by decide) hb_2o hkx rfl) (lo := (-2147483648)) (hi := 2147483647) (rfl) (rg_all _) rfl
                have hF_150 := fq_puta hF_147 hI_148 (ro_a hb_2k (by decide) hb_2o hkx rfl) (by decide) (by decide)
                refine g_aload_n C 1 dX12_book_117 rfl rfl ?_
                refine g_getR C K hLx hkx f_12_76 hb_2 dX12_book_118 ?_
                refine g_iconst C (v := 2) dX12_book_121 (by decide) ?_
                refine g_aload_n C 1 dX12_book_122 rfl rfl ?_
                refine g_getR C K hLx hkx f_12_13 hb_1 dX12_book_123 ?_
                refine g_bipush C (v := 72) dX12_book_126 (by decide) ?_
                obtain ⟨x_151, hx_151, rx_151⟩ := ex_any (z0 := I_148 b_1 (72))
                refine h_iald C K hb_1L hb_1k (v := x_151) (72) (by decide) (by decide) (by rw [hb_1n]; decide) hx_151 dX12_book_128 ?_
                refine h_iast C K hb_2L hb_2k (2) (by decide) (by decide) (by rw [hb_2n]; decide) dX12_book_129 (fun I_152 hI_152 => ?_)
                have hU_153 := iw_put W9 hU_149 hI_152 (ro_a hb_2k (by decide) hb_2o hkx rfl) (lo := (-2147483648)) (hi := 2147483647) (rfl) (rx_151) rfl
                have hF_154 := fq_puta hF_150 hI_152 (ro_a hb_2k (by decide) hb_2o hkx rfl) (by decide) (by decide)
                refine g_aload_n C 1 dX12_book_130 rfl rfl ?_
                refine g_getR C K hLx hkx f_12_76 hb_2 dX12_book_131 ?_
                refine g_iconst C (v := 3) dX12_book_134 (by decide) ?_
                refine g_aload_n C 1 dX12_book_135 rfl rfl ?_
                refine g_getR C K hLx hkx f_12_13 hb_1 dX12_book_136 ?_
                refine g_bipush C (v := 73) dX12_book_139 (by decide) ?_
                obtain ⟨x_155, hx_155, rx_155⟩ := ex_any (z0 := I_152 b_1 (73))
                refine h_iald C K hb_1L hb_1k (v := x_155) (73) (by decide) (by decide) (by rw [hb_1n]; decide) hx_155 dX12_book_141 ?_
                refine h_iast C K hb_2L hb_2k (3) (by decide) (by decide) (by rw [hb_2n]; decide) dX12_book_142 (fun I_156 hI_156 => ?_)
                have hU_157 := iw_put W9 hU_153 hI_156 (ro_a hb_2k (by decide) hb_2o hkx rfl) (lo := (-2147483648)) (hi := 2147483647) (rfl) (rx_155) rfl
                have hF_158 := fq_puta hF_154 hI_156 (ro_a hb_2k (by decide) hb_2o hkx rfl) (by decide) (by decide)
                refine g_aload_n C 1 dX12_book_143 rfl rfl ?_
                refine g_iconst C (v := 1) dX12_book_144 (by decide) ?_
                refine h_putZ C K hLx hkx f_12_373 p_12_45 (rg_bool (rg_w rc_1 (by decide) (by decide))) dX12_book_145 (fun I_159 hI_159 => ?_)
                have hU_160 := iw_put W9 hU_157 hI_159 (ro_o hkx (by decide)) (lo := 0) (hi := 1) (rfl) (rg_w rc_1 (by decide) (by decide)) rfl
                have hF_161 := fq_puto hF_158 hI_159 hkx (by decide) (by decide)
                refine g_aload_n C 1 dX12_book_148 rfl rfl ?_
                refine g_iload_n C 2 dX12_book_149 rfl rfl ?_
                refine g_iconst C (v := 1) dX12_book_150 (by decide) ?_
                refine g_icmp_ne C (tgt := 162) dX12_book_151 (by decide) (fun h_162 => ?_) (fun h_162 => ?_)
                · skip
                  have n_163 : ¬ a0 = 1 := h_162
                  have r_164 := ne_hi (hi := 0) n_163 r_18 rc_1 rfl (by decide)
                  refine g_iconst C (v := 0) dX12_book_162 (by decide) ?_
                  refine g_callVV C K (c_X12_stay W9 hLx hkx 0 (rg_w rc_0 (by decide) (by decide)) hU_160  ((ga_u (r := 0) W9 hLx hkx (ga_u W9 hLx hkx (ga_u W9 hLx hkx (ga_u W9 hLx hkx (ga_u W9 hLx hkx (ga_mv W9 hLx hkx ga_28 ex_90 hFI_91 (by decide)) hI_145 (Or.inr (Or.inl ⟨(ro_a hb_2k (by decide) hb_2o hkx rfl), by decide, by decide⟩))) hI_148 (Or.inr (Or.inl ⟨(ro_a hb_2k (by decide) hb_2o hkx rfl), by decide, by decide⟩))) hI_152 (Or.inr (Or.inl ⟨(ro_a hb_2k (by decide) hb_2o hkx rfl), by decide, by decide⟩))) hI_156 (Or.inr (Or.inl ⟨(ro_a hb_2k (by decide) hb_2o hkx rfl), by decide, by decide⟩))) hI_159 (Or.inl (ro_o hkx (by decide)))))) hLx hkx (by decide) rfl v_12_376 rfl ⟨rfl, rfl⟩ ⟨Nat.le_of_ble_eq_true rfl, Nat.le_of_ble_eq_true rfl⟩ (Nat.le_of_ble_eq_true rfl) ⟨Nat.le_of_ble_eq_true rfl, Nat.le_of_ble_eq_true rfl⟩ dX12_book_163 rfl (st := []) (fun I_166 J_167 h_168 => ?_)
                  obtain ⟨hUI_166, hFI_166, hGJ_167, ex_165⟩ := h_168
                  have hF_169 := fq_tr hF_161 hFI_166 (by decide)
                  have hG_170 := fq_tr hG_95 hGJ_167 (by decide)
                  refine g_iload_n C 0 dX12_book_166 rfl rfl ?_
                  refine g_if_ne C (tgt := 174) dX12_book_167 (by decide) (fun h_171 => ?_) (fun h_171 => ?_)
                  · skip
                    have n_172 : ¬ x_90 = 0 := h_171
                    refine g_iload_n C 3 dX12_book_174 rfl rfl ?_
                    have q_173 := (fq_at hFI_166 hLx hkx (by decide) (by decide) (kp_j hI_159 (by decide) (kp_k (κ := κ) hI_156 (by rw [hkx, hb_2k]; decide) (kp_k (κ := κ) hI_152 (by rw [hkx, hb_2k]; decide) (kp_k (κ := κ) hI_148 (by rw [hkx, hb_2k]; decide) (kp_k (κ := κ) hI_145 (by rw [hkx, hb_2k]; decide) (fq_at hFI_91 hLx hkx (by decide) (by decide) zq_30)))))))
                    exact g_zret (ty := .int) (r := v_19) B K rfl (rfl) ⟨hUI_166, hF_169, hG_170, rg_all _, (Eq.trans q_173 hzf.symm), (hd_t (hd_u (r := 0) W9 hLx hkx (hd_u W9 hLx hkx (hd_u W9 hLx hkx (hd_u W9 hLx hkx (hd_u W9 hLx hkx (hd_t hd_27 ex_90) hI_145 (Or.inr (Or.inl ⟨(ro_a hb_2k (by decide) hb_2o hkx rfl), by decide⟩))) hI_148 (Or.inr (Or.inl ⟨(ro_a hb_2k (by decide) hb_2o hkx rfl), by decide⟩))) hI_152 (Or.inr (Or.inl ⟨(ro_a hb_2k (by decide) hb_2o hkx rfl), by decide⟩))) hI_156 (Or.inr (Or.inl ⟨(ro_a hb_2k (by decide) hb_2o hkx rfl), by decide⟩))) hI_159 (Or.inl (ro_o hkx (by decide)))) ex_165)⟩ dX12_book_175
                  · skip
                    exact eq_no (h_171) r_98 rc_0 (by decide)
                · skip
                  have r_174 := (⟨(eq_rg (h_162) rc_1).1, (r_18).2⟩ : Rg 1 1 a0)
                  refine g_iload_n C 3 dX12_book_154 rfl rfl ?_
                  refine g_if_le C (tgt := 162) dX12_book_155 (by decide) (fun h_175 => ?_) (fun h_175 => ?_)
                  · skip
                    have r_176 := le_l (h_175) r_86 rc_0
                    refine g_iconst C (v := 0) dX12_book_162 (by decide) ?_
                    refine g_callVV C K (c_X12_stay W9 hLx hkx 0 (rg_w rc_0 (by decide) (by decide)) hU_160  ((ga_u (r := 0) W9 hLx hkx (ga_u W9 hLx hkx (ga_u W9 hLx hkx (ga_u W9 hLx hkx (ga_u W9 hLx hkx (ga_mv W9 hLx hkx ga_28 ex_90 hFI_91 (by decide)) hI_145 (Or.inr (Or.inl ⟨(ro_a hb_2k (by decide) hb_2o hkx rfl), by decide, by decide⟩))) hI_148 (Or.inr (Or.inl ⟨(ro_a hb_2k (by decide) hb_2o hkx rfl), by decide, by decide⟩))) hI_152 (Or.inr (Or.inl ⟨(ro_a hb_2k (by decide) hb_2o hkx rfl), by decide, by decide⟩))) hI_156 (Or.inr (Or.inl ⟨(ro_a hb_2k (by decide) hb_2o hkx rfl), by decide, by decide⟩))) hI_159 (Or.inl (ro_o hkx (by decide)))))) hLx hkx (by decide) rfl v_12_376 rfl ⟨rfl, rfl⟩ ⟨Nat.le_of_ble_eq_true rfl, Nat.le_of_ble_eq_true rfl⟩ (Nat.le_of_ble_eq_true rfl) ⟨Nat.le_of_ble_eq_true rfl, Nat.le_of_ble_eq_true rfl⟩ dX12_book_163 rfl (st := []) (fun I_178 J_179 h_180 => ?_)
                    obtain ⟨hUI_178, hFI_178, hGJ_179, ex_177⟩ := h_180
                    have hF_181 := fq_tr hF_161 hFI_178 (by decide)
                    have hG_182 := fq_tr hG_95 hGJ_179 (by decide)
                    refine g_iload_n C 0 dX12_book_166 rfl rfl ?_
                    refine g_if_ne C (tgt := 174) dX12_book_167 (by decide) (fun h_183 => ?_) (fun h_183 => ?_)
                    · skip
                      have n_184 : ¬ x_90 = 0 := h_183
                      refine g_iload_n C 3 dX12_book_174 rfl rfl ?_
                      have q_185 := (fq_at hFI_178 hLx hkx (by decide) (by decide) (kp_j hI_159 (by decide) (kp_k (κ := κ) hI_156 (by rw [hkx, hb_2k]; decide) (kp_k (κ := κ) hI_152 (by rw [hkx, hb_2k]; decide) (kp_k (κ := κ) hI_148 (by rw [hkx, hb_2k]; decide) (kp_k (κ := κ) hI_145 (by rw [hkx, hb_2k]; decide) (fq_at hFI_91 hLx hkx (by decide) (by decide) zq_30)))))))
                      exact g_zret (ty := .int) (r := v_19) B K rfl (rfl) ⟨hUI_178, hF_181, hG_182, rg_all _, (Eq.trans q_185 hzf.symm), (hd_t (hd_u (r := 0) W9 hLx hkx (hd_u W9 hLx hkx (hd_u W9 hLx hkx (hd_u W9 hLx hkx (hd_u W9 hLx hkx (hd_t hd_27 ex_90) hI_145 (Or.inr (Or.inl ⟨(ro_a hb_2k (by decide) hb_2o hkx rfl), by decide⟩))) hI_148 (Or.inr (Or.inl ⟨(ro_a hb_2k (by decide) hb_2o hkx rfl), by decide⟩))) hI_152 (Or.inr (Or.inl ⟨(ro_a hb_2k (by decide) hb_2o hkx rfl), by decide⟩))) hI_156 (Or.inr (Or.inl ⟨(ro_a hb_2k (by decide) hb_2o hkx rfl), by decide⟩))) hI_159 (Or.inl (ro_o hkx (by decide)))) ex_177)⟩ dX12_book_175
                    · skip
                      exact eq_no (h_183) r_98 rc_0 (by decide)
                  · skip
                    have r_186 := lt_r (lo := 1) (nle h_175) rc_0 r_86 (by decide)
                    refine g_iconst C (v := 1) dX12_book_158 (by decide) ?_
                    refine g_goto C (tgt := 163) dX12_book_159 (by decide) ?_
                    refine g_callVV C K (c_X12_stay W9 hLx hkx 1 (rg_w rc_1 (by decide) (by decide)) hU_160  ((ga_u (r := 0) W9 hLx hkx (ga_u W9 hLx hkx (ga_u W9 hLx hkx (ga_u W9 hLx hkx (ga_u W9 hLx hkx (ga_mv W9 hLx hkx ga_28 ex_90 hFI_91 (by decide)) hI_145 (Or.inr (Or.inl ⟨(ro_a hb_2k (by decide) hb_2o hkx rfl), by decide, by decide⟩))) hI_148 (Or.inr (Or.inl ⟨(ro_a hb_2k (by decide) hb_2o hkx rfl), by decide, by decide⟩))) hI_152 (Or.inr (Or.inl ⟨(ro_a hb_2k (by decide) hb_2o hkx rfl), by decide, by decide⟩))) hI_156 (Or.inr (Or.inl ⟨(ro_a hb_2k (by decide) hb_2o hkx rfl), by decide, by decide⟩))) hI_159 (Or.inl (ro_o hkx (by decide)))))) hLx hkx (by decide) rfl v_12_376 rfl ⟨rfl, rfl⟩ ⟨Nat.le_of_ble_eq_true rfl, Nat.le_of_ble_eq_true rfl⟩ (Nat.le_of_ble_eq_true rfl) ⟨Nat.le_of_ble_eq_true rfl, Nat.le_of_ble_eq_true rfl⟩ dX12_book_163 rfl (st := []) (fun I_188 J_189 h_190 => ?_)
                    obtain ⟨hUI_188, hFI_188, hGJ_189, ex_187⟩ := h_190
                    have hF_191 := fq_tr hF_161 hFI_188 (by decide)
                    have hG_192 := fq_tr hG_95 hGJ_189 (by decide)
                    refine g_iload_n C 0 dX12_book_166 rfl rfl ?_
                    refine g_if_ne C (tgt := 174) dX12_book_167 (by decide) (fun h_193 => ?_) (fun h_193 => ?_)
                    · skip
                      have n_194 : ¬ x_90 = 0 := h_193
                      refine g_iload_n C 3 dX12_book_174 rfl rfl ?_
                      have q_195 := (fq_at hFI_188 hLx hkx (by decide) (by decide) (kp_j hI_159 (by decide) (kp_k (κ := κ) hI_156 (by rw [hkx, hb_2k]; decide) (kp_k (κ := κ) hI_152 (by rw [hkx, hb_2k]; decide) (kp_k (κ := κ) hI_148 (by rw [hkx, hb_2k]; decide) (kp_k (κ := κ) hI_145 (by rw [hkx, hb_2k]; decide) (fq_at hFI_91 hLx hkx (by decide) (by decide) zq_30)))))))
                      exact g_zret (ty := .int) (r := v_19) B K rfl (rfl) ⟨hUI_188, hF_191, hG_192, rg_all _, (Eq.trans q_195 hzf.symm), (hd_t (hd_u (r := 0) W9 hLx hkx (hd_u W9 hLx hkx (hd_u W9 hLx hkx (hd_u W9 hLx hkx (hd_u W9 hLx hkx (hd_t hd_27 ex_90) hI_145 (Or.inr (Or.inl ⟨(ro_a hb_2k (by decide) hb_2o hkx rfl), by decide⟩))) hI_148 (Or.inr (Or.inl ⟨(ro_a hb_2k (by decide) hb_2o hkx rfl), by decide⟩))) hI_152 (Or.inr (Or.inl ⟨(ro_a hb_2k (by decide) hb_2o hkx rfl), by decide⟩))) hI_156 (Or.inr (Or.inl ⟨(ro_a hb_2k (by decide) hb_2o hkx rfl), by decide⟩))) hI_159 (Or.inl (ro_o hkx (by decide)))) ex_187)⟩ dX12_book_175
                    · skip
                      exact eq_no (h_193) r_98 rc_0 (by decide)
              · skip
                exact eq_no (h_143) r_98 rc_0 (by decide)
          · skip
            have r_196 := (⟨(rx_90).1, (eq_rg (h_96) rc_0).2⟩ : Rg 0 0 x_90)
            obtain ⟨x_197, hx_197, rx_197, tx_197⟩ := ex_add (y := 1) 1 40 r_86 rc_1 (by decide) (by decide) (by decide) (by decide)
            refine g_iinc C dX12_book_97 (k := 3) (v := x_197) rfl hx_197 (by decide) (lo2 := [(2, .int x_197), (3, .int x_90), (0, .ref x), (1, .int a0)]) rfl ?_
            refine g_goto C (tgt := 73) dX12_book_100 (by decide) ?_
            refine g_lo (is := [2, 3, 0, 1]) (lo2 := [(0, .ref x), (1, .int a0), (2, .int x_197), (3, .int x_90)]) rfl ?_
            exact ih_73 I_91 J_92 hUI_91 hF_94 hG_95 (r_18) x_197 (rg_w rx_197 (by decide) (by decide)) x_90 (r_196) zf v_22 (rg_w r_87 (by decide) (by decide)) v_23 (rv_23) (fq_at hFI_91 hLx hkx (by decide) (by decide) zq_30) (fq_at hFI_91 hLx hkx (by decide) (by decide) q_25) (fq_at hFI_91 hLx hkx (by decide) (by decide) q_26) (hd_t hd_27 ex_90) (ga_mv W9 hLx hkx ga_28 ex_90 hFI_91 (by decide)) (by simp only [evqx, hs_5, ezqx, hs_6, euqx, hs_7, emqx, hs_9, enqx, hs_12, h_37, (nle h_37), (eq_true h_88), hx_89, (eq_true h_96), hx_197, if_true, if_false, mqM_tp, mqM_size, mqM_limit, mqM_to, mqM_frm, mqM_kind, mqM_number, mqM_sign, mqM_word, MT_.w_tp, MT_.w_size, MT_.w_limit, MT_.w_to, MT_.w_frm, MT_.w_kind, MT_.w_number, MT_.w_sign, MT_.w_word, nqM_rd, nqM_rn, nqM_taped, nqM_mfault, nqM_mplace, nqM_told, nqM_hl, nqM_hd, NR_.w_rd, NR_.w_rn, NR_.w_taped, NR_.w_mfault, NR_.w_mplace, NR_.w_told, NR_.w_hl, NR_.w_hd, vqM_nv, NV_.w_nv, zqM_nw, NW_.w_nw, uqM_blm, YT_.w_blm]) (fq_at hFI_91 hLx hkx (by decide) (by decide) zq_30) (ms_1 hm_31 (ti_k tx_197 rc_1) (by decide))
  have l_30 : ∀ (n_30 : Nat) (I_198 : Nat → Nat → Int32) (J_199 : Nat → Nat → Int64) (hU_200 : Iw L κ R ow I_198) (hF_201 : Fq L κ ow [1200, 1202, 1203, 1204, 1205, 1206, 1207, 1208, 1209, 1210, 1211, 1213, 1223, 1244, 1245, 83400, 83700, 83800, 86200, 86300] I I_198) (hG_202 : Fq L κ ow [1212] J J_199) (r_203 : Rg 0 1 a0) (v_204 : Int32) (rv_204 : Rg 0 40 v_204) (q_205 : I_198 x 44 = v_204) (hd_206 : Hd_ R x I I_198) (hq_207 : mBkl (NVq I_198 J_199 x b_4) (NWq I_198 J_199 x b_1) (YTq I_198 J_199 x) (MTq I_198 J_199 x b_8) (NRq I_198 J_199 x b_10 b_11) = mBookF a0 s_5 s_6 s_7 s_9 s_12) (hm_208 : 40 < (v_204 : Int32).toInt + (n_30 : Int)), WG p l e { frames := 6, cells := 0, slots := 0, locals := 143 } s m ([.ref x, .int a0] : List Value).toArray below meth c 4 0 0 (MQ below (Qi_ D cy L κ ln R (fun r I2 J2 => Iw L κ R ow I2 ∧ Fq L κ ow [1200, 1202, 1203, 1204, 1205, 1206, 1207, 1208, 1209, 1210, 1211, 1213, 1223, 1244, 1245, 83400, 83700, 83800, 86200, 86300] I I2 ∧ Fq L κ ow [1212] J J2 ∧ Rg (-2147483648) 2147483647 r ∧ (I2 x 10 = mBookF a0 (NVf R I J x) (NWf R I J x) (YTf R I J x) (MTf R I J x) (NRf R I J x)) ∧ (Hd_ R x I I2))) ([.ref x, .int a0] : List Value).toArray s 0 0 (Al_ L)) D cy (Al_ L) s.heap L κ ln R I_198 J_199 30 [(0, .ref x), (1, .int a0)] [] := by
    intro n_30
    induction n_30 with
    | zero =>
      intro I_198 J_199 hU_200 hF_201 hG_202 r_203 v_204 rv_204 q_205 hd_206 hq_207 hm_208
      exact ms_0 rv_204 hm_208
    | succ n_30 ih_30 =>
      intro I_198 J_199 hU_200 hF_201 hG_202 r_203 v_204 rv_204 q_205 hd_206 hq_207 hm_208
      obtain ⟨s_209, hs_209⟩ : ∃ z, NVq I_198 J_199 x b_4 = z := ⟨_, rfl⟩
      obtain ⟨s_210, hs_210⟩ : ∃ z, NWq I_198 J_199 x b_1 = z := ⟨_, rfl⟩
      obtain ⟨s_211, hs_211⟩ : ∃ z, YTq I_198 J_199 x = z := ⟨_, rfl⟩
      obtain ⟨s_212, hs_212⟩ : ∃ z, MTq I_198 J_199 x b_8 = z := ⟨_, rfl⟩
      obtain ⟨s_213, hs_213⟩ : ∃ z, NRq I_198 J_199 x b_10 b_11 = z := ⟨_, rfl⟩
      simp only [hs_209, hs_210, hs_211, hs_212, hs_213] at hq_207
      have hQ_214 := hq_207.symm
      have f_216 : s_211.blm = v_204 := (congrArg YT_.blm hs_211).symm.trans q_205
      have u_215 := mBkl_eq (v := s_209) (z := s_210) (y := s_211) (m := s_212) (n := s_213) (eq_rg ((congrArg YT_.blm hs_211).symm.trans q_205) (rg_w rv_204 (by decide) (by decide)))
      refine g_aload_n C 0 dX12_book_30 rfl rfl ?_
      obtain ⟨x_217, hx_217, rx_217⟩ := ex_getw (I := I_198) (a := x) (j := 7) (lo := 0) (hi := 4) hU_200.1 hLx (ro_o hkx (by decide)) rfl
      have f_218 : s_212.kind = x_217 := (congrArg MT_.kind hs_212).symm.trans hx_217
      refine g_getI C K hLx hkx f_12_104 (v := x_217) hx_217 dX12_book_31 ?_
      refine g_if_eq C (tgt := 65) dX12_book_34 (by decide) (fun h_219 => ?_) (fun h_219 => ?_)
      · skip
        have r_220 := (⟨(rx_217).1, (eq_rg (h_219) rc_0).2⟩ : Rg 0 0 x_217)
        obtain ⟨x_221, hx_221, rx_221⟩ := ex_getw (I := I_198) (a := x) (j := 10) (lo := (-2147483648)) (hi := 2147483647) hU_200.1 hLx (ro_o hkx (by decide)) rfl
        have f_222 : s_213.mfault = x_221 := (congrArg NR_.mfault hs_213).symm.trans hx_221
        have mf_223 : mBookF a0 (NVf R I J x) (NWf R I J x) (YTf R I J x) (MTf R I J x) (NRf R I J x) = x_221 := by (try simp only [f_216, hx_217, f_218, (eq_true h_219), hx_221, f_222, if_true, if_false, mqM_tp, mqM_size, mqM_limit, mqM_to, mqM_frm, mqM_kind, mqM_number, mqM_sign, mqM_word, MT_.w_tp, MT_.w_size, MT_.w_limit, MT_.w_to, MT_.w_frm, MT_.w_kind, MT_.w_number, MT_.w_sign, MT_.w_word, nqM_rd, nqM_rn, nqM_taped, nqM_mfault, nqM_mplace, nqM_told, nqM_hl, nqM_hd, NR_.w_rd, NR_.w_rn, NR_.w_taped, NR_.w_mfault, NR_.w_mplace, NR_.w_told, NR_.w_hl, NR_.w_hd, vqM_nv, NV_.w_nv, zqM_nw, NW_.w_nw, uqM_blm, YT_.w_blm] at hQ_214); (try simp only [f_216, hx_217, f_218, (eq_true h_219), hx_221, f_222, if_true, if_false, mqM_tp, mqM_size, mqM_limit, mqM_to, mqM_frm, mqM_kind, mqM_number, mqM_sign, mqM_word, MT_.w_tp, MT_.w_size, MT_.w_limit, MT_.w_to, MT_.w_frm, MT_.w_kind, MT_.w_number, MT_.w_sign, MT_.w_word, nqM_rd, nqM_rn, nqM_taped, nqM_mfault, nqM_mplace, nqM_told, nqM_hl, nqM_hd, NR_.w_rd, NR_.w_rn, NR_.w_taped, NR_.w_mfault, NR_.w_mplace, NR_.w_told, NR_.w_hl, NR_.w_hd, vqM_nv, NV_.w_nv, zqM_nw, NW_.w_nw, uqM_blm, YT_.w_blm] at u_215); simp only [evqx, hs_209, hs_5, ezqx, hs_210, hs_6, euqx, hs_211, hs_7, emqx, hs_212, hs_9, enqx, hs_213, hs_12, hQ_214, f_216, u_215, hx_217, f_218, (eq_true h_219), hx_221, f_222, if_true, if_false, mqM_tp, mqM_size, mqM_limit, mqM_to, mqM_frm, mqM_kind, mqM_number, mqM_sign, mqM_word, MT_.w_tp, MT_.w_size, MT_.w_limit, MT_.w_to, MT_.w_frm, MT_.w_kind, MT_.w_number, MT_.w_sign, MT_.w_word, nqM_rd, nqM_rn, nqM_taped, nqM_mfault, nqM_mplace, nqM_told, nqM_hl, nqM_hd, NR_.w_rd, NR_.w_rn, NR_.w_taped, NR_.w_mfault, NR_.w_mplace, NR_.w_told, NR_.w_hl, NR_.w_hd, vqM_nv, NV_.w_nv, zqM_nw, NW_.w_nw, uqM_blm, YT_.w_blm]
        refine g_aload_n C 0 dX12_book_65 rfl rfl ?_
        refine g_callVV C K (c_X12_layAside W9 hLx hkx   hU_200) hLx hkx (by decide) rfl v_12_329 rfl ⟨rfl, rfl⟩ ⟨Nat.le_of_ble_eq_true rfl, Nat.le_of_ble_eq_true rfl⟩ (Nat.le_of_ble_eq_true rfl) ⟨Nat.le_of_ble_eq_true rfl, Nat.le_of_ble_eq_true rfl⟩ dX12_book_66 rfl (st := []) (fun I_225 J_226 h_227 => ?_)
        obtain ⟨hUI_225, hFI_225, hGJ_226, ex_224⟩ := h_227
        have hF_228 := fq_tr hF_201 hFI_225 (by decide)
        have hG_229 := fq_tr hG_202 hGJ_226 (by decide)
        refine g_iconst C (v := 0) dX12_book_69 (by decide) ?_
        refine g_istore_n C dX12_book_70 rfl (by decide) (lo2 := [(2, .int 0), (0, .ref x), (1, .int a0)]) rfl ?_
        refine g_iconst C (v := 0) dX12_book_71 (by decide) ?_
        refine g_istore_n C dX12_book_72 rfl (by decide) (lo2 := [(3, .int 0), (2, .int 0), (0, .ref x), (1, .int a0)]) rfl ?_
        refine g_lo (is := [2, 3, 1, 0]) (lo2 := [(0, .ref x), (1, .int a0), (2, .int 0), (3, .int 0)]) rfl ?_
        exact l_73 41 I_225 J_226 hUI_225 hF_228 hG_229 (r_203) 0 (rg_w rc_0 (by decide) (by decide)) 0 (rc_0) x_221 v_204 (rv_204) x_217 (r_220) (fq_at hFI_225 hLx hkx (by decide) (by decide) hx_221) (fq_at hFI_225 hLx hkx (by decide) (by decide) q_205) (fq_at hFI_225 hLx hkx (by decide) (by decide) hx_217) (hd_t hd_206 ex_224.1) ex_224.2 (by (try simp only [f_216, hx_217, f_218, (eq_true h_219), hx_221, f_222, if_true, if_false, mqM_tp, mqM_size, mqM_limit, mqM_to, mqM_frm, mqM_kind, mqM_number, mqM_sign, mqM_word, MT_.w_tp, MT_.w_size, MT_.w_limit, MT_.w_to, MT_.w_frm, MT_.w_kind, MT_.w_number, MT_.w_sign, MT_.w_word, nqM_rd, nqM_rn, nqM_taped, nqM_mfault, nqM_mplace, nqM_told, nqM_hl, nqM_hd, NR_.w_rd, NR_.w_rn, NR_.w_taped, NR_.w_mfault, NR_.w_mplace, NR_.w_told, NR_.w_hl, NR_.w_hd, vqM_nv, NV_.w_nv, zqM_nw, NW_.w_nw, uqM_blm, YT_.w_blm] at hQ_214); (try simp only [f_216, hx_217, f_218, (eq_true h_219), hx_221, f_222, if_true, if_false, mqM_tp, mqM_size, mqM_limit, mqM_to, mqM_frm, mqM_kind, mqM_number, mqM_sign, mqM_word, MT_.w_tp, MT_.w_size, MT_.w_limit, MT_.w_to, MT_.w_frm, MT_.w_kind, MT_.w_number, MT_.w_sign, MT_.w_word, nqM_rd, nqM_rn, nqM_taped, nqM_mfault, nqM_mplace, nqM_told, nqM_hl, nqM_hd, NR_.w_rd, NR_.w_rn, NR_.w_taped, NR_.w_mfault, NR_.w_mplace, NR_.w_told, NR_.w_hl, NR_.w_hd, vqM_nv, NV_.w_nv, zqM_nw, NW_.w_nw, uqM_blm, YT_.w_blm] at u_215); simp only [evqx, hs_5, ezqx, hs_6, euqx, hs_7, emqx, hs_9, enqx, hs_12, hQ_214, f_216, u_215, hx_217, f_218, (eq_true h_219), hx_221, f_222, if_true, if_false, mqM_tp, mqM_size, mqM_limit, mqM_to, mqM_frm, mqM_kind, mqM_number, mqM_sign, mqM_word, MT_.w_tp, MT_.w_size, MT_.w_limit, MT_.w_to, MT_.w_frm, MT_.w_kind, MT_.w_number, MT_.w_sign, MT_.w_word, nqM_rd, nqM_rn, nqM_taped, nqM_mfault, nqM_mplace, nqM_told, nqM_hl, nqM_hd, NR_.w_rd, NR_.w_rn, NR_.w_taped, NR_.w_mfault, NR_.w_mplace, NR_.w_told, NR_.w_hl, NR_.w_hd, vqM_nv, NV_.w_nv, zqM_nw, NW_.w_nw, uqM_blm, YT_.w_blm]) (Eq.trans (fq_at hFI_225 hLx hkx (by decide) (by decide) hx_221) (mf_223.symm.trans hzf)) (ms_s (a := 0) (b := 40) (N := 41) (rg_w rc_0 (by decide) (by decide)) (by decide))
      · skip
        have n_230 : ¬ x_217 = 0 := h_219
        have r_231 := ne_lo (lo := 1) n_230 rx_217 rc_0 rfl (by decide)
        refine g_aload_n C 0 dX12_book_37 rfl rfl ?_
        refine g_callVI C K (c_X12_readBookLine W9 hLx hkx   hU_200) hLx hkx (by decide) rfl v_12_367 rfl ⟨rfl, rfl⟩ ⟨Nat.le_of_ble_eq_true rfl, Nat.le_of_ble_eq_true rfl⟩ (Nat.le_of_ble_eq_true rfl) ⟨Nat.le_of_ble_eq_true rfl, Nat.le_of_ble_eq_true rfl⟩ dX12_book_38 rfl (st := []) (fun x_232 I_233 J_234 h_235 => ?_)
        obtain ⟨hUI_233, hFI_233, hGJ_234, rx_232, fx_232, ex_232⟩ := h_235
        have hF_236 := fq_tr hF_201 hFI_233 (by decide)
        have hG_237 := fq_tr hG_202 hGJ_234 (by decide)
        obtain ⟨s_239, hs_239⟩ : ∃ z, MTq I_233 J_234 x b_8 = z := ⟨_, rfl⟩
        obtain ⟨s_240, hs_240⟩ : ∃ z, NRq I_233 J_234 x b_10 b_11 = z := ⟨_, rfl⟩
        have c_238 : mBkLine (s_209) (s_210) (s_211) (s_212) (s_213) = (x_232, s_239, s_240) := by have q := fx_232; simp only [evqx, ezqx, euqx, emqx, enqx, hs_209, hs_210, hs_211, hs_212, hs_213, hs_239, hs_240] at q; exact q.symm
        have hs_241 : NVq I_233 J_234 x b_4 = s_209 := (vq_fq wvqx hFI_233 hGJ_234 (by decide) (by decide)).trans hs_209
        have hs_242 : NWq I_233 J_234 x b_1 = s_210 := (zq_fq wzqx hFI_233 hGJ_234 (by decide) (by decide)).trans hs_210
        have hs_243 : YTq I_233 J_234 x = s_211 := (uq_fq wuqx hFI_233 hGJ_234 (by decide) (by decide)).trans hs_211
        have q_244 := (fq_at hFI_233 hLx hkx (by decide) (by decide) q_205)
        refine g_if_ne C (tgt := 52) dX12_book_41 (by decide) (fun h_245 => ?_) (fun h_245 => ?_)
        · skip
          have n_246 : ¬ x_232 = 0 := h_245
          have r_247 := ne_lo (lo := 1) n_246 rx_232 rc_0 rfl (by decide)
          have r_248 := rg_i rv_204 (eq_rg q_244.symm ((ex_232.2) n_246)) (lo := 0) (hi := 39) (by decide) (by decide)
          refine g_aload_n C 0 dX12_book_52 rfl rfl ?_
          refine g_dup C dX12_book_53 rfl ?_
          refine g_getI C K hLx hkx f_12_361 (v := v_204) (fq_at hFI_233 hLx hkx (by decide) (by decide) q_205) dX12_book_54 ?_
          refine g_iconst C (v := 1) dX12_book_57 (by decide) ?_
          obtain ⟨x_249, hx_249, rx_249, tx_249⟩ := ex_add 1 40 r_248 rc_1 (by decide) (by decide) (by decide) (by decide)
          refine g_iadd C (v := x_249) dX12_book_58 hx_249 ?_
          refine h_putI C K hLx hkx f_12_361 p_12_44 dX12_book_59 (fun I_250 hI_250 => ?_)
          have hU_251 := iw_ln W9 hUI_233 (uw_put hUI_233.1 hI_250 (ro_o hkx (by decide)) (lo := 0) (hi := 40) (rfl) (rg_w rx_249 (by decide) (by decide))) hLx hkx hb_3 hI_250 (fun j hj => by by_cases q : (j : Int) < (I_233 x 44).toInt; exact Or.inl q; refine Or.inr ?_; have q0 := ex_232.1 (rg_nz r_247 (by decide)) _ hb_3; have q1 := (ti_k tx_249 rc_1); have q2 := (fq_at hFI_233 hLx hkx (by decide) (by decide) q_205); rw [q2] at q q0; have q3 := ix_n (r_248) (by decide); rw [show j = v_204.toNatClampNeg from by omega]; exact q0)
          have hF_252 := fq_puto hF_236 hI_250 hkx (by decide) (by decide)
          have hs_253 : NVq I_250 J_234 x b_4 = s_209 := by rw [hI_250]; exact (vq_oI wvqx (ro_o hkx (by decide)) (by decide)).trans hs_241
          have hs_254 : NWq I_250 J_234 x b_1 = s_210 := by rw [hI_250]; exact (zq_oI wzqx (ro_o hkx (by decide)) (by decide)).trans hs_242
          have hs_255 : YTq I_250 J_234 x = (YT_.w_blm s_211 (x_249)) := by rw [hI_250]; exact ((uq_blm wuqx).trans (congrArg (fun z : YT_ => YT_.w_blm z (x_249)) hs_243)).trans rfl
          have hs_256 : MTq I_250 J_234 x b_8 = s_239 := by rw [hI_250]; exact (mq_uIt wmqx (by decide)).trans hs_239
          have hs_257 : NRq I_250 J_234 x b_10 b_11 = s_240 := by rw [hI_250]; exact (nq_uIt wnqx (by decide)).trans hs_240
          refine g_goto C (tgt := 30) dX12_book_62 (by decide) ?_
          refine g_lo (is := [0, 1]) (lo2 := [(0, .ref x), (1, .int a0)]) rfl ?_
          exact ih_30 I_250 J_234 hU_251 hF_252 hG_237 (r_203) x_249 (rg_w rx_249 (by decide) (by decide)) (kp_s hI_250) (hd_u (r := 0) W9 hLx hkx (hd_fq W9 hLx hkx hd_206 hFI_233 (by decide)) hI_250 (Or.inl (ro_o hkx (by decide)))) (by (try simp only [f_216, hx_217, f_218, h_219, c_238, h_245, hx_249, if_true, if_false, mqM_tp, mqM_size, mqM_limit, mqM_to, mqM_frm, mqM_kind, mqM_number, mqM_sign, mqM_word, MT_.w_tp, MT_.w_size, MT_.w_limit, MT_.w_to, MT_.w_frm, MT_.w_kind, MT_.w_number, MT_.w_sign, MT_.w_word, nqM_rd, nqM_rn, nqM_taped, nqM_mfault, nqM_mplace, nqM_told, nqM_hl, nqM_hd, NR_.w_rd, NR_.w_rn, NR_.w_taped, NR_.w_mfault, NR_.w_mplace, NR_.w_told, NR_.w_hl, NR_.w_hd, vqM_nv, NV_.w_nv, zqM_nw, NW_.w_nw, uqM_blm, YT_.w_blm] at hQ_214); (try simp only [f_216, hx_217, f_218, h_219, c_238, h_245, hx_249, if_true, if_false, mqM_tp, mqM_size, mqM_limit, mqM_to, mqM_frm, mqM_kind, mqM_number, mqM_sign, mqM_word, MT_.w_tp, MT_.w_size, MT_.w_limit, MT_.w_to, MT_.w_frm, MT_.w_kind, MT_.w_number, MT_.w_sign, MT_.w_word, nqM_rd, nqM_rn, nqM_taped, nqM_mfault, nqM_mplace, nqM_told, nqM_hl, nqM_hd, NR_.w_rd, NR_.w_rn, NR_.w_taped, NR_.w_mfault, NR_.w_mplace, NR_.w_told, NR_.w_hl, NR_.w_hd, vqM_nv, NV_.w_nv, zqM_nw, NW_.w_nw, uqM_blm, YT_.w_blm] at u_215); simp only [evqx, hs_253, hs_5, ezqx, hs_254, hs_6, euqx, hs_255, hs_7, emqx, hs_256, hs_9, enqx, hs_257, hs_12, hQ_214, f_216, u_215, hx_217, f_218, h_219, c_238, h_245, hx_249, if_true, if_false, mqM_tp, mqM_size, mqM_limit, mqM_to, mqM_frm, mqM_kind, mqM_number, mqM_sign, mqM_word, MT_.w_tp, MT_.w_size, MT_.w_limit, MT_.w_to, MT_.w_frm, MT_.w_kind, MT_.w_number, MT_.w_sign, MT_.w_word, nqM_rd, nqM_rn, nqM_taped, nqM_mfault, nqM_mplace, nqM_told, nqM_hl, nqM_hd, NR_.w_rd, NR_.w_rn, NR_.w_taped, NR_.w_mfault, NR_.w_mplace, NR_.w_told, NR_.w_hl, NR_.w_hd, vqM_nv, NV_.w_nv, zqM_nw, NW_.w_nw, uqM_blm, YT_.w_blm]) (ms_1 hm_208 (ti_k tx_249 rc_1) (by decide))
        · skip
          have r_258 := (⟨(rx_232).1, (eq_rg (h_245) rc_0).2⟩ : Rg 0 0 x_232)
          refine g_bipush C (v := (-2)) dX12_book_44 (by decide) ?_
          refine g_aload_n C 0 dX12_book_46 rfl rfl ?_
          obtain ⟨x_259, hx_259, rx_259⟩ := ex_getw (I := I_233) (a := x) (j := 11) (lo := (-2147483648)) (hi := 2147483647) hUI_233.1 hLx (ro_o hkx (by decide)) rfl
          have f_260 : s_240.mplace = x_259 := (congrArg NR_.mplace hs_240).symm.trans hx_259
          refine g_getI C K hLx hkx f_12_143 (v := x_259) hx_259 dX12_book_47 ?_
          obtain ⟨x_261, hx_261, rx_261⟩ := ex_any (z0 := (-2) - x_259)
          refine g_isub C (v := x_261) dX12_book_50 hx_261 ?_
          obtain ⟨x_262, hx_262, rx_262⟩ := ex_getw (I := I_233) (a := x) (j := 10) (lo := (-2147483648)) (hi := 2147483647) hUI_233.1 hLx (ro_o hkx (by decide)) rfl
          have f_263 : s_240.mfault = x_262 := (congrArg NR_.mfault hs_240).symm.trans hx_262
          have mf_264 : mBookF a0 (NVf R I J x) (NWf R I J x) (YTf R I J x) (MTf R I J x) (NRf R I J x) = x_262 := by (try simp only [f_216, hx_217, f_218, h_219, c_238, (eq_true h_245), hx_259, f_260, hx_261, hx_262, f_263, if_true, if_false, mqM_tp, mqM_size, mqM_limit, mqM_to, mqM_frm, mqM_kind, mqM_number, mqM_sign, mqM_word, MT_.w_tp, MT_.w_size, MT_.w_limit, MT_.w_to, MT_.w_frm, MT_.w_kind, MT_.w_number, MT_.w_sign, MT_.w_word, nqM_rd, nqM_rn, nqM_taped, nqM_mfault, nqM_mplace, nqM_told, nqM_hl, nqM_hd, NR_.w_rd, NR_.w_rn, NR_.w_taped, NR_.w_mfault, NR_.w_mplace, NR_.w_told, NR_.w_hl, NR_.w_hd, vqM_nv, NV_.w_nv, zqM_nw, NW_.w_nw, uqM_blm, YT_.w_blm] at hQ_214); (try simp only [f_216, hx_217, f_218, h_219, c_238, (eq_true h_245), hx_259, f_260, hx_261, hx_262, f_263, if_true, if_false, mqM_tp, mqM_size, mqM_limit, mqM_to, mqM_frm, mqM_kind, mqM_number, mqM_sign, mqM_word, MT_.w_tp, MT_.w_size, MT_.w_limit, MT_.w_to, MT_.w_frm, MT_.w_kind, MT_.w_number, MT_.w_sign, MT_.w_word, nqM_rd, nqM_rn, nqM_taped, nqM_mfault, nqM_mplace, nqM_told, nqM_hl, nqM_hd, NR_.w_rd, NR_.w_rn, NR_.w_taped, NR_.w_mfault, NR_.w_mplace, NR_.w_told, NR_.w_hl, NR_.w_hd, vqM_nv, NV_.w_nv, zqM_nw, NW_.w_nw, uqM_blm, YT_.w_blm] at u_215); simp only [evqx, hs_241, hs_5, ezqx, hs_242, hs_6, euqx, hs_243, hs_7, emqx, hs_239, hs_9, enqx, hs_240, hs_12, hQ_214, f_216, u_215, hx_217, f_218, h_219, c_238, (eq_true h_245), hx_259, f_260, hx_261, hx_262, f_263, if_true, if_false, mqM_tp, mqM_size, mqM_limit, mqM_to, mqM_frm, mqM_kind, mqM_number, mqM_sign, mqM_word, MT_.w_tp, MT_.w_size, MT_.w_limit, MT_.w_to, MT_.w_frm, MT_.w_kind, MT_.w_number, MT_.w_sign, MT_.w_word, nqM_rd, nqM_rn, nqM_taped, nqM_mfault, nqM_mplace, nqM_told, nqM_hl, nqM_hd, NR_.w_rd, NR_.w_rn, NR_.w_taped, NR_.w_mfault, NR_.w_mplace, NR_.w_told, NR_.w_hl, NR_.w_hd, vqM_nv, NV_.w_nv, zqM_nw, NW_.w_nw, uqM_blm, YT_.w_blm]
          exact g_zret (ty := .int) (r := x_261) B K rfl (rfl) ⟨hUI_233, hF_236, hG_237, rx_261, (Eq.trans hx_262 mf_264.symm), (hd_fq W9 hLx hkx hd_206 hFI_233 (by decide))⟩ dX12_book_51
  refine g_aload_n C 0 dX12_book_0 rfl rfl ?_
  refine g_iconst C (v := 0) dX12_book_1 (by decide) ?_
  refine h_putI C K hLx hkx f_12_82 p_12_0 dX12_book_2 (fun I_265 hI_265 => ?_)
  have hU_266 := iw_put W9 hU hI_265 (ro_o hkx (by decide)) (lo := (-2147483648)) (hi := 2147483647) (rfl) (rg_all _) rfl
  have hF_267 := fq_puto hF hI_265 hkx (by decide) (by decide)
  have hs_268 : NVq I_265 J x b_4 = s_5 := by rw [hI_265]; exact (vq_oI wvqx (ro_o hkx (by decide)) (by decide)).trans hs_5
  have hs_269 : NWq I_265 J x b_1 = s_6 := by rw [hI_265]; exact (zq_oI wzqx (ro_o hkx (by decide)) (by decide)).trans hs_6
  have hs_270 : YTq I_265 J x = s_7 := by rw [hI_265]; exact (uq_uIt wuqx (by decide)).trans hs_7
  have hs_271 : MTq I_265 J x b_8 = s_9 := by rw [hI_265]; exact (mq_uIt wmqx (by decide)).trans hs_9
  have hs_272 : NRq I_265 J x b_10 b_11 = s_12 := by rw [hI_265]; exact (nq_uIt wnqx (by decide)).trans hs_12
  refine g_iload_n C 1 dX12_book_5 rfl rfl ?_
  refine g_iconst C (v := 0) dX12_book_6 (by decide) ?_
  refine g_iconst C (v := 1) dX12_book_7 (by decide) ?_
  refine g_callSI C K (c_X12_isIn W9 a0 0 1 (rg_w rc_0 (by decide) (by decide)) (rg_w rc_1 (by decide) (by decide)) hU_266) s_12_149 rfl ⟨rfl, rfl⟩ ⟨Nat.le_of_ble_eq_true rfl, Nat.le_of_ble_eq_true rfl⟩ (Nat.le_of_ble_eq_true rfl) ⟨Nat.le_of_ble_eq_true rfl, Nat.le_of_ble_eq_true rfl⟩ dX12_book_8 rfl (st := []) (fun x_273 I_274 J_275 h_276 => ?_)
  obtain ⟨rfl, rfl, rx_273, fx_273, ex_273⟩ := h_276
  have c_277 : isIn_ (a0) (0) (1) = x_273 := fx_273.symm
  refine g_if_ne C (tgt := 18) dX12_book_11 (by decide) (fun h_278 => ?_) (fun h_278 => ?_)
  · skip
    have n_279 : ¬ x_273 = 0 := h_278
    have r_280 := ne_lo (lo := 1) n_279 rx_273 rc_0 rfl (by decide)
    have r_281 := le_r (((ex_273.1) n_279)) rc_0 (rg_all a0)
    have r_282 := le_l (((ex_273.2) n_279)) r_281 rc_1
    refine g_aload_n C 0 dX12_book_18 rfl rfl ?_
    refine g_sipush C (v := 400) dX12_book_19 (by decide) ?_
    refine g_callVV C K (c_X12_begin W9 hLx hkx 400 (rg_w rc_400 (by decide) (by decide)) hU_266) hLx hkx (by decide) rfl v_12_216 rfl ⟨rfl, rfl⟩ ⟨Nat.le_of_ble_eq_true rfl, Nat.le_of_ble_eq_true rfl⟩ (Nat.le_of_ble_eq_true rfl) ⟨Nat.le_of_ble_eq_true rfl, Nat.le_of_ble_eq_true rfl⟩ dX12_book_22 rfl (st := []) (fun I_284 J_285 h_286 => ?_)
    obtain ⟨hUI_284, hFI_284, hGJ_285, fx_283⟩ := h_286
    have hF_287 := fq_tr hF_267 hFI_284 (by decide)
    have hG_288 := fq_tr hG hGJ_285 (by decide)
    obtain ⟨s_290, hs_290⟩ : ∃ z, MTq I_284 J_285 x b_8 = z := ⟨_, rfl⟩
    obtain ⟨s_291, hs_291⟩ : ∃ z, NRq I_284 J_285 x b_10 b_11 = z := ⟨_, rfl⟩
    have c_289 : mBegin (400) (s_9) (s_12) = (s_290, s_291) := by have q := fx_283; simp only [emqx, enqx, hs_271, hs_272, hs_290, hs_291] at q; exact q.symm
    have hs_292 : NVq I_284 J_285 x b_4 = s_5 := (vq_fq wvqx hFI_284 hGJ_285 (by decide) (by decide)).trans hs_268
    have hs_293 : NWq I_284 J_285 x b_1 = s_6 := (zq_fq wzqx hFI_284 hGJ_285 (by decide) (by decide)).trans hs_269
    have hs_294 : YTq I_284 J_285 x = s_7 := (uq_fq wuqx hFI_284 hGJ_285 (by decide) (by decide)).trans hs_270
    refine g_aload_n C 0 dX12_book_25 rfl rfl ?_
    refine g_iconst C (v := 0) dX12_book_26 (by decide) ?_
    refine h_putI C K hLx hkx f_12_361 p_12_44 dX12_book_27 (fun I_295 hI_295 => ?_)
    have hU_296 := iw_ln W9 hUI_284 (uw_put hUI_284.1 hI_295 (ro_o hkx (by decide)) (lo := 0) (hi := 40) (rfl) (rg_w rc_0 (by decide) (by decide))) hLx hkx hb_3 hI_295 (fun j hj => by rw [show (0 : Int32).toInt = 0 from by decide] at hj; omega)
    have hF_297 := fq_puto hF_287 hI_295 hkx (by decide) (by decide)
    have hs_298 : NVq I_295 J_285 x b_4 = s_5 := by rw [hI_295]; exact (vq_oI wvqx (ro_o hkx (by decide)) (by decide)).trans hs_292
    have hs_299 : NWq I_295 J_285 x b_1 = s_6 := by rw [hI_295]; exact (zq_oI wzqx (ro_o hkx (by decide)) (by decide)).trans hs_293
    have hs_300 : YTq I_295 J_285 x = (YT_.w_blm s_7 (0)) := by rw [hI_295]; exact ((uq_blm wuqx).trans (congrArg (fun z : YT_ => YT_.w_blm z (0)) hs_294)).trans rfl
    have hs_301 : MTq I_295 J_285 x b_8 = s_290 := by rw [hI_295]; exact (mq_uIt wmqx (by decide)).trans hs_290
    have hs_302 : NRq I_295 J_285 x b_10 b_11 = s_291 := by rw [hI_295]; exact (nq_uIt wnqx (by decide)).trans hs_291
    refine g_lo (is := [0, 1]) (lo2 := [(0, .ref x), (1, .int a0)]) rfl ?_
    exact l_30 41 I_295 J_285 hU_296 hF_297 hG_288 (r_282) 0 (rg_w rc_0 (by decide) (by decide)) (kp_s hI_295) (hd_u (r := 0) W9 hLx hkx (hd_fq W9 hLx hkx (hd_u (r := 0) W9 hLx hkx hd_rf hI_265 (Or.inl (ro_o hkx (by decide)))) hFI_284 (by decide)) hI_295 (Or.inl (ro_o hkx (by decide)))) (by simp only [mBookF, evqx, hs_298, hs_5, ezqx, hs_299, hs_6, euqx, hs_300, hs_7, emqx, hs_301, hs_9, enqx, hs_302, hs_12, c_277, h_278, c_289, if_true, if_false, mqM_tp, mqM_size, mqM_limit, mqM_to, mqM_frm, mqM_kind, mqM_number, mqM_sign, mqM_word, MT_.w_tp, MT_.w_size, MT_.w_limit, MT_.w_to, MT_.w_frm, MT_.w_kind, MT_.w_number, MT_.w_sign, MT_.w_word, nqM_rd, nqM_rn, nqM_taped, nqM_mfault, nqM_mplace, nqM_told, nqM_hl, nqM_hd, NR_.w_rd, NR_.w_rn, NR_.w_taped, NR_.w_mfault, NR_.w_mplace, NR_.w_told, NR_.w_hl, NR_.w_hd, vqM_nv, NV_.w_nv, zqM_nw, NW_.w_nw, uqM_blm, YT_.w_blm]) (ms_s (a := 0) (b := 40) (N := 41) (rg_w rc_0 (by decide) (by decide)) (by decide))
  · skip
    have r_303 := (⟨(rx_273).1, (eq_rg (h_278) rc_0).2⟩ : Rg 0 0 x_273)
    refine g_sipush C (v := (-1000)) dX12_book_14 (by decide) ?_
    obtain ⟨x_304, hx_304, rx_304⟩ := ex_getw (I := I_265) (a := x) (j := 10) (lo := (-2147483648)) (hi := 2147483647) hU_266.1 hLx (ro_o hkx (by decide)) rfl
    have f_305 : s_12.mfault = x_304 := (congrArg NR_.mfault hs_272).symm.trans hx_304
    have mf_306 : mBookF a0 (NVf R I J x) (NWf R I J x) (YTf R I J x) (MTf R I J x) (NRf R I J x) = x_304 := by simp only [mBookF, evqx, hs_268, hs_5, ezqx, hs_269, hs_6, euqx, hs_270, hs_7, emqx, hs_271, hs_9, enqx, hs_272, hs_12, c_277, (eq_true h_278), hx_304, f_305, if_true, if_false, mqM_tp, mqM_size, mqM_limit, mqM_to, mqM_frm, mqM_kind, mqM_number, mqM_sign, mqM_word, MT_.w_tp, MT_.w_size, MT_.w_limit, MT_.w_to, MT_.w_frm, MT_.w_kind, MT_.w_number, MT_.w_sign, MT_.w_word, nqM_rd, nqM_rn, nqM_taped, nqM_mfault, nqM_mplace, nqM_told, nqM_hl, nqM_hd, NR_.w_rd, NR_.w_rn, NR_.w_taped, NR_.w_mfault, NR_.w_mplace, NR_.w_told, NR_.w_hl, NR_.w_hd, vqM_nv, NV_.w_nv, zqM_nw, NW_.w_nw, uqM_blm, YT_.w_blm]
    exact g_zret (ty := .int) (r := (-1000)) B K rfl (rfl) ⟨hU_266, hF_267, hG, rg_all _, (Eq.trans hx_304 mf_306.symm), (hd_u (r := 0) W9 hLx hkx hd_rf hI_265 (Or.inl (ro_o hkx (by decide))))⟩ dX12_book_17
set_option maxRecDepth 100000 in
set_option maxHeartbeats 8000000 in
theorem c_X12_told {l : Launch} {D : va_G} {cy : Nat → ClassId} {L : List Nat} {κ ln : Nat → Nat} {R : Nat → Nat → Option Nat} {I : Nat → Nat → Int32} {J : Nat → Nat → Int64} {ow : Nat → Nat × Nat} (W9 : ∀ a ∈ L, Shp L κ ln R ow a) {x : Nat} (hLx : x ∈ L) (hkx : κ x = 12) (a0 : Int32) (hU : Iw L κ R ow I) : CtI l yX12_told cX12_told 2 (some .int) { frames := 1, cells := 0, slots := 0, locals := 22 } D cy L κ ln R I J [.ref x, .int a0] (fun r I2 J2 => Iw L κ R ow I2 ∧ Fq L κ ow [1200] I I2 ∧ Fq L κ ow [] J J2 ∧ Rg (-2147483648) 2147483647 r) := by
  refine CtI.of (by decide +kernel) (Nat.le_of_ble_eq_true rfl) ?_
  intro p e s m below meth c B K
  have C := B.1
  have hF : Fq L κ ow [1200] I I := fq_rf
  have hG : Fq L κ ow [] J J := fq_rf
  obtain ⟨b_1, hb_1, hb_1L, hb_1k, hb_1n, hb_1o⟩ := shp_a (W9 x hLx) hkx 43 14 4 rfl (by decide)
  refine g_lo (is := [0, 1]) (lo2 := [(0, .ref x), (1, .int a0)]) rfl ?_
  refine g_aload_n C 0 dX12_told_0 rfl rfl ?_
  refine g_iconst C (v := 0) dX12_told_1 (by decide) ?_
  refine h_putI C K hLx hkx f_12_82 p_12_0 dX12_told_2 (fun I_2 hI_2 => ?_)
  have hU_3 := iw_put W9 hU hI_2 (ro_o hkx (by decide)) (lo := (-2147483648)) (hi := 2147483647) (rfl) (rg_all _) rfl
  have hF_4 := fq_puto hF hI_2 hkx (by decide) (by decide)
  refine g_aload_n C 0 dX12_told_5 rfl rfl ?_
  obtain ⟨x_5, hx_5, rx_5⟩ := ex_getw (I := I_2) (a := x) (j := 45) (lo := 0) (hi := 1) hU_3.1 hLx (ro_o hkx (by decide)) rfl
  refine g_getI C K hLx hkx f_12_373 (v := x_5) hx_5 dX12_told_6 ?_
  refine g_if_eq C (tgt := 30) dX12_told_9 (by decide) (fun h_6 => ?_) (fun h_6 => ?_)
  · skip
    have r_7 := (⟨(rx_5).1, (eq_rg (h_6) rc_0).2⟩ : Rg 0 0 x_5)
    refine g_iconst C (v := (-1)) dX12_told_30 (by decide) ?_
    exact g_zret (ty := .int) (r := (-1)) B K rfl (rfl) ⟨hU_3, hF_4, hG, rg_all _⟩ dX12_told_31
  · skip
    have n_8 : ¬ x_5 = 0 := h_6
    have r_9 := ne_lo (lo := 1) n_8 rx_5 rc_0 rfl (by decide)
    refine g_iload_n C 1 dX12_told_12 rfl rfl ?_
    refine g_iconst C (v := 0) dX12_told_13 (by decide) ?_
    refine g_iconst C (v := 3) dX12_told_14 (by decide) ?_
    refine g_callSI C K (c_X12_isIn W9 a0 0 3 (rg_w rc_0 (by decide) (by decide)) (rg_w rc_3 (by decide) (by decide)) hU_3) s_12_149 rfl ⟨rfl, rfl⟩ ⟨Nat.le_of_ble_eq_true rfl, Nat.le_of_ble_eq_true rfl⟩ (Nat.le_of_ble_eq_true rfl) ⟨Nat.le_of_ble_eq_true rfl, Nat.le_of_ble_eq_true rfl⟩ dX12_told_15 rfl (st := []) (fun x_10 I_11 J_12 h_13 => ?_)
    obtain ⟨rfl, rfl, rx_10, fx_10, ex_10⟩ := h_13
    refine g_if_eq C (tgt := 30) dX12_told_18 (by decide) (fun h_14 => ?_) (fun h_14 => ?_)
    · skip
      have r_15 := (⟨(rx_10).1, (eq_rg (h_14) rc_0).2⟩ : Rg 0 0 x_10)
      refine g_iconst C (v := (-1)) dX12_told_30 (by decide) ?_
      exact g_zret (ty := .int) (r := (-1)) B K rfl (rfl) ⟨hU_3, hF_4, hG, rg_all _⟩ dX12_told_31
    · skip
      have n_16 : ¬ x_10 = 0 := h_14
      have r_17 := ne_lo (lo := 1) n_16 rx_10 rc_0 rfl (by decide)
      have r_18 := le_r (((ex_10.1) n_16)) rc_0 (rg_all a0)
      have r_19 := le_l (((ex_10.2) n_16)) r_18 rc_3
      refine g_aload_n C 0 dX12_told_21 rfl rfl ?_
      refine g_getR C K hLx hkx f_12_76 hb_1 dX12_told_22 ?_
      refine g_iload_n C 1 dX12_told_25 rfl rfl ?_
      obtain ⟨x_20, hx_20, rx_20⟩ := ex_any (z0 := I_2 b_1 (a0.toNatClampNeg))
      refine h_iald C K hb_1L hb_1k (v := x_20) (a0.toNatClampNeg) (rfl) (ix_0 r_19 (by decide)) (ix_lt r_19 (by decide) hb_1n (by decide)) hx_20 dX12_told_26 ?_
      refine g_goto C (tgt := 31) dX12_told_27 (by decide) ?_
      exact g_zret (ty := .int) (r := x_20) B K rfl (rfl) ⟨hU_3, hF_4, hG, rx_20⟩ dX12_told_31
set_option maxRecDepth 100000 in
set_option maxHeartbeats 8000000 in
theorem c_X12_readSaid_8 {l : Launch} {D : va_G} {cy : Nat → ClassId} {L : List Nat} {κ ln : Nat → Nat} {R : Nat → Nat → Option Nat} {I : Nat → Nat → Int32} {J : Nat → Nat → Int64} {ow : Nat → Nat × Nat} (W9 : ∀ a ∈ L, Shp L κ ln R ow a) {x : Nat} (hLx : x ∈ L) (hkx : κ x = 12) (hU : Iw L κ R ow I) (hn : (I x 47).toInt ≤ 2 * (I x 48).toInt) (hwi : I x 49 = 8) : CtI l yX12_readSaid cX12_readSaid 4 (some .boolean) { frames := 3, cells := 0, slots := 0, locals := 69 } D cy L κ ln R I J [.ref x] (fun r I2 J2 => Iw L κ R ow I2 ∧ Fq L κ ow [1210, 1211] I I2 ∧ Fq L κ ow [] J J2 ∧ Rg 0 0 r ∧ ((r, MTf R I2 J2 x, NRf R I2 J2 x, QTf R I2 J2 x) = mSaid 0 (NVf R I J x) (NWf R I J x) (MTf R I J x) (NRf R I J x) (QTf R I J x)) ∧ (¬ r = 0 → Sz_ x I I2 1) ∧ (I2 x 49 = 8)) := by
  obtain ⟨x_1, hx_1, rx_1⟩ := ex_getw (I := I) (a := x) (j := 47) (lo := 0) (hi := 60) hU.1 hLx (ro_o hkx (by decide)) rfl
  obtain ⟨x_2, hx_2, rx_2⟩ := ex_getw (I := I) (a := x) (j := 48) (lo := 0) (hi := 20) hU.1 hLx (ro_o hkx (by decide)) rfl
  rw [hx_1, hx_2] at hn
  obtain ⟨x_3, hx_3, rx_3⟩ := ex_getw (I := I) (a := x) (j := 50) (lo := 0) (hi := 59) hU.1 hLx (ro_o hkx (by decide)) rfl
  refine CtI.of (by decide +kernel) (Nat.le_of_ble_eq_true rfl) ?_
  intro p e s m below meth c B K
  have C := B.1
  have hF : Fq L κ ow [1210, 1211] I I := fq_rf
  have hG : Fq L κ ow [] J J := fq_rf
  obtain ⟨b_4, hb_4, hb_4L, hb_4k, hb_4n, hb_4o⟩ := shp_a (W9 x hLx) hkx 19 15 13 rfl (by decide)
  have evqx : ∀ I J, NVf R I J x = NVq I J x b_4 := fun I J => by simp only [NVf, rr_, Option.getD_some, hb_4]
  have wvqx : vqw_ L κ ow x b_4 := ⟨⟨hLx, hb_4L⟩, ⟨(ro_o hkx (by decide)), (ro_a hb_4k (by decide) hb_4o hkx rfl)⟩⟩
  obtain ⟨s_5, hs_5⟩ : ∃ z, NVq I J x b_4 = z := ⟨_, rfl⟩
  obtain ⟨b_6, hb_6, hb_6L, hb_6k, hb_6n, hb_6o⟩ := shp_a (W9 x hLx) hkx 14 14 389 rfl (by decide)
  have ezqx : ∀ I J, NWf R I J x = NWq I J x b_6 := fun I J => by simp only [NWf, rr_, Option.getD_some, hb_6]
  have wzqx : zqw_ L κ ow x b_6 := ⟨⟨hLx, hb_6L⟩, ⟨(ro_o hkx (by decide)), (ro_a hb_6k (by decide) hb_6o hkx rfl)⟩⟩
  obtain ⟨s_7, hs_7⟩ : ∃ z, NWq I J x b_6 = z := ⟨_, rfl⟩
  obtain ⟨b_8, hb_8, hb_8L, hb_8k, hb_8n, hb_8o⟩ := shp_a (W9 x hLx) hkx 1 14 940 rfl (by decide)
  have emqx : ∀ I J, MTf R I J x = MTq I J x b_8 := fun I J => by simp only [MTf, rr_, Option.getD_some, hb_8]
  have wmqx : mqw_ L κ ow x b_8 := ⟨⟨hLx, hb_8L⟩, ⟨(ro_o hkx (by decide)), (ro_a hb_8k (by decide) hb_8o hkx rfl)⟩⟩
  obtain ⟨s_9, hs_9⟩ : ∃ z, MTq I J x b_8 = z := ⟨_, rfl⟩
  obtain ⟨b_10, hb_10, hb_10L, hb_10k, hb_10n, hb_10o⟩ := shp_a (W9 x hLx) hkx 15 14 72 rfl (by decide)
  obtain ⟨b_11, hb_11, hb_11L, hb_11k, hb_11n, hb_11o⟩ := shp_a (W9 x hLx) hkx 20 15 13 rfl (by decide)
  have enqx : ∀ I J, NRf R I J x = NRq I J x b_10 b_11 := fun I J => by simp only [NRf, rr_, Option.getD_some, hb_10, hb_11]
  have wnqx : nqw_ L κ ow x b_10 b_11 := ⟨⟨hLx, hb_10L, hb_11L⟩, ⟨(ro_o hkx (by decide)), (ro_a hb_10k (by decide) hb_10o hkx rfl), (ro_a hb_11k (by decide) hb_11o hkx rfl)⟩⟩
  obtain ⟨s_12, hs_12⟩ : ∃ z, NRq I J x b_10 b_11 = z := ⟨_, rfl⟩
  have eqqx : ∀ I J, QTf R I J x = QTq I J x := fun I J => by simp only [QTf, rr_, Option.getD_some]
  have wqqx : qqw_ L κ ow x := ⟨hLx, (ro_o hkx (by decide))⟩
  obtain ⟨s_13, hs_13⟩ : ∃ z, QTq I J x = z := ⟨_, rfl⟩
  refine g_lo (is := [0]) (lo2 := [(0, .ref x)]) rfl ?_
  have l_10 : ∀ (n_10 : Nat) (v_14 : Int32) (rv_14 : Rg 0 1 v_14) (v_15 : Int32) (rv_15 : Rg 18 28 v_15) (v_16 : Int32) (rv_16 : Rg 0 60 v_16) (v_17 : Int32) (rv_17 : Rg 0 20 v_17) (v_18 : Int32) (rv_18 : Rg 0 59 v_18) (v_19 : Int32) (rv_19 : Rg 0 4 v_19) (q_20 : I x 47 = v_16) (q_21 : I x 48 = v_17) (q_22 : I x 49 = 8) (q_23 : I x 50 = v_18) (q_24 : I x 7 = v_19) (hq_25 : mSd0 v_14 (mww v_15 s_9) s_9 s_12 s_13 = mSaid 0 s_5 s_7 s_9 s_12 s_13) (hj_26 : v_16.toInt = x_1.toInt ∧ v_17.toInt = x_2.toInt) (hm_27 : 28 < (v_15 : Int32).toInt + (n_10 : Int)), WG p l e { frames := 3, cells := 0, slots := 0, locals := 69 } s m ([.ref x] : List Value).toArray below meth c 4 0 0 (MQ below (Qi_ D cy L κ ln R (fun r I2 J2 => Iw L κ R ow I2 ∧ Fq L κ ow [1210, 1211] I I2 ∧ Fq L κ ow [] J J2 ∧ Rg 0 0 r ∧ ((r, MTf R I2 J2 x, NRf R I2 J2 x, QTf R I2 J2 x) = mSaid 0 (NVf R I J x) (NWf R I J x) (MTf R I J x) (NRf R I J x) (QTf R I J x)) ∧ (¬ r = 0 → Sz_ x I I2 1) ∧ (I2 x 49 = 8))) ([.ref x] : List Value).toArray s 0 0 (Al_ L)) D cy (Al_ L) s.heap L κ ln R I J 10 [(0, .ref x), (1, .int v_14), (2, .int v_15)] [] := by
    intro n_10
    induction n_10 with
    | zero =>
      intro v_14 rv_14 v_15 rv_15 v_16 rv_16 v_17 rv_17 v_18 rv_18 v_19 rv_19 q_20 q_21 q_22 q_23 q_24 hq_25 hj_26 hm_27
      exact ms_0 rv_15 hm_27
    | succ n_10 ih_10 =>
      intro v_14 rv_14 v_15 rv_15 v_16 rv_16 v_17 rv_17 v_18 rv_18 v_19 rv_19 q_20 q_21 q_22 q_23 q_24 hq_25 hj_26 hm_27
      have hQ_28 := hq_25.symm
      have u_29 := mww_eq (w := v_15) (m := s_9) (rg_w rv_15 (by decide) (by decide))
      refine g_iload_n C 2 dX12_readSaid_10 rfl rfl ?_
      refine g_bipush C (v := 27) dX12_readSaid_11 (by decide) ?_
      refine g_icmp_gt C (tgt := 30) dX12_readSaid_13 (by decide) (fun h_30 => ?_) (fun h_30 => ?_)
      · skip
        have r_31 := lt_r (lo := 28) (h_30) rc_27 rv_15 (by decide)
        refine g_iload_n C 1 dX12_readSaid_30 rfl rfl ?_
        refine g_if_ne C (tgt := 46) dX12_readSaid_31 (by decide) (fun h_32 => ?_) (fun h_32 => ?_)
        · skip
          have n_33 : ¬ v_14 = 0 := h_32
          have r_34 := ne_lo (lo := 1) n_33 rv_14 rc_0 rfl (by decide)
          refine g_aload_n C 0 dX12_readSaid_46 rfl rfl ?_
          have f_35 : s_13.om = v_17 := (congrArg QT_.om hs_13).symm.trans q_21
          refine g_getI C K hLx hkx f_12_395 (v := v_17) q_21 dX12_readSaid_47 ?_
          refine g_bipush C (v := 20) dX12_readSaid_50 (by decide) ?_
          refine g_icmp_eq C (tgt := 64) dX12_readSaid_52 (by decide) (fun h_36 => ?_) (fun h_36 => ?_)
          · skip
            have r_37 := (⟨(eq_rg (h_36) rc_20).1, (rv_17).2⟩ : Rg 20 20 v_17)
            refine g_aload_n C 0 dX12_readSaid_64 rfl rfl ?_
            refine g_iconst C (v := 4) dX12_readSaid_65 (by decide) ?_
            refine g_callVI C K (c_X12_bad W9 hLx hkx 4 (rg_w rc_4 (by decide) (by decide)) hU) hLx hkx (by decide) rfl v_12_146 rfl ⟨rfl, rfl⟩ ⟨Nat.le_of_ble_eq_true rfl, Nat.le_of_ble_eq_true rfl⟩ (Nat.le_of_ble_eq_true rfl) ⟨Nat.le_of_ble_eq_true rfl, Nat.le_of_ble_eq_true rfl⟩ dX12_readSaid_66 rfl (st := []) (fun x_38 I_39 J_40 h_41 => ?_)
            obtain ⟨hUI_39, hFI_39, hGJ_40, rx_38, fx_38⟩ := h_41
            have hF_42 := fq_tr hF hFI_39 (by decide)
            have hG_43 := fq_tr hG hGJ_40 (by decide)
            obtain ⟨s_45, hs_45⟩ : ∃ z, MTq I_39 J_40 x b_8 = z := ⟨_, rfl⟩
            obtain ⟨s_46, hs_46⟩ : ∃ z, NRq I_39 J_40 x b_10 b_11 = z := ⟨_, rfl⟩
            have c_44 : mBad (4) (s_9) (s_12) = (x_38, s_45, s_46) := by have q := fx_38; simp only [emqx, enqx, hs_9, hs_12, hs_45, hs_46] at q; exact q.symm
            have hs_47 : NVq I_39 J_40 x b_4 = s_5 := (vq_fq wvqx hFI_39 hGJ_40 (by decide) (by decide)).trans hs_5
            have hs_48 : NWq I_39 J_40 x b_6 = s_7 := (zq_fq wzqx hFI_39 hGJ_40 (by decide) (by decide)).trans hs_7
            have hs_49 : QTq I_39 J_40 x = s_13 := (qq_fq wqqx hFI_39 hGJ_40 (by decide) (by decide)).trans hs_13
            exact g_zret (ty := .boolean) (r := x_38) B K rfl (nar_z (rg_w rx_38 (by decide) (by decide))) ⟨hUI_39, hF_42, hG_43, rx_38, (by (try simp only [h_30, h_32, f_35, (eq_true h_36), c_44, if_true, if_false, mqM_tp, mqM_size, mqM_limit, mqM_to, mqM_frm, mqM_kind, mqM_number, mqM_sign, mqM_word, MT_.w_tp, MT_.w_size, MT_.w_limit, MT_.w_to, MT_.w_frm, MT_.w_kind, MT_.w_number, MT_.w_sign, MT_.w_word, nqM_rd, nqM_rn, nqM_taped, nqM_mfault, nqM_mplace, nqM_told, nqM_hl, nqM_hd, NR_.w_rd, NR_.w_rn, NR_.w_taped, NR_.w_mfault, NR_.w_mplace, NR_.w_told, NR_.w_hl, NR_.w_hd, qqM_om, QT_.w_om, vqM_nv, NV_.w_nv, zqM_nw, NW_.w_nw] at hQ_28); (try simp only [h_30, h_32, f_35, (eq_true h_36), c_44, if_true, if_false, mqM_tp, mqM_size, mqM_limit, mqM_to, mqM_frm, mqM_kind, mqM_number, mqM_sign, mqM_word, MT_.w_tp, MT_.w_size, MT_.w_limit, MT_.w_to, MT_.w_frm, MT_.w_kind, MT_.w_number, MT_.w_sign, MT_.w_word, nqM_rd, nqM_rn, nqM_taped, nqM_mfault, nqM_mplace, nqM_told, nqM_hl, nqM_hd, NR_.w_rd, NR_.w_rn, NR_.w_taped, NR_.w_mfault, NR_.w_mplace, NR_.w_told, NR_.w_hl, NR_.w_hd, qqM_om, QT_.w_om, vqM_nv, NV_.w_nv, zqM_nw, NW_.w_nw] at u_29); simp only [mSd0, mSd1, mSd2, mBadQ, evqx, hs_47, hs_5, ezqx, hs_48, hs_7, emqx, hs_45, hs_9, enqx, hs_46, hs_12, eqqx, hs_49, hs_13, hQ_28, u_29, h_30, h_32, f_35, (eq_true h_36), c_44, if_true, if_false, mqM_tp, mqM_size, mqM_limit, mqM_to, mqM_frm, mqM_kind, mqM_number, mqM_sign, mqM_word, MT_.w_tp, MT_.w_size, MT_.w_limit, MT_.w_to, MT_.w_frm, MT_.w_kind, MT_.w_number, MT_.w_sign, MT_.w_word, nqM_rd, nqM_rn, nqM_taped, nqM_mfault, nqM_mplace, nqM_told, nqM_hl, nqM_hd, NR_.w_rd, NR_.w_rn, NR_.w_taped, NR_.w_mfault, NR_.w_mplace, NR_.w_told, NR_.w_hl, NR_.w_hd, qqM_om, QT_.w_om, vqM_nv, NV_.w_nv, zqM_nw, NW_.w_nw]), (fun q => ne_no q rx_38 rc_0), (fq_at hFI_39 hLx hkx (by decide) (by decide) q_22)⟩ dX12_readSaid_69
          · skip
            have n_50 : ¬ v_17 = 20 := h_36
            have r_51 := ne_hi (hi := 19) n_50 rv_17 rc_20 rfl (by decide)
            refine g_aload_n C 0 dX12_readSaid_55 rfl rfl ?_
            refine g_getI C K hLx hkx f_12_398 (v := 8) q_22 dX12_readSaid_56 ?_
            refine g_bipush C (v := 8) dX12_readSaid_59 (by decide) ?_
            refine g_icmp_ne C (tgt := 70) dX12_readSaid_61 (by decide) (fun h_52 => ?_) (fun h_52 => ?_)
            · skip
              exact absurd (h_52) (by decide)
            · skip
              refine g_aload_n C 0 dX12_readSaid_64 rfl rfl ?_
              refine g_iconst C (v := 4) dX12_readSaid_65 (by decide) ?_
              refine g_callVI C K (c_X12_bad W9 hLx hkx 4 (rg_w rc_4 (by decide) (by decide)) hU) hLx hkx (by decide) rfl v_12_146 rfl ⟨rfl, rfl⟩ ⟨Nat.le_of_ble_eq_true rfl, Nat.le_of_ble_eq_true rfl⟩ (Nat.le_of_ble_eq_true rfl) ⟨Nat.le_of_ble_eq_true rfl, Nat.le_of_ble_eq_true rfl⟩ dX12_readSaid_66 rfl (st := []) (fun x_53 I_54 J_55 h_56 => ?_)
              obtain ⟨hUI_54, hFI_54, hGJ_55, rx_53, fx_53⟩ := h_56
              have hF_57 := fq_tr hF hFI_54 (by decide)
              have hG_58 := fq_tr hG hGJ_55 (by decide)
              obtain ⟨s_60, hs_60⟩ : ∃ z, MTq I_54 J_55 x b_8 = z := ⟨_, rfl⟩
              obtain ⟨s_61, hs_61⟩ : ∃ z, NRq I_54 J_55 x b_10 b_11 = z := ⟨_, rfl⟩
              have c_59 : mBad (4) (s_9) (s_12) = (x_53, s_60, s_61) := by have q := fx_53; simp only [emqx, enqx, hs_9, hs_12, hs_60, hs_61] at q; exact q.symm
              have hs_62 : NVq I_54 J_55 x b_4 = s_5 := (vq_fq wvqx hFI_54 hGJ_55 (by decide) (by decide)).trans hs_5
              have hs_63 : NWq I_54 J_55 x b_6 = s_7 := (zq_fq wzqx hFI_54 hGJ_55 (by decide) (by decide)).trans hs_7
              have hs_64 : QTq I_54 J_55 x = s_13 := (qq_fq wqqx hFI_54 hGJ_55 (by decide) (by decide)).trans hs_13
              exact g_zret (ty := .boolean) (r := x_53) B K rfl (nar_z (rg_w rx_53 (by decide) (by decide))) ⟨hUI_54, hF_57, hG_58, rx_53, (by (try simp only [h_30, h_32, f_35, h_36, (eq_true h_52), c_59, if_true, if_false, mqM_tp, mqM_size, mqM_limit, mqM_to, mqM_frm, mqM_kind, mqM_number, mqM_sign, mqM_word, MT_.w_tp, MT_.w_size, MT_.w_limit, MT_.w_to, MT_.w_frm, MT_.w_kind, MT_.w_number, MT_.w_sign, MT_.w_word, nqM_rd, nqM_rn, nqM_taped, nqM_mfault, nqM_mplace, nqM_told, nqM_hl, nqM_hd, NR_.w_rd, NR_.w_rn, NR_.w_taped, NR_.w_mfault, NR_.w_mplace, NR_.w_told, NR_.w_hl, NR_.w_hd, qqM_om, QT_.w_om, vqM_nv, NV_.w_nv, zqM_nw, NW_.w_nw] at hQ_28); (try simp only [h_30, h_32, f_35, h_36, (eq_true h_52), c_59, if_true, if_false, mqM_tp, mqM_size, mqM_limit, mqM_to, mqM_frm, mqM_kind, mqM_number, mqM_sign, mqM_word, MT_.w_tp, MT_.w_size, MT_.w_limit, MT_.w_to, MT_.w_frm, MT_.w_kind, MT_.w_number, MT_.w_sign, MT_.w_word, nqM_rd, nqM_rn, nqM_taped, nqM_mfault, nqM_mplace, nqM_told, nqM_hl, nqM_hd, NR_.w_rd, NR_.w_rn, NR_.w_taped, NR_.w_mfault, NR_.w_mplace, NR_.w_told, NR_.w_hl, NR_.w_hd, qqM_om, QT_.w_om, vqM_nv, NV_.w_nv, zqM_nw, NW_.w_nw] at u_29); simp only [mSd0, mSd1, mSd2, mBadQ, evqx, hs_62, hs_5, ezqx, hs_63, hs_7, emqx, hs_60, hs_9, enqx, hs_61, hs_12, eqqx, hs_64, hs_13, hQ_28, u_29, h_30, h_32, f_35, h_36, (eq_true h_52), c_59, if_true, if_false, mqM_tp, mqM_size, mqM_limit, mqM_to, mqM_frm, mqM_kind, mqM_number, mqM_sign, mqM_word, MT_.w_tp, MT_.w_size, MT_.w_limit, MT_.w_to, MT_.w_frm, MT_.w_kind, MT_.w_number, MT_.w_sign, MT_.w_word, nqM_rd, nqM_rn, nqM_taped, nqM_mfault, nqM_mplace, nqM_told, nqM_hl, nqM_hd, NR_.w_rd, NR_.w_rn, NR_.w_taped, NR_.w_mfault, NR_.w_mplace, NR_.w_told, NR_.w_hl, NR_.w_hd, qqM_om, QT_.w_om, vqM_nv, NV_.w_nv, zqM_nw, NW_.w_nw]), (fun q => ne_no q rx_53 rc_0), (fq_at hFI_54 hLx hkx (by decide) (by decide) q_22)⟩ dX12_readSaid_69
        · skip
          have r_65 := (⟨(rv_14).1, (eq_rg (h_32) rc_0).2⟩ : Rg 0 0 v_14)
          refine g_iload_n C 2 dX12_readSaid_34 rfl rfl ?_
          refine g_bipush C (v := 27) dX12_readSaid_35 (by decide) ?_
          refine g_icmp_le C (tgt := 46) dX12_readSaid_37 (by decide) (fun h_66 => ?_) (fun h_66 => ?_)
          · skip
            have r_67 := le_l (h_66) r_31 rc_27
            exact rg_no r_67 (by decide)
          · skip
            refine g_aload_n C 0 dX12_readSaid_40 rfl rfl ?_
            refine g_iconst C (v := 1) dX12_readSaid_41 (by decide) ?_
            refine g_callVI C K (c_X12_bad W9 hLx hkx 1 (rg_w rc_1 (by decide) (by decide)) hU) hLx hkx (by decide) rfl v_12_146 rfl ⟨rfl, rfl⟩ ⟨Nat.le_of_ble_eq_true rfl, Nat.le_of_ble_eq_true rfl⟩ (Nat.le_of_ble_eq_true rfl) ⟨Nat.le_of_ble_eq_true rfl, Nat.le_of_ble_eq_true rfl⟩ dX12_readSaid_42 rfl (st := []) (fun x_68 I_69 J_70 h_71 => ?_)
            obtain ⟨hUI_69, hFI_69, hGJ_70, rx_68, fx_68⟩ := h_71
            have hF_72 := fq_tr hF hFI_69 (by decide)
            have hG_73 := fq_tr hG hGJ_70 (by decide)
            obtain ⟨s_75, hs_75⟩ : ∃ z, MTq I_69 J_70 x b_8 = z := ⟨_, rfl⟩
            obtain ⟨s_76, hs_76⟩ : ∃ z, NRq I_69 J_70 x b_10 b_11 = z := ⟨_, rfl⟩
            have c_74 : mBad (1) (s_9) (s_12) = (x_68, s_75, s_76) := by have q := fx_68; simp only [emqx, enqx, hs_9, hs_12, hs_75, hs_76] at q; exact q.symm
            have hs_77 : NVq I_69 J_70 x b_4 = s_5 := (vq_fq wvqx hFI_69 hGJ_70 (by decide) (by decide)).trans hs_5
            have hs_78 : NWq I_69 J_70 x b_6 = s_7 := (zq_fq wzqx hFI_69 hGJ_70 (by decide) (by decide)).trans hs_7
            have hs_79 : QTq I_69 J_70 x = s_13 := (qq_fq wqqx hFI_69 hGJ_70 (by decide) (by decide)).trans hs_13
            exact g_zret (ty := .boolean) (r := x_68) B K rfl (nar_z (rg_w rx_68 (by decide) (by decide))) ⟨hUI_69, hF_72, hG_73, rx_68, (by (try simp only [h_30, (eq_true h_32), h_66, (nle h_66), c_74, if_true, if_false, mqM_tp, mqM_size, mqM_limit, mqM_to, mqM_frm, mqM_kind, mqM_number, mqM_sign, mqM_word, MT_.w_tp, MT_.w_size, MT_.w_limit, MT_.w_to, MT_.w_frm, MT_.w_kind, MT_.w_number, MT_.w_sign, MT_.w_word, nqM_rd, nqM_rn, nqM_taped, nqM_mfault, nqM_mplace, nqM_told, nqM_hl, nqM_hd, NR_.w_rd, NR_.w_rn, NR_.w_taped, NR_.w_mfault, NR_.w_mplace, NR_.w_told, NR_.w_hl, NR_.w_hd, qqM_om, QT_.w_om, vqM_nv, NV_.w_nv, zqM_nw, NW_.w_nw] at hQ_28); (try simp only [h_30, (eq_true h_32), h_66, (nle h_66), c_74, if_true, if_false, mqM_tp, mqM_size, mqM_limit, mqM_to, mqM_frm, mqM_kind, mqM_number, mqM_sign, mqM_word, MT_.w_tp, MT_.w_size, MT_.w_limit, MT_.w_to, MT_.w_frm, MT_.w_kind, MT_.w_number, MT_.w_sign, MT_.w_word, nqM_rd, nqM_rn, nqM_taped, nqM_mfault, nqM_mplace, nqM_told, nqM_hl, nqM_hd, NR_.w_rd, NR_.w_rn, NR_.w_taped, NR_.w_mfault, NR_.w_mplace, NR_.w_told, NR_.w_hl, NR_.w_hd, qqM_om, QT_.w_om, vqM_nv, NV_.w_nv, zqM_nw, NW_.w_nw] at u_29); simp only [mSd0, mSd1, mSd2, mBadQ, evqx, hs_77, hs_5, ezqx, hs_78, hs_7, emqx, hs_75, hs_9, enqx, hs_76, hs_12, eqqx, hs_79, hs_13, hQ_28, u_29, h_30, (eq_true h_32), h_66, (nle h_66), c_74, if_true, if_false, mqM_tp, mqM_size, mqM_limit, mqM_to, mqM_frm, mqM_kind, mqM_number, mqM_sign, mqM_word, MT_.w_tp, MT_.w_size, MT_.w_limit, MT_.w_to, MT_.w_frm, MT_.w_kind, MT_.w_number, MT_.w_sign, MT_.w_word, nqM_rd, nqM_rn, nqM_taped, nqM_mfault, nqM_mplace, nqM_told, nqM_hl, nqM_hd, NR_.w_rd, NR_.w_rn, NR_.w_taped, NR_.w_mfault, NR_.w_mplace, NR_.w_told, NR_.w_hl, NR_.w_hd, qqM_om, QT_.w_om, vqM_nv, NV_.w_nv, zqM_nw, NW_.w_nw]), (fun q => ne_no q rx_68 rc_0), (fq_at hFI_69 hLx hkx (by decide) (by decide) q_22)⟩ dX12_readSaid_45
      · skip
        have r_80 := le_l (nlt h_30) rv_15 rc_27
        refine g_aload_n C 0 dX12_readSaid_16 rfl rfl ?_
        refine g_iload_n C 2 dX12_readSaid_17 rfl rfl ?_
        refine g_callVI C K (c_X12_isWord W9 hLx hkx v_15 (rg_w r_80 (by decide) (by decide)) hU) hLx hkx (by decide) rfl v_12_191 rfl ⟨rfl, rfl⟩ ⟨Nat.le_of_ble_eq_true rfl, Nat.le_of_ble_eq_true rfl⟩ (Nat.le_of_ble_eq_true rfl) ⟨Nat.le_of_ble_eq_true rfl, Nat.le_of_ble_eq_true rfl⟩ dX12_readSaid_18 rfl (st := []) (fun x_81 I_82 J_83 h_84 => ?_)
        obtain ⟨rfl, rfl, rx_81, fx_81⟩ := h_84
        have c_85 : mIsWord (v_15) (s_9) = x_81 := by have q := fx_81; simp only [emqx, hs_9] at q; exact q.symm
        refine g_if_ne C (tgt := 30) dX12_readSaid_21 (by decide) (fun h_86 => ?_) (fun h_86 => ?_)
        · skip
          have n_87 : ¬ x_81 = 0 := h_86
          have r_88 := ne_lo (lo := 1) n_87 rx_81 rc_0 rfl (by decide)
          refine g_iload_n C 1 dX12_readSaid_30 rfl rfl ?_
          refine g_if_ne C (tgt := 46) dX12_readSaid_31 (by decide) (fun h_89 => ?_) (fun h_89 => ?_)
          · skip
            have n_90 : ¬ v_14 = 0 := h_89
            have r_91 := ne_lo (lo := 1) n_90 rv_14 rc_0 rfl (by decide)
            refine g_aload_n C 0 dX12_readSaid_46 rfl rfl ?_
            have f_92 : s_13.om = v_17 := (congrArg QT_.om hs_13).symm.trans q_21
            refine g_getI C K hLx hkx f_12_395 (v := v_17) q_21 dX12_readSaid_47 ?_
            refine g_bipush C (v := 20) dX12_readSaid_50 (by decide) ?_
            refine g_icmp_eq C (tgt := 64) dX12_readSaid_52 (by decide) (fun h_93 => ?_) (fun h_93 => ?_)
            · skip
              have r_94 := (⟨(eq_rg (h_93) rc_20).1, (rv_17).2⟩ : Rg 20 20 v_17)
              refine g_aload_n C 0 dX12_readSaid_64 rfl rfl ?_
              refine g_iconst C (v := 4) dX12_readSaid_65 (by decide) ?_
              refine g_callVI C K (c_X12_bad W9 hLx hkx 4 (rg_w rc_4 (by decide) (by decide)) hU) hLx hkx (by decide) rfl v_12_146 rfl ⟨rfl, rfl⟩ ⟨Nat.le_of_ble_eq_true rfl, Nat.le_of_ble_eq_true rfl⟩ (Nat.le_of_ble_eq_true rfl) ⟨Nat.le_of_ble_eq_true rfl, Nat.le_of_ble_eq_true rfl⟩ dX12_readSaid_66 rfl (st := []) (fun x_95 I_96 J_97 h_98 => ?_)
              obtain ⟨hUI_96, hFI_96, hGJ_97, rx_95, fx_95⟩ := h_98
              have hF_99 := fq_tr hF hFI_96 (by decide)
              have hG_100 := fq_tr hG hGJ_97 (by decide)
              obtain ⟨s_102, hs_102⟩ : ∃ z, MTq I_96 J_97 x b_8 = z := ⟨_, rfl⟩
              obtain ⟨s_103, hs_103⟩ : ∃ z, NRq I_96 J_97 x b_10 b_11 = z := ⟨_, rfl⟩
              have c_101 : mBad (4) (s_9) (s_12) = (x_95, s_102, s_103) := by have q := fx_95; simp only [emqx, enqx, hs_9, hs_12, hs_102, hs_103] at q; exact q.symm
              have hs_104 : NVq I_96 J_97 x b_4 = s_5 := (vq_fq wvqx hFI_96 hGJ_97 (by decide) (by decide)).trans hs_5
              have hs_105 : NWq I_96 J_97 x b_6 = s_7 := (zq_fq wzqx hFI_96 hGJ_97 (by decide) (by decide)).trans hs_7
              have hs_106 : QTq I_96 J_97 x = s_13 := (qq_fq wqqx hFI_96 hGJ_97 (by decide) (by decide)).trans hs_13
              exact g_zret (ty := .boolean) (r := x_95) B K rfl (nar_z (rg_w rx_95 (by decide) (by decide))) ⟨hUI_96, hF_99, hG_100, rx_95, (by (try simp only [h_30, (nlt h_30), c_85, h_86, h_89, f_92, (eq_true h_93), c_101, if_true, if_false, mqM_tp, mqM_size, mqM_limit, mqM_to, mqM_frm, mqM_kind, mqM_number, mqM_sign, mqM_word, MT_.w_tp, MT_.w_size, MT_.w_limit, MT_.w_to, MT_.w_frm, MT_.w_kind, MT_.w_number, MT_.w_sign, MT_.w_word, nqM_rd, nqM_rn, nqM_taped, nqM_mfault, nqM_mplace, nqM_told, nqM_hl, nqM_hd, NR_.w_rd, NR_.w_rn, NR_.w_taped, NR_.w_mfault, NR_.w_mplace, NR_.w_told, NR_.w_hl, NR_.w_hd, qqM_om, QT_.w_om, vqM_nv, NV_.w_nv, zqM_nw, NW_.w_nw] at hQ_28); (try simp only [h_30, (nlt h_30), c_85, h_86, h_89, f_92, (eq_true h_93), c_101, if_true, if_false, mqM_tp, mqM_size, mqM_limit, mqM_to, mqM_frm, mqM_kind, mqM_number, mqM_sign, mqM_word, MT_.w_tp, MT_.w_size, MT_.w_limit, MT_.w_to, MT_.w_frm, MT_.w_kind, MT_.w_number, MT_.w_sign, MT_.w_word, nqM_rd, nqM_rn, nqM_taped, nqM_mfault, nqM_mplace, nqM_told, nqM_hl, nqM_hd, NR_.w_rd, NR_.w_rn, NR_.w_taped, NR_.w_mfault, NR_.w_mplace, NR_.w_told, NR_.w_hl, NR_.w_hd, qqM_om, QT_.w_om, vqM_nv, NV_.w_nv, zqM_nw, NW_.w_nw] at u_29); simp only [mSd0, mSd1, mSd2, mBadQ, evqx, hs_104, hs_5, ezqx, hs_105, hs_7, emqx, hs_102, hs_9, enqx, hs_103, hs_12, eqqx, hs_106, hs_13, hQ_28, u_29, h_30, (nlt h_30), c_85, h_86, h_89, f_92, (eq_true h_93), c_101, if_true, if_false, mqM_tp, mqM_size, mqM_limit, mqM_to, mqM_frm, mqM_kind, mqM_number, mqM_sign, mqM_word, MT_.w_tp, MT_.w_size, MT_.w_limit, MT_.w_to, MT_.w_frm, MT_.w_kind, MT_.w_number, MT_.w_sign, MT_.w_word, nqM_rd, nqM_rn, nqM_taped, nqM_mfault, nqM_mplace, nqM_told, nqM_hl, nqM_hd, NR_.w_rd, NR_.w_rn, NR_.w_taped, NR_.w_mfault, NR_.w_mplace, NR_.w_told, NR_.w_hl, NR_.w_hd, qqM_om, QT_.w_om, vqM_nv, NV_.w_nv, zqM_nw, NW_.w_nw]), (fun q => ne_no q rx_95 rc_0), (fq_at hFI_96 hLx hkx (by decide) (by decide) q_22)⟩ dX12_readSaid_69
            · skip
              have n_107 : ¬ v_17 = 20 := h_93
              have r_108 := ne_hi (hi := 19) n_107 rv_17 rc_20 rfl (by decide)
              refine g_aload_n C 0 dX12_readSaid_55 rfl rfl ?_
              refine g_getI C K hLx hkx f_12_398 (v := 8) q_22 dX12_readSaid_56 ?_
              refine g_bipush C (v := 8) dX12_readSaid_59 (by decide) ?_
              refine g_icmp_ne C (tgt := 70) dX12_readSaid_61 (by decide) (fun h_109 => ?_) (fun h_109 => ?_)
              · skip
                exact absurd (h_109) (by decide)
              · skip
                refine g_aload_n C 0 dX12_readSaid_64 rfl rfl ?_
                refine g_iconst C (v := 4) dX12_readSaid_65 (by decide) ?_
                refine g_callVI C K (c_X12_bad W9 hLx hkx 4 (rg_w rc_4 (by decide) (by decide)) hU) hLx hkx (by decide) rfl v_12_146 rfl ⟨rfl, rfl⟩ ⟨Nat.le_of_ble_eq_true rfl, Nat.le_of_ble_eq_true rfl⟩ (Nat.le_of_ble_eq_true rfl) ⟨Nat.le_of_ble_eq_true rfl, Nat.le_of_ble_eq_true rfl⟩ dX12_readSaid_66 rfl (st := []) (fun x_110 I_111 J_112 h_113 => ?_)
                obtain ⟨hUI_111, hFI_111, hGJ_112, rx_110, fx_110⟩ := h_113
                have hF_114 := fq_tr hF hFI_111 (by decide)
                have hG_115 := fq_tr hG hGJ_112 (by decide)
                obtain ⟨s_117, hs_117⟩ : ∃ z, MTq I_111 J_112 x b_8 = z := ⟨_, rfl⟩
                obtain ⟨s_118, hs_118⟩ : ∃ z, NRq I_111 J_112 x b_10 b_11 = z := ⟨_, rfl⟩
                have c_116 : mBad (4) (s_9) (s_12) = (x_110, s_117, s_118) := by have q := fx_110; simp only [emqx, enqx, hs_9, hs_12, hs_117, hs_118] at q; exact q.symm
                have hs_119 : NVq I_111 J_112 x b_4 = s_5 := (vq_fq wvqx hFI_111 hGJ_112 (by decide) (by decide)).trans hs_5
                have hs_120 : NWq I_111 J_112 x b_6 = s_7 := (zq_fq wzqx hFI_111 hGJ_112 (by decide) (by decide)).trans hs_7
                have hs_121 : QTq I_111 J_112 x = s_13 := (qq_fq wqqx hFI_111 hGJ_112 (by decide) (by decide)).trans hs_13
                exact g_zret (ty := .boolean) (r := x_110) B K rfl (nar_z (rg_w rx_110 (by decide) (by decide))) ⟨hUI_111, hF_114, hG_115, rx_110, (by (try simp only [h_30, (nlt h_30), c_85, h_86, h_89, f_92, h_93, (eq_true h_109), c_116, if_true, if_false, mqM_tp, mqM_size, mqM_limit, mqM_to, mqM_frm, mqM_kind, mqM_number, mqM_sign, mqM_word, MT_.w_tp, MT_.w_size, MT_.w_limit, MT_.w_to, MT_.w_frm, MT_.w_kind, MT_.w_number, MT_.w_sign, MT_.w_word, nqM_rd, nqM_rn, nqM_taped, nqM_mfault, nqM_mplace, nqM_told, nqM_hl, nqM_hd, NR_.w_rd, NR_.w_rn, NR_.w_taped, NR_.w_mfault, NR_.w_mplace, NR_.w_told, NR_.w_hl, NR_.w_hd, qqM_om, QT_.w_om, vqM_nv, NV_.w_nv, zqM_nw, NW_.w_nw] at hQ_28); (try simp only [h_30, (nlt h_30), c_85, h_86, h_89, f_92, h_93, (eq_true h_109), c_116, if_true, if_false, mqM_tp, mqM_size, mqM_limit, mqM_to, mqM_frm, mqM_kind, mqM_number, mqM_sign, mqM_word, MT_.w_tp, MT_.w_size, MT_.w_limit, MT_.w_to, MT_.w_frm, MT_.w_kind, MT_.w_number, MT_.w_sign, MT_.w_word, nqM_rd, nqM_rn, nqM_taped, nqM_mfault, nqM_mplace, nqM_told, nqM_hl, nqM_hd, NR_.w_rd, NR_.w_rn, NR_.w_taped, NR_.w_mfault, NR_.w_mplace, NR_.w_told, NR_.w_hl, NR_.w_hd, qqM_om, QT_.w_om, vqM_nv, NV_.w_nv, zqM_nw, NW_.w_nw] at u_29); simp only [mSd0, mSd1, mSd2, mBadQ, evqx, hs_119, hs_5, ezqx, hs_120, hs_7, emqx, hs_117, hs_9, enqx, hs_118, hs_12, eqqx, hs_121, hs_13, hQ_28, u_29, h_30, (nlt h_30), c_85, h_86, h_89, f_92, h_93, (eq_true h_109), c_116, if_true, if_false, mqM_tp, mqM_size, mqM_limit, mqM_to, mqM_frm, mqM_kind, mqM_number, mqM_sign, mqM_word, MT_.w_tp, MT_.w_size, MT_.w_limit, MT_.w_to, MT_.w_frm, MT_.w_kind, MT_.w_number, MT_.w_sign, MT_.w_word, nqM_rd, nqM_rn, nqM_taped, nqM_mfault, nqM_mplace, nqM_told, nqM_hl, nqM_hd, NR_.w_rd, NR_.w_rn, NR_.w_taped, NR_.w_mfault, NR_.w_mplace, NR_.w_told, NR_.w_hl, NR_.w_hd, qqM_om, QT_.w_om, vqM_nv, NV_.w_nv, zqM_nw, NW_.w_nw]), (fun q => ne_no q rx_110 rc_0), (fq_at hFI_111 hLx hkx (by decide) (by decide) q_22)⟩ dX12_readSaid_69
          · skip
            have r_122 := (⟨(rv_14).1, (eq_rg (h_89) rc_0).2⟩ : Rg 0 0 v_14)
            refine g_iload_n C 2 dX12_readSaid_34 rfl rfl ?_
            refine g_bipush C (v := 27) dX12_readSaid_35 (by decide) ?_
            refine g_icmp_le C (tgt := 46) dX12_readSaid_37 (by decide) (fun h_123 => ?_) (fun h_123 => ?_)
            · skip
              refine g_aload_n C 0 dX12_readSaid_46 rfl rfl ?_
              have f_124 : s_13.om = v_17 := (congrArg QT_.om hs_13).symm.trans q_21
              refine g_getI C K hLx hkx f_12_395 (v := v_17) q_21 dX12_readSaid_47 ?_
              refine g_bipush C (v := 20) dX12_readSaid_50 (by decide) ?_
              refine g_icmp_eq C (tgt := 64) dX12_readSaid_52 (by decide) (fun h_125 => ?_) (fun h_125 => ?_)
              · skip
                have r_126 := (⟨(eq_rg (h_125) rc_20).1, (rv_17).2⟩ : Rg 20 20 v_17)
                refine g_aload_n C 0 dX12_readSaid_64 rfl rfl ?_
                refine g_iconst C (v := 4) dX12_readSaid_65 (by decide) ?_
                refine g_callVI C K (c_X12_bad W9 hLx hkx 4 (rg_w rc_4 (by decide) (by decide)) hU) hLx hkx (by decide) rfl v_12_146 rfl ⟨rfl, rfl⟩ ⟨Nat.le_of_ble_eq_true rfl, Nat.le_of_ble_eq_true rfl⟩ (Nat.le_of_ble_eq_true rfl) ⟨Nat.le_of_ble_eq_true rfl, Nat.le_of_ble_eq_true rfl⟩ dX12_readSaid_66 rfl (st := []) (fun x_127 I_128 J_129 h_130 => ?_)
                obtain ⟨hUI_128, hFI_128, hGJ_129, rx_127, fx_127⟩ := h_130
                have hF_131 := fq_tr hF hFI_128 (by decide)
                have hG_132 := fq_tr hG hGJ_129 (by decide)
                obtain ⟨s_134, hs_134⟩ : ∃ z, MTq I_128 J_129 x b_8 = z := ⟨_, rfl⟩
                obtain ⟨s_135, hs_135⟩ : ∃ z, NRq I_128 J_129 x b_10 b_11 = z := ⟨_, rfl⟩
                have c_133 : mBad (4) (s_9) (s_12) = (x_127, s_134, s_135) := by have q := fx_127; simp only [emqx, enqx, hs_9, hs_12, hs_134, hs_135] at q; exact q.symm
                have hs_136 : NVq I_128 J_129 x b_4 = s_5 := (vq_fq wvqx hFI_128 hGJ_129 (by decide) (by decide)).trans hs_5
                have hs_137 : NWq I_128 J_129 x b_6 = s_7 := (zq_fq wzqx hFI_128 hGJ_129 (by decide) (by decide)).trans hs_7
                have hs_138 : QTq I_128 J_129 x = s_13 := (qq_fq wqqx hFI_128 hGJ_129 (by decide) (by decide)).trans hs_13
                exact g_zret (ty := .boolean) (r := x_127) B K rfl (nar_z (rg_w rx_127 (by decide) (by decide))) ⟨hUI_128, hF_131, hG_132, rx_127, (by (try simp only [h_30, (nlt h_30), c_85, h_86, (eq_true h_89), h_123, f_124, (eq_true h_125), c_133, if_true, if_false, mqM_tp, mqM_size, mqM_limit, mqM_to, mqM_frm, mqM_kind, mqM_number, mqM_sign, mqM_word, MT_.w_tp, MT_.w_size, MT_.w_limit, MT_.w_to, MT_.w_frm, MT_.w_kind, MT_.w_number, MT_.w_sign, MT_.w_word, nqM_rd, nqM_rn, nqM_taped, nqM_mfault, nqM_mplace, nqM_told, nqM_hl, nqM_hd, NR_.w_rd, NR_.w_rn, NR_.w_taped, NR_.w_mfault, NR_.w_mplace, NR_.w_told, NR_.w_hl, NR_.w_hd, qqM_om, QT_.w_om, vqM_nv, NV_.w_nv, zqM_nw, NW_.w_nw] at hQ_28); (try simp only [h_30, (nlt h_30), c_85, h_86, (eq_true h_89), h_123, f_124, (eq_true h_125), c_133, if_true, if_false, mqM_tp, mqM_size, mqM_limit, mqM_to, mqM_frm, mqM_kind, mqM_number, mqM_sign, mqM_word, MT_.w_tp, MT_.w_size, MT_.w_limit, MT_.w_to, MT_.w_frm, MT_.w_kind, MT_.w_number, MT_.w_sign, MT_.w_word, nqM_rd, nqM_rn, nqM_taped, nqM_mfault, nqM_mplace, nqM_told, nqM_hl, nqM_hd, NR_.w_rd, NR_.w_rn, NR_.w_taped, NR_.w_mfault, NR_.w_mplace, NR_.w_told, NR_.w_hl, NR_.w_hd, qqM_om, QT_.w_om, vqM_nv, NV_.w_nv, zqM_nw, NW_.w_nw] at u_29); simp only [mSd0, mSd1, mSd2, mBadQ, evqx, hs_136, hs_5, ezqx, hs_137, hs_7, emqx, hs_134, hs_9, enqx, hs_135, hs_12, eqqx, hs_138, hs_13, hQ_28, u_29, h_30, (nlt h_30), c_85, h_86, (eq_true h_89), h_123, f_124, (eq_true h_125), c_133, if_true, if_false, mqM_tp, mqM_size, mqM_limit, mqM_to, mqM_frm, mqM_kind, mqM_number, mqM_sign, mqM_word, MT_.w_tp, MT_.w_size, MT_.w_limit, MT_.w_to, MT_.w_frm, MT_.w_kind, MT_.w_number, MT_.w_sign, MT_.w_word, nqM_rd, nqM_rn, nqM_taped, nqM_mfault, nqM_mplace, nqM_told, nqM_hl, nqM_hd, NR_.w_rd, NR_.w_rn, NR_.w_taped, NR_.w_mfault, NR_.w_mplace, NR_.w_told, NR_.w_hl, NR_.w_hd, qqM_om, QT_.w_om, vqM_nv, NV_.w_nv, zqM_nw, NW_.w_nw]), (fun q => ne_no q rx_127 rc_0), (fq_at hFI_128 hLx hkx (by decide) (by decide) q_22)⟩ dX12_readSaid_69
              · skip
                have n_139 : ¬ v_17 = 20 := h_125
                have r_140 := ne_hi (hi := 19) n_139 rv_17 rc_20 rfl (by decide)
                refine g_aload_n C 0 dX12_readSaid_55 rfl rfl ?_
                refine g_getI C K hLx hkx f_12_398 (v := 8) q_22 dX12_readSaid_56 ?_
                refine g_bipush C (v := 8) dX12_readSaid_59 (by decide) ?_
                refine g_icmp_ne C (tgt := 70) dX12_readSaid_61 (by decide) (fun h_141 => ?_) (fun h_141 => ?_)
                · skip
                  exact absurd (h_141) (by decide)
                · skip
                  refine g_aload_n C 0 dX12_readSaid_64 rfl rfl ?_
                  refine g_iconst C (v := 4) dX12_readSaid_65 (by decide) ?_
                  refine g_callVI C K (c_X12_bad W9 hLx hkx 4 (rg_w rc_4 (by decide) (by decide)) hU) hLx hkx (by decide) rfl v_12_146 rfl ⟨rfl, rfl⟩ ⟨Nat.le_of_ble_eq_true rfl, Nat.le_of_ble_eq_true rfl⟩ (Nat.le_of_ble_eq_true rfl) ⟨Nat.le_of_ble_eq_true rfl, Nat.le_of_ble_eq_true rfl⟩ dX12_readSaid_66 rfl (st := []) (fun x_142 I_143 J_144 h_145 => ?_)
                  obtain ⟨hUI_143, hFI_143, hGJ_144, rx_142, fx_142⟩ := h_145
                  have hF_146 := fq_tr hF hFI_143 (by decide)
                  have hG_147 := fq_tr hG hGJ_144 (by decide)
                  obtain ⟨s_149, hs_149⟩ : ∃ z, MTq I_143 J_144 x b_8 = z := ⟨_, rfl⟩
                  obtain ⟨s_150, hs_150⟩ : ∃ z, NRq I_143 J_144 x b_10 b_11 = z := ⟨_, rfl⟩
                  have c_148 : mBad (4) (s_9) (s_12) = (x_142, s_149, s_150) := by have q := fx_142; simp only [emqx, enqx, hs_9, hs_12, hs_149, hs_150] at q; exact q.symm
                  have hs_151 : NVq I_143 J_144 x b_4 = s_5 := (vq_fq wvqx hFI_143 hGJ_144 (by decide) (by decide)).trans hs_5
                  have hs_152 : NWq I_143 J_144 x b_6 = s_7 := (zq_fq wzqx hFI_143 hGJ_144 (by decide) (by decide)).trans hs_7
                  have hs_153 : QTq I_143 J_144 x = s_13 := (qq_fq wqqx hFI_143 hGJ_144 (by decide) (by decide)).trans hs_13
                  exact g_zret (ty := .boolean) (r := x_142) B K rfl (nar_z (rg_w rx_142 (by decide) (by decide))) ⟨hUI_143, hF_146, hG_147, rx_142, (by (try simp only [h_30, (nlt h_30), c_85, h_86, (eq_true h_89), h_123, f_124, h_125, (eq_true h_141), c_148, if_true, if_false, mqM_tp, mqM_size, mqM_limit, mqM_to, mqM_frm, mqM_kind, mqM_number, mqM_sign, mqM_word, MT_.w_tp, MT_.w_size, MT_.w_limit, MT_.w_to, MT_.w_frm, MT_.w_kind, MT_.w_number, MT_.w_sign, MT_.w_word, nqM_rd, nqM_rn, nqM_taped, nqM_mfault, nqM_mplace, nqM_told, nqM_hl, nqM_hd, NR_.w_rd, NR_.w_rn, NR_.w_taped, NR_.w_mfault, NR_.w_mplace, NR_.w_told, NR_.w_hl, NR_.w_hd, qqM_om, QT_.w_om, vqM_nv, NV_.w_nv, zqM_nw, NW_.w_nw] at hQ_28); (try simp only [h_30, (nlt h_30), c_85, h_86, (eq_true h_89), h_123, f_124, h_125, (eq_true h_141), c_148, if_true, if_false, mqM_tp, mqM_size, mqM_limit, mqM_to, mqM_frm, mqM_kind, mqM_number, mqM_sign, mqM_word, MT_.w_tp, MT_.w_size, MT_.w_limit, MT_.w_to, MT_.w_frm, MT_.w_kind, MT_.w_number, MT_.w_sign, MT_.w_word, nqM_rd, nqM_rn, nqM_taped, nqM_mfault, nqM_mplace, nqM_told, nqM_hl, nqM_hd, NR_.w_rd, NR_.w_rn, NR_.w_taped, NR_.w_mfault, NR_.w_mplace, NR_.w_told, NR_.w_hl, NR_.w_hd, qqM_om, QT_.w_om, vqM_nv, NV_.w_nv, zqM_nw, NW_.w_nw] at u_29); simp only [mSd0, mSd1, mSd2, mBadQ, evqx, hs_151, hs_5, ezqx, hs_152, hs_7, emqx, hs_149, hs_9, enqx, hs_150, hs_12, eqqx, hs_153, hs_13, hQ_28, u_29, h_30, (nlt h_30), c_85, h_86, (eq_true h_89), h_123, f_124, h_125, (eq_true h_141), c_148, if_true, if_false, mqM_tp, mqM_size, mqM_limit, mqM_to, mqM_frm, mqM_kind, mqM_number, mqM_sign, mqM_word, MT_.w_tp, MT_.w_size, MT_.w_limit, MT_.w_to, MT_.w_frm, MT_.w_kind, MT_.w_number, MT_.w_sign, MT_.w_word, nqM_rd, nqM_rn, nqM_taped, nqM_mfault, nqM_mplace, nqM_told, nqM_hl, nqM_hd, NR_.w_rd, NR_.w_rn, NR_.w_taped, NR_.w_mfault, NR_.w_mplace, NR_.w_told, NR_.w_hl, NR_.w_hd, qqM_om, QT_.w_om, vqM_nv, NV_.w_nv, zqM_nw, NW_.w_nw]), (fun q => ne_no q rx_142 rc_0), (fq_at hFI_143 hLx hkx (by decide) (by decide) q_22)⟩ dX12_readSaid_69
            · skip
              have r_154 := lt_r (lo := 28) (nle h_123) rc_27 r_80 (by decide)
              exact rg_no r_154 (by decide)
        · skip
          have r_155 := (⟨(rx_81).1, (eq_rg (h_86) rc_0).2⟩ : Rg 0 0 x_81)
          obtain ⟨x_156, hx_156, rx_156, tx_156⟩ := ex_add (y := 1) 19 28 r_80 rc_1 (by decide) (by decide) (by decide) (by decide)
          refine g_iinc C dX12_readSaid_24 (k := 2) (v := x_156) rfl hx_156 (by decide) (lo2 := [(2, .int x_156), (0, .ref x), (1, .int v_14)]) rfl ?_
          refine g_goto C (tgt := 10) dX12_readSaid_27 (by decide) ?_
          have f_157 : s_13.om = v_17 := (congrArg QT_.om hs_13).symm.trans q_21
          refine g_lo (is := [1, 2, 0]) (lo2 := [(0, .ref x), (1, .int v_14), (2, .int x_156)]) rfl ?_
          exact ih_10 v_14 (rv_14) x_156 (rg_w rx_156 (by decide) (by decide)) v_16 (rv_16) v_17 (rv_17) v_18 (rv_18) v_19 (rv_19) q_20 q_21 q_22 q_23 q_24 (by (try simp only [h_30, (nlt h_30), c_85, (eq_true h_86), hx_156, if_true, if_false, mqM_tp, mqM_size, mqM_limit, mqM_to, mqM_frm, mqM_kind, mqM_number, mqM_sign, mqM_word, MT_.w_tp, MT_.w_size, MT_.w_limit, MT_.w_to, MT_.w_frm, MT_.w_kind, MT_.w_number, MT_.w_sign, MT_.w_word, nqM_rd, nqM_rn, nqM_taped, nqM_mfault, nqM_mplace, nqM_told, nqM_hl, nqM_hd, NR_.w_rd, NR_.w_rn, NR_.w_taped, NR_.w_mfault, NR_.w_mplace, NR_.w_told, NR_.w_hl, NR_.w_hd, qqM_om, QT_.w_om, vqM_nv, NV_.w_nv, zqM_nw, NW_.w_nw] at hQ_28); (try simp only [h_30, (nlt h_30), c_85, (eq_true h_86), hx_156, if_true, if_false, mqM_tp, mqM_size, mqM_limit, mqM_to, mqM_frm, mqM_kind, mqM_number, mqM_sign, mqM_word, MT_.w_tp, MT_.w_size, MT_.w_limit, MT_.w_to, MT_.w_frm, MT_.w_kind, MT_.w_number, MT_.w_sign, MT_.w_word, nqM_rd, nqM_rn, nqM_taped, nqM_mfault, nqM_mplace, nqM_told, nqM_hl, nqM_hd, NR_.w_rd, NR_.w_rn, NR_.w_taped, NR_.w_mfault, NR_.w_mplace, NR_.w_told, NR_.w_hl, NR_.w_hd, qqM_om, QT_.w_om, vqM_nv, NV_.w_nv, zqM_nw, NW_.w_nw] at u_29); simp only [mSd0, mSd1, mSd2, mBadQ, evqx, hs_5, ezqx, hs_7, emqx, hs_9, enqx, hs_12, eqqx, hs_13, hQ_28, u_29, h_30, (nlt h_30), c_85, (eq_true h_86), hx_156, if_true, if_false, mqM_tp, mqM_size, mqM_limit, mqM_to, mqM_frm, mqM_kind, mqM_number, mqM_sign, mqM_word, MT_.w_tp, MT_.w_size, MT_.w_limit, MT_.w_to, MT_.w_frm, MT_.w_kind, MT_.w_number, MT_.w_sign, MT_.w_word, nqM_rd, nqM_rn, nqM_taped, nqM_mfault, nqM_mplace, nqM_told, nqM_hl, nqM_hd, NR_.w_rd, NR_.w_rn, NR_.w_taped, NR_.w_mfault, NR_.w_mplace, NR_.w_told, NR_.w_hl, NR_.w_hd, qqM_om, QT_.w_om, vqM_nv, NV_.w_nv, zqM_nw, NW_.w_nw]) ⟨by omega, by omega⟩ (ms_1 hm_27 (ti_k tx_156 rc_1) (by decide))
  refine g_aload_n C 0 dX12_readSaid_0 rfl rfl ?_
  refine g_bipush C (v := 40) dX12_readSaid_1 (by decide) ?_
  obtain ⟨x_158, hx_158, rx_158⟩ := ex_getw (I := I) (a := x) (j := 7) (lo := 0) (hi := 4) hU.1 hLx (ro_o hkx (by decide)) rfl
  have f_159 : s_9.kind = x_158 := (congrArg MT_.kind hs_9).symm.trans hx_158
  refine g_callVI C K (c_X12_isSign W9 hLx hkx 40 (rg_w rc_40 (by decide) (by decide)) hU) hLx hkx (by decide) rfl v_12_159 rfl ⟨rfl, rfl⟩ ⟨Nat.le_of_ble_eq_true rfl, Nat.le_of_ble_eq_true rfl⟩ (Nat.le_of_ble_eq_true rfl) ⟨Nat.le_of_ble_eq_true rfl, Nat.le_of_ble_eq_true rfl⟩ dX12_readSaid_3 rfl (st := []) (fun x_160 I_161 J_162 h_163 => ?_)
  obtain ⟨rfl, rfl, rx_160, fx_160, ex_160⟩ := h_163
  have c_164 : mIsSign (40) (s_9) = x_160 := by have q := fx_160; simp only [emqx, hs_9] at q; exact q.symm
  have q_165 := hx_158
  refine g_istore_n C dX12_readSaid_6 rfl (by decide) (lo2 := [(1, .int x_160), (0, .ref x)]) rfl ?_
  refine g_bipush C (v := 18) dX12_readSaid_7 (by decide) ?_
  refine g_istore_n C dX12_readSaid_9 rfl (by decide) (lo2 := [(2, .int 18), (1, .int x_160), (0, .ref x)]) rfl ?_
  have f_166 : s_13.om = x_2 := (congrArg QT_.om hs_13).symm.trans hx_2
  refine g_lo (is := [2, 1, 0]) (lo2 := [(0, .ref x), (1, .int x_160), (2, .int 18)]) rfl ?_
  exact l_10 11 x_160 (rx_160) 18 (rg_w rc_18 (by decide) (by decide)) x_1 (rx_1) x_2 (rx_2) x_3 (rx_3) x_158 (rx_158) hx_1 hx_2 hwi hx_3 hx_158 (by simp only [mSaid_z, mSd0, mSd1, mSd2, mBadQ, evqx, hs_5, ezqx, hs_7, emqx, hs_9, enqx, hs_12, eqqx, hs_13, hx_1, hx_2, hx_3, hx_158, f_159, c_164, if_true, if_false, mqM_tp, mqM_size, mqM_limit, mqM_to, mqM_frm, mqM_kind, mqM_number, mqM_sign, mqM_word, MT_.w_tp, MT_.w_size, MT_.w_limit, MT_.w_to, MT_.w_frm, MT_.w_kind, MT_.w_number, MT_.w_sign, MT_.w_word, nqM_rd, nqM_rn, nqM_taped, nqM_mfault, nqM_mplace, nqM_told, nqM_hl, nqM_hd, NR_.w_rd, NR_.w_rn, NR_.w_taped, NR_.w_mfault, NR_.w_mplace, NR_.w_told, NR_.w_hl, NR_.w_hd, qqM_om, QT_.w_om, vqM_nv, NV_.w_nv, zqM_nw, NW_.w_nw]) ⟨by omega, by omega⟩ (ms_s (a := 18) (b := 28) (N := 11) (rg_w rc_18 (by decide) (by decide)) (by decide))
set_option maxRecDepth 100000 in
set_option maxHeartbeats 8000000 in
theorem c_X12_readAnd_8 {l : Launch} {D : va_G} {cy : Nat → ClassId} {L : List Nat} {κ ln : Nat → Nat} {R : Nat → Nat → Option Nat} {I : Nat → Nat → Int32} {J : Nat → Nat → Int64} {ow : Nat → Nat × Nat} (W9 : ∀ a ∈ L, Shp L κ ln R ow a) {x : Nat} (hLx : x ∈ L) (hkx : κ x = 12) (hU : Iw L κ R ow I) (hn : (I x 47).toInt ≤ 2 * (I x 48).toInt) (hwi : I x 49 = 8) : CtI l yX12_readAnd cX12_readAnd 2 (some .boolean) { frames := 4, cells := 0, slots := 0, locals := 92 } D cy L κ ln R I J [.ref x] (fun r I2 J2 => Iw L κ R ow I2 ∧ Fq L κ ow [1210, 1211] I I2 ∧ Fq L κ ow [] J J2 ∧ Rg 0 0 r ∧ ((r, MTf R I2 J2 x, NRf R I2 J2 x, QTf R I2 J2 x) = mAndK 0 (NVf R I J x) (NWf R I J x) (MTf R I J x) (NRf R I J x) (QTf R I J x)) ∧ (¬ r = 0 → Sz_ x I I2 1) ∧ (I2 x 49 = 8)) := by
  obtain ⟨x_1, hx_1, rx_1⟩ := ex_getw (I := I) (a := x) (j := 47) (lo := 0) (hi := 60) hU.1 hLx (ro_o hkx (by decide)) rfl
  obtain ⟨x_2, hx_2, rx_2⟩ := ex_getw (I := I) (a := x) (j := 48) (lo := 0) (hi := 20) hU.1 hLx (ro_o hkx (by decide)) rfl
  rw [hx_1, hx_2] at hn
  obtain ⟨x_3, hx_3, rx_3⟩ := ex_getw (I := I) (a := x) (j := 50) (lo := 0) (hi := 59) hU.1 hLx (ro_o hkx (by decide)) rfl
  refine CtI.of (by decide +kernel) (Nat.le_of_ble_eq_true rfl) ?_
  intro p e s m below meth c B K
  have C := B.1
  have hF : Fq L κ ow [1210, 1211] I I := fq_rf
  have hG : Fq L κ ow [] J J := fq_rf
  obtain ⟨b_4, hb_4, hb_4L, hb_4k, hb_4n, hb_4o⟩ := shp_a (W9 x hLx) hkx 19 15 13 rfl (by decide)
  have evqx : ∀ I J, NVf R I J x = NVq I J x b_4 := fun I J => by simp only [NVf, rr_, Option.getD_some, hb_4]
  have wvqx : vqw_ L κ ow x b_4 := ⟨⟨hLx, hb_4L⟩, ⟨(ro_o hkx (by decide)), (ro_a hb_4k (by decide) hb_4o hkx rfl)⟩⟩
  obtain ⟨s_5, hs_5⟩ : ∃ z, NVq I J x b_4 = z := ⟨_, rfl⟩
  obtain ⟨b_6, hb_6, hb_6L, hb_6k, hb_6n, hb_6o⟩ := shp_a (W9 x hLx) hkx 14 14 389 rfl (by decide)
  have ezqx : ∀ I J, NWf R I J x = NWq I J x b_6 := fun I J => by simp only [NWf, rr_, Option.getD_some, hb_6]
  have wzqx : zqw_ L κ ow x b_6 := ⟨⟨hLx, hb_6L⟩, ⟨(ro_o hkx (by decide)), (ro_a hb_6k (by decide) hb_6o hkx rfl)⟩⟩
  obtain ⟨s_7, hs_7⟩ : ∃ z, NWq I J x b_6 = z := ⟨_, rfl⟩
  obtain ⟨b_8, hb_8, hb_8L, hb_8k, hb_8n, hb_8o⟩ := shp_a (W9 x hLx) hkx 1 14 940 rfl (by decide)
  have emqx : ∀ I J, MTf R I J x = MTq I J x b_8 := fun I J => by simp only [MTf, rr_, Option.getD_some, hb_8]
  have wmqx : mqw_ L κ ow x b_8 := ⟨⟨hLx, hb_8L⟩, ⟨(ro_o hkx (by decide)), (ro_a hb_8k (by decide) hb_8o hkx rfl)⟩⟩
  obtain ⟨s_9, hs_9⟩ : ∃ z, MTq I J x b_8 = z := ⟨_, rfl⟩
  obtain ⟨b_10, hb_10, hb_10L, hb_10k, hb_10n, hb_10o⟩ := shp_a (W9 x hLx) hkx 15 14 72 rfl (by decide)
  obtain ⟨b_11, hb_11, hb_11L, hb_11k, hb_11n, hb_11o⟩ := shp_a (W9 x hLx) hkx 20 15 13 rfl (by decide)
  have enqx : ∀ I J, NRf R I J x = NRq I J x b_10 b_11 := fun I J => by simp only [NRf, rr_, Option.getD_some, hb_10, hb_11]
  have wnqx : nqw_ L κ ow x b_10 b_11 := ⟨⟨hLx, hb_10L, hb_11L⟩, ⟨(ro_o hkx (by decide)), (ro_a hb_10k (by decide) hb_10o hkx rfl), (ro_a hb_11k (by decide) hb_11o hkx rfl)⟩⟩
  obtain ⟨s_12, hs_12⟩ : ∃ z, NRq I J x b_10 b_11 = z := ⟨_, rfl⟩
  have eqqx : ∀ I J, QTf R I J x = QTq I J x := fun I J => by simp only [QTf, rr_, Option.getD_some]
  have wqqx : qqw_ L κ ow x := ⟨hLx, (ro_o hkx (by decide))⟩
  obtain ⟨s_13, hs_13⟩ : ∃ z, QTq I J x = z := ⟨_, rfl⟩
  refine g_lo (is := [0]) (lo2 := [(0, .ref x)]) rfl ?_
  refine g_aload_n C 0 dX12_readAnd_0 rfl rfl ?_
  have f_14 : s_13.om = x_2 := (congrArg QT_.om hs_13).symm.trans hx_2
  refine g_callVI C K (c_X12_readSaid_8 W9 hLx hkx   hU  (by rw [hx_1, hx_2]; omega) (hwi)) hLx hkx (by decide) rfl v_12_392 rfl ⟨rfl, rfl⟩ ⟨Nat.le_of_ble_eq_true rfl, Nat.le_of_ble_eq_true rfl⟩ (Nat.le_of_ble_eq_true rfl) ⟨Nat.le_of_ble_eq_true rfl, Nat.le_of_ble_eq_true rfl⟩ dX12_readAnd_1 rfl (st := []) (fun x_15 I_16 J_17 h_18 => ?_)
  obtain ⟨hUI_16, hFI_16, hGJ_17, rx_15, fx_15, ex_15⟩ := h_18
  have hF_19 := fq_tr hF hFI_16 (by decide)
  have hG_20 := fq_tr hG hGJ_17 (by decide)
  obtain ⟨s_22, hs_22⟩ : ∃ z, MTq I_16 J_17 x b_8 = z := ⟨_, rfl⟩
  obtain ⟨s_23, hs_23⟩ : ∃ z, NRq I_16 J_17 x b_10 b_11 = z := ⟨_, rfl⟩
  obtain ⟨s_24, hs_24⟩ : ∃ z, QTq I_16 J_17 x = z := ⟨_, rfl⟩
  have c_21 : mSaid 0 (s_5) (s_7) (s_9) (s_12) (s_13) = (x_15, s_22, s_23, s_24) := by have q := fx_15; simp only [evqx, ezqx, emqx, enqx, eqqx, hs_5, hs_7, hs_9, hs_12, hs_13, hs_22, hs_23, hs_24] at q; exact q.symm
  have hs_25 : NVq I_16 J_17 x b_4 = s_5 := (vq_fq wvqx hFI_16 hGJ_17 (by decide) (by decide)).trans hs_5
  have hs_26 : NWq I_16 J_17 x b_6 = s_7 := (zq_fq wzqx hFI_16 hGJ_17 (by decide) (by decide)).trans hs_7
  have f_27 : s_24.om = x_2 := (congrArg QT_.om hs_24).symm.trans (fq_at hFI_16 hLx hkx (by decide) (by decide) hx_2)
  refine g_if_ne C (tgt := 9) dX12_readAnd_4 (by decide) (fun h_28 => ?_) (fun h_28 => ?_)
  · skip
    exact ne_no (h_28) rx_15 rc_0
  · skip
    refine g_iconst C (v := 0) dX12_readAnd_7 (by decide) ?_
    exact g_zret (ty := .boolean) (r := 0) B K rfl (rfl) ⟨hUI_16, hF_19, hG_20, rc_0, (by simp only [mAndK, evqx, hs_25, hs_5, ezqx, hs_26, hs_7, emqx, hs_22, hs_9, enqx, hs_23, hs_12, eqqx, hs_24, hs_13, hx_1, hx_2, hx_3, f_14, c_21, f_27, (eq_true h_28), if_true, if_false, mqM_tp, mqM_size, mqM_limit, mqM_to, mqM_frm, mqM_kind, mqM_number, mqM_sign, mqM_word, MT_.w_tp, MT_.w_size, MT_.w_limit, MT_.w_to, MT_.w_frm, MT_.w_kind, MT_.w_number, MT_.w_sign, MT_.w_word, nqM_rd, nqM_rn, nqM_taped, nqM_mfault, nqM_mplace, nqM_told, nqM_hl, nqM_hd, NR_.w_rd, NR_.w_rn, NR_.w_taped, NR_.w_mfault, NR_.w_mplace, NR_.w_told, NR_.w_hl, NR_.w_hd, qqM_om, QT_.w_om, vqM_nv, NV_.w_nv, zqM_nw, NW_.w_nw]), (fun q => absurd rfl q), ex_15.2⟩ dX12_readAnd_8
set_option maxRecDepth 100000 in
set_option maxHeartbeats 8000000 in
theorem c_X12_readOr_8 {l : Launch} {D : va_G} {cy : Nat → ClassId} {L : List Nat} {κ ln : Nat → Nat} {R : Nat → Nat → Option Nat} {I : Nat → Nat → Int32} {J : Nat → Nat → Int64} {ow : Nat → Nat × Nat} (W9 : ∀ a ∈ L, Shp L κ ln R ow a) {x : Nat} (hLx : x ∈ L) (hkx : κ x = 12) (hU : Iw L κ R ow I) (hn : (I x 47).toInt ≤ 2 * (I x 48).toInt) (hwi : I x 49 = 8) : CtI l yX12_readOr cX12_readOr 2 (some .boolean) { frames := 5, cells := 0, slots := 0, locals := 113 } D cy L κ ln R I J [.ref x] (fun r I2 J2 => Iw L κ R ow I2 ∧ Fq L κ ow [1210, 1211] I I2 ∧ Fq L κ ow [] J J2 ∧ Rg 0 0 r ∧ ((r, MTf R I2 J2 x, NRf R I2 J2 x, QTf R I2 J2 x) = mOrK 0 (NVf R I J x) (NWf R I J x) (MTf R I J x) (NRf R I J x) (QTf R I J x)) ∧ (¬ r = 0 → Sz_ x I I2 1) ∧ (I2 x 49 = 8)) := by
  obtain ⟨x_1, hx_1, rx_1⟩ := ex_getw (I := I) (a := x) (j := 47) (lo := 0) (hi := 60) hU.1 hLx (ro_o hkx (by decide)) rfl
  obtain ⟨x_2, hx_2, rx_2⟩ := ex_getw (I := I) (a := x) (j := 48) (lo := 0) (hi := 20) hU.1 hLx (ro_o hkx (by decide)) rfl
  rw [hx_1, hx_2] at hn
  obtain ⟨x_3, hx_3, rx_3⟩ := ex_getw (I := I) (a := x) (j := 50) (lo := 0) (hi := 59) hU.1 hLx (ro_o hkx (by decide)) rfl
  refine CtI.of (by decide +kernel) (Nat.le_of_ble_eq_true rfl) ?_
  intro p e s m below meth c B K
  have C := B.1
  have hF : Fq L κ ow [1210, 1211] I I := fq_rf
  have hG : Fq L κ ow [] J J := fq_rf
  obtain ⟨b_4, hb_4, hb_4L, hb_4k, hb_4n, hb_4o⟩ := shp_a (W9 x hLx) hkx 19 15 13 rfl (by decide)
  have evqx : ∀ I J, NVf R I J x = NVq I J x b_4 := fun I J => by simp only [NVf, rr_, Option.getD_some, hb_4]
  have wvqx : vqw_ L κ ow x b_4 := ⟨⟨hLx, hb_4L⟩, ⟨(ro_o hkx (by decide)), (ro_a hb_4k (by decide) hb_4o hkx rfl)⟩⟩
  obtain ⟨s_5, hs_5⟩ : ∃ z, NVq I J x b_4 = z := ⟨_, rfl⟩
  obtain ⟨b_6, hb_6, hb_6L, hb_6k, hb_6n, hb_6o⟩ := shp_a (W9 x hLx) hkx 14 14 389 rfl (by decide)
  have ezqx : ∀ I J, NWf R I J x = NWq I J x b_6 := fun I J => by simp only [NWf, rr_, Option.getD_some, hb_6]
  have wzqx : zqw_ L κ ow x b_6 := ⟨⟨hLx, hb_6L⟩, ⟨(ro_o hkx (by decide)), (ro_a hb_6k (by decide) hb_6o hkx rfl)⟩⟩
  obtain ⟨s_7, hs_7⟩ : ∃ z, NWq I J x b_6 = z := ⟨_, rfl⟩
  obtain ⟨b_8, hb_8, hb_8L, hb_8k, hb_8n, hb_8o⟩ := shp_a (W9 x hLx) hkx 1 14 940 rfl (by decide)
  have emqx : ∀ I J, MTf R I J x = MTq I J x b_8 := fun I J => by simp only [MTf, rr_, Option.getD_some, hb_8]
  have wmqx : mqw_ L κ ow x b_8 := ⟨⟨hLx, hb_8L⟩, ⟨(ro_o hkx (by decide)), (ro_a hb_8k (by decide) hb_8o hkx rfl)⟩⟩
  obtain ⟨s_9, hs_9⟩ : ∃ z, MTq I J x b_8 = z := ⟨_, rfl⟩
  obtain ⟨b_10, hb_10, hb_10L, hb_10k, hb_10n, hb_10o⟩ := shp_a (W9 x hLx) hkx 15 14 72 rfl (by decide)
  obtain ⟨b_11, hb_11, hb_11L, hb_11k, hb_11n, hb_11o⟩ := shp_a (W9 x hLx) hkx 20 15 13 rfl (by decide)
  have enqx : ∀ I J, NRf R I J x = NRq I J x b_10 b_11 := fun I J => by simp only [NRf, rr_, Option.getD_some, hb_10, hb_11]
  have wnqx : nqw_ L κ ow x b_10 b_11 := ⟨⟨hLx, hb_10L, hb_11L⟩, ⟨(ro_o hkx (by decide)), (ro_a hb_10k (by decide) hb_10o hkx rfl), (ro_a hb_11k (by decide) hb_11o hkx rfl)⟩⟩
  obtain ⟨s_12, hs_12⟩ : ∃ z, NRq I J x b_10 b_11 = z := ⟨_, rfl⟩
  have eqqx : ∀ I J, QTf R I J x = QTq I J x := fun I J => by simp only [QTf, rr_, Option.getD_some]
  have wqqx : qqw_ L κ ow x := ⟨hLx, (ro_o hkx (by decide))⟩
  obtain ⟨s_13, hs_13⟩ : ∃ z, QTq I J x = z := ⟨_, rfl⟩
  refine g_lo (is := [0]) (lo2 := [(0, .ref x)]) rfl ?_
  refine g_aload_n C 0 dX12_readOr_0 rfl rfl ?_
  have f_14 : s_13.om = x_2 := (congrArg QT_.om hs_13).symm.trans hx_2
  refine g_callVI C K (c_X12_readAnd_8 W9 hLx hkx   hU  (by rw [hx_1, hx_2]; omega) (hwi)) hLx hkx (by decide) rfl v_12_383 rfl ⟨rfl, rfl⟩ ⟨Nat.le_of_ble_eq_true rfl, Nat.le_of_ble_eq_true rfl⟩ (Nat.le_of_ble_eq_true rfl) ⟨Nat.le_of_ble_eq_true rfl, Nat.le_of_ble_eq_true rfl⟩ dX12_readOr_1 rfl (st := []) (fun x_15 I_16 J_17 h_18 => ?_)
  obtain ⟨hUI_16, hFI_16, hGJ_17, rx_15, fx_15, ex_15⟩ := h_18
  have hF_19 := fq_tr hF hFI_16 (by decide)
  have hG_20 := fq_tr hG hGJ_17 (by decide)
  obtain ⟨s_22, hs_22⟩ : ∃ z, MTq I_16 J_17 x b_8 = z := ⟨_, rfl⟩
  obtain ⟨s_23, hs_23⟩ : ∃ z, NRq I_16 J_17 x b_10 b_11 = z := ⟨_, rfl⟩
  obtain ⟨s_24, hs_24⟩ : ∃ z, QTq I_16 J_17 x = z := ⟨_, rfl⟩
  have c_21 : mAndK 0 (s_5) (s_7) (s_9) (s_12) (s_13) = (x_15, s_22, s_23, s_24) := by have q := fx_15; simp only [evqx, ezqx, emqx, enqx, eqqx, hs_5, hs_7, hs_9, hs_12, hs_13, hs_22, hs_23, hs_24] at q; exact q.symm
  have hs_25 : NVq I_16 J_17 x b_4 = s_5 := (vq_fq wvqx hFI_16 hGJ_17 (by decide) (by decide)).trans hs_5
  have hs_26 : NWq I_16 J_17 x b_6 = s_7 := (zq_fq wzqx hFI_16 hGJ_17 (by decide) (by decide)).trans hs_7
  have f_27 : s_24.om = x_2 := (congrArg QT_.om hs_24).symm.trans (fq_at hFI_16 hLx hkx (by decide) (by decide) hx_2)
  refine g_if_ne C (tgt := 9) dX12_readOr_4 (by decide) (fun h_28 => ?_) (fun h_28 => ?_)
  · skip
    exact ne_no (h_28) rx_15 rc_0
  · skip
    refine g_iconst C (v := 0) dX12_readOr_7 (by decide) ?_
    exact g_zret (ty := .boolean) (r := 0) B K rfl (rfl) ⟨hUI_16, hF_19, hG_20, rc_0, (by simp only [mOrK, evqx, hs_25, hs_5, ezqx, hs_26, hs_7, emqx, hs_22, hs_9, enqx, hs_23, hs_12, eqqx, hs_24, hs_13, hx_1, hx_2, hx_3, f_14, c_21, f_27, (eq_true h_28), if_true, if_false, mqM_tp, mqM_size, mqM_limit, mqM_to, mqM_frm, mqM_kind, mqM_number, mqM_sign, mqM_word, MT_.w_tp, MT_.w_size, MT_.w_limit, MT_.w_to, MT_.w_frm, MT_.w_kind, MT_.w_number, MT_.w_sign, MT_.w_word, nqM_rd, nqM_rn, nqM_taped, nqM_mfault, nqM_mplace, nqM_told, nqM_hl, nqM_hd, NR_.w_rd, NR_.w_rn, NR_.w_taped, NR_.w_mfault, NR_.w_mplace, NR_.w_told, NR_.w_hl, NR_.w_hd, qqM_om, QT_.w_om, vqM_nv, NV_.w_nv, zqM_nw, NW_.w_nw]), (fun q => absurd rfl q), ex_15.2⟩ dX12_readOr_8
set_option maxRecDepth 100000 in
set_option maxHeartbeats 8000000 in
theorem c_X12_readBracket_8 {l : Launch} {D : va_G} {cy : Nat → ClassId} {L : List Nat} {κ ln : Nat → Nat} {R : Nat → Nat → Option Nat} {I : Nat → Nat → Int32} {J : Nat → Nat → Int64} {ow : Nat → Nat × Nat} (W9 : ∀ a ∈ L, Shp L κ ln R ow a) {x : Nat} (hLx : x ∈ L) (hkx : κ x = 12) (hU : Iw L κ R ow I) (hn : (I x 47).toInt ≤ 2 * (I x 48).toInt) (hwi : I x 49 = 8) : CtI l yX12_readBracket cX12_readBracket 1 (some .boolean) { frames := 6, cells := 0, slots := 0, locals := 134 } D cy L κ ln R I J [.ref x] (fun r I2 J2 => Iw L κ R ow I2 ∧ Fq L κ ow [1210, 1211] I I2 ∧ Fq L κ ow [] J J2 ∧ Rg 0 0 r ∧ ((r, MTf R I2 J2 x, NRf R I2 J2 x, QTf R I2 J2 x) = mBrK 0 (NVf R I J x) (NWf R I J x) (MTf R I J x) (NRf R I J x) (QTf R I J x)) ∧ (¬ r = 0 → Sz_ x I I2 1) ∧ (I2 x 49 = 8)) := by
  obtain ⟨x_1, hx_1, rx_1⟩ := ex_getw (I := I) (a := x) (j := 47) (lo := 0) (hi := 60) hU.1 hLx (ro_o hkx (by decide)) rfl
  obtain ⟨x_2, hx_2, rx_2⟩ := ex_getw (I := I) (a := x) (j := 48) (lo := 0) (hi := 20) hU.1 hLx (ro_o hkx (by decide)) rfl
  rw [hx_1, hx_2] at hn
  obtain ⟨x_3, hx_3, rx_3⟩ := ex_getw (I := I) (a := x) (j := 50) (lo := 0) (hi := 59) hU.1 hLx (ro_o hkx (by decide)) rfl
  refine CtI.of (by decide +kernel) (Nat.le_of_ble_eq_true rfl) ?_
  intro p e s m below meth c B K
  have C := B.1
  have hF : Fq L κ ow [1210, 1211] I I := fq_rf
  have hG : Fq L κ ow [] J J := fq_rf
  obtain ⟨b_4, hb_4, hb_4L, hb_4k, hb_4n, hb_4o⟩ := shp_a (W9 x hLx) hkx 19 15 13 rfl (by decide)
  have evqx : ∀ I J, NVf R I J x = NVq I J x b_4 := fun I J => by simp only [NVf, rr_, Option.getD_some, hb_4]
  have wvqx : vqw_ L κ ow x b_4 := ⟨⟨hLx, hb_4L⟩, ⟨(ro_o hkx (by decide)), (ro_a hb_4k (by decide) hb_4o hkx rfl)⟩⟩
  obtain ⟨s_5, hs_5⟩ : ∃ z, NVq I J x b_4 = z := ⟨_, rfl⟩
  obtain ⟨b_6, hb_6, hb_6L, hb_6k, hb_6n, hb_6o⟩ := shp_a (W9 x hLx) hkx 14 14 389 rfl (by decide)
  have ezqx : ∀ I J, NWf R I J x = NWq I J x b_6 := fun I J => by simp only [NWf, rr_, Option.getD_some, hb_6]
  have wzqx : zqw_ L κ ow x b_6 := ⟨⟨hLx, hb_6L⟩, ⟨(ro_o hkx (by decide)), (ro_a hb_6k (by decide) hb_6o hkx rfl)⟩⟩
  obtain ⟨s_7, hs_7⟩ : ∃ z, NWq I J x b_6 = z := ⟨_, rfl⟩
  obtain ⟨b_8, hb_8, hb_8L, hb_8k, hb_8n, hb_8o⟩ := shp_a (W9 x hLx) hkx 1 14 940 rfl (by decide)
  have emqx : ∀ I J, MTf R I J x = MTq I J x b_8 := fun I J => by simp only [MTf, rr_, Option.getD_some, hb_8]
  have wmqx : mqw_ L κ ow x b_8 := ⟨⟨hLx, hb_8L⟩, ⟨(ro_o hkx (by decide)), (ro_a hb_8k (by decide) hb_8o hkx rfl)⟩⟩
  obtain ⟨s_9, hs_9⟩ : ∃ z, MTq I J x b_8 = z := ⟨_, rfl⟩
  obtain ⟨b_10, hb_10, hb_10L, hb_10k, hb_10n, hb_10o⟩ := shp_a (W9 x hLx) hkx 15 14 72 rfl (by decide)
  obtain ⟨b_11, hb_11, hb_11L, hb_11k, hb_11n, hb_11o⟩ := shp_a (W9 x hLx) hkx 20 15 13 rfl (by decide)
  have enqx : ∀ I J, NRf R I J x = NRq I J x b_10 b_11 := fun I J => by simp only [NRf, rr_, Option.getD_some, hb_10, hb_11]
  have wnqx : nqw_ L κ ow x b_10 b_11 := ⟨⟨hLx, hb_10L, hb_11L⟩, ⟨(ro_o hkx (by decide)), (ro_a hb_10k (by decide) hb_10o hkx rfl), (ro_a hb_11k (by decide) hb_11o hkx rfl)⟩⟩
  obtain ⟨s_12, hs_12⟩ : ∃ z, NRq I J x b_10 b_11 = z := ⟨_, rfl⟩
  have eqqx : ∀ I J, QTf R I J x = QTq I J x := fun I J => by simp only [QTf, rr_, Option.getD_some]
  have wqqx : qqw_ L κ ow x := ⟨hLx, (ro_o hkx (by decide))⟩
  obtain ⟨s_13, hs_13⟩ : ∃ z, QTq I J x = z := ⟨_, rfl⟩
  refine g_lo (is := [0]) (lo2 := [(0, .ref x)]) rfl ?_
  refine g_aload_n C 0 dX12_readBracket_0 rfl rfl ?_
  have f_14 : s_13.om = x_2 := (congrArg QT_.om hs_13).symm.trans hx_2
  refine g_callVI C K (c_X12_readOr_8 W9 hLx hkx   hU  (by rw [hx_1, hx_2]; omega) (hwi)) hLx hkx (by decide) rfl v_12_413 rfl ⟨rfl, rfl⟩ ⟨Nat.le_of_ble_eq_true rfl, Nat.le_of_ble_eq_true rfl⟩ (Nat.le_of_ble_eq_true rfl) ⟨Nat.le_of_ble_eq_true rfl, Nat.le_of_ble_eq_true rfl⟩ dX12_readBracket_1 rfl (st := []) (fun x_15 I_16 J_17 h_18 => ?_)
  obtain ⟨hUI_16, hFI_16, hGJ_17, rx_15, fx_15, ex_15⟩ := h_18
  have hF_19 := fq_tr hF hFI_16 (by decide)
  have hG_20 := fq_tr hG hGJ_17 (by decide)
  obtain ⟨s_22, hs_22⟩ : ∃ z, MTq I_16 J_17 x b_8 = z := ⟨_, rfl⟩
  obtain ⟨s_23, hs_23⟩ : ∃ z, NRq I_16 J_17 x b_10 b_11 = z := ⟨_, rfl⟩
  obtain ⟨s_24, hs_24⟩ : ∃ z, QTq I_16 J_17 x = z := ⟨_, rfl⟩
  have c_21 : mOrK 0 (s_5) (s_7) (s_9) (s_12) (s_13) = (x_15, s_22, s_23, s_24) := by have q := fx_15; simp only [evqx, ezqx, emqx, enqx, eqqx, hs_5, hs_7, hs_9, hs_12, hs_13, hs_22, hs_23, hs_24] at q; exact q.symm
  have hs_25 : NVq I_16 J_17 x b_4 = s_5 := (vq_fq wvqx hFI_16 hGJ_17 (by decide) (by decide)).trans hs_5
  have hs_26 : NWq I_16 J_17 x b_6 = s_7 := (zq_fq wzqx hFI_16 hGJ_17 (by decide) (by decide)).trans hs_7
  have f_27 : s_24.om = x_2 := (congrArg QT_.om hs_24).symm.trans (fq_at hFI_16 hLx hkx (by decide) (by decide) hx_2)
  refine g_if_ne C (tgt := 9) dX12_readBracket_4 (by decide) (fun h_28 => ?_) (fun h_28 => ?_)
  · skip
    exact ne_no (h_28) rx_15 rc_0
  · skip
    refine g_iconst C (v := 0) dX12_readBracket_7 (by decide) ?_
    exact g_zret (ty := .boolean) (r := 0) B K rfl (rfl) ⟨hUI_16, hF_19, hG_20, rc_0, (by simp only [mBrK, mBadQ, evqx, hs_25, hs_5, ezqx, hs_26, hs_7, emqx, hs_22, hs_9, enqx, hs_23, hs_12, eqqx, hs_24, hs_13, hx_1, hx_2, hx_3, f_14, c_21, f_27, (eq_true h_28), if_true, if_false, mqM_tp, mqM_size, mqM_limit, mqM_to, mqM_frm, mqM_kind, mqM_number, mqM_sign, mqM_word, MT_.w_tp, MT_.w_size, MT_.w_limit, MT_.w_to, MT_.w_frm, MT_.w_kind, MT_.w_number, MT_.w_sign, MT_.w_word, nqM_rd, nqM_rn, nqM_taped, nqM_mfault, nqM_mplace, nqM_told, nqM_hl, nqM_hd, NR_.w_rd, NR_.w_rn, NR_.w_taped, NR_.w_mfault, NR_.w_mplace, NR_.w_told, NR_.w_hl, NR_.w_hd, qqM_om, QT_.w_om, vqM_nv, NV_.w_nv, zqM_nw, NW_.w_nw]), (fun q => absurd rfl q), ex_15.2⟩ dX12_readBracket_8
set_option maxRecDepth 100000 in
set_option maxHeartbeats 8000000 in
theorem c_X12_readNumber_0_999 {l : Launch} {D : va_G} {cy : Nat → ClassId} {L : List Nat} {κ ln : Nat → Nat} {R : Nat → Nat → Option Nat} {I : Nat → Nat → Int32} {J : Nat → Nat → Int64} {ow : Nat → Nat × Nat} (W9 : ∀ a ∈ L, Shp L κ ln R ow a) {x : Nat} (hLx : x ∈ L) (hkx : κ x = 12) (hU : Iw L κ R ow I) : CtI l yX12_readNumber cX12_readNumber 3 (some .boolean) { frames := 2, cells := 0, slots := 0, locals := 45 } D cy L κ ln R I J [.ref x, .int 0, .int 999] (fun r I2 J2 => Iw L κ R ow I2 ∧ Fq L κ ow [1205, 1206, 1207, 1208, 1209, 1210, 1211, 1213] I I2 ∧ Fq L κ ow [1212] J J2 ∧ Rg 0 1 r ∧ ((r, MTf R I2 J2 x, NRf R I2 J2 x) = mReadNumber (0) (999) (MTf R I J x) (NRf R I J x)) ∧ (Pg_ x I I2 ∧ (¬ r = 0 → Ps_ x I I2)) ∧ (¬ r = 0 → Rg 0 999 (I2 x 13))) := by
  refine CtI.of (by decide +kernel) (Nat.le_of_ble_eq_true rfl) ?_
  intro p e s m below meth c B K
  have C := B.1
  have hF : Fq L κ ow [1205, 1206, 1207, 1208, 1209, 1210, 1211, 1213] I I := fq_rf
  have hG : Fq L κ ow [1212] J J := fq_rf
  obtain ⟨b_1, hb_1, hb_1L, hb_1k, hb_1n, hb_1o⟩ := shp_a (W9 x hLx) hkx 1 14 940 rfl (by decide)
  have emqx : ∀ I J, MTf R I J x = MTq I J x b_1 := fun I J => by simp only [MTf, rr_, Option.getD_some, hb_1]
  have wmqx : mqw_ L κ ow x b_1 := ⟨⟨hLx, hb_1L⟩, ⟨(ro_o hkx (by decide)), (ro_a hb_1k (by decide) hb_1o hkx rfl)⟩⟩
  obtain ⟨s_2, hs_2⟩ : ∃ z, MTq I J x b_1 = z := ⟨_, rfl⟩
  obtain ⟨b_3, hb_3, hb_3L, hb_3k, hb_3n, hb_3o⟩ := shp_a (W9 x hLx) hkx 15 14 72 rfl (by decide)
  obtain ⟨b_4, hb_4, hb_4L, hb_4k, hb_4n, hb_4o⟩ := shp_a (W9 x hLx) hkx 20 15 13 rfl (by decide)
  have enqx : ∀ I J, NRf R I J x = NRq I J x b_3 b_4 := fun I J => by simp only [NRf, rr_, Option.getD_some, hb_3, hb_4]
  have wnqx : nqw_ L κ ow x b_3 b_4 := ⟨⟨hLx, hb_3L, hb_4L⟩, ⟨(ro_o hkx (by decide)), (ro_a hb_3k (by decide) hb_3o hkx rfl), (ro_a hb_4k (by decide) hb_4o hkx rfl)⟩⟩
  obtain ⟨s_5, hs_5⟩ : ∃ z, NRq I J x b_3 b_4 = z := ⟨_, rfl⟩
  refine g_lo (is := [0, 1, 2]) (lo2 := [(0, .ref x), (1, .int 0), (2, .int 999)]) rfl ?_
  refine g_aload_n C 0 dX12_readNumber_0 rfl rfl ?_
  obtain ⟨x_6, hx_6, rx_6⟩ := ex_getw (I := I) (a := x) (j := 7) (lo := 0) (hi := 4) hU.1 hLx (ro_o hkx (by decide)) rfl
  have f_7 : s_2.kind = x_6 := (congrArg MT_.kind hs_2).symm.trans hx_6
  refine g_getI C K hLx hkx f_12_104 (v := x_6) hx_6 dX12_readNumber_1 ?_
  refine g_iconst C (v := 3) dX12_readNumber_4 (by decide) ?_
  refine g_icmp_eq C (tgt := 14) dX12_readNumber_5 (by decide) (fun h_8 => ?_) (fun h_8 => ?_)
  · skip
    have r_9 := (⟨(eq_rg (h_8) rc_3).1, (eq_rg (h_8) rc_3).2⟩ : Rg 3 3 x_6)
    refine g_aload_n C 0 dX12_readNumber_14 rfl rfl ?_
    obtain ⟨x_10, hx_10, rx_10⟩ := ex_getw (I := I) (a := x) (j := 8) (lo := (-2147483648)) (hi := 2147483647) hU.1 hLx (ro_o hkx (by decide)) rfl
    have f_11 : s_2.number = x_10 := (congrArg MT_.number hs_2).symm.trans hx_10
    refine g_getI C K hLx hkx f_12_121 (v := x_10) hx_10 dX12_readNumber_15 ?_
    refine g_iload_n C 1 dX12_readNumber_18 rfl rfl ?_
    refine g_iload_n C 2 dX12_readNumber_19 rfl rfl ?_
    refine g_callSI C K (c_X12_isIn W9 x_10 0 999 (rg_w rc_0 (by decide) (by decide)) (rg_w rc_999 (by decide) (by decide)) hU) s_12_149 rfl ⟨rfl, rfl⟩ ⟨Nat.le_of_ble_eq_true rfl, Nat.le_of_ble_eq_true rfl⟩ (Nat.le_of_ble_eq_true rfl) ⟨Nat.le_of_ble_eq_true rfl, Nat.le_of_ble_eq_true rfl⟩ dX12_readNumber_20 rfl (st := []) (fun x_12 I_13 J_14 h_15 => ?_)
    obtain ⟨rfl, rfl, rx_12, fx_12, ex_12⟩ := h_15
    have c_16 : isIn_ (x_10) (0) (999) = x_12 := fx_12.symm
    refine g_if_ne C (tgt := 32) dX12_readNumber_23 (by decide) (fun h_17 => ?_) (fun h_17 => ?_)
    · skip
      have n_18 : ¬ x_12 = 0 := h_17
      have r_19 := ne_lo (lo := 1) n_18 rx_12 rc_0 rfl (by decide)
      have r_20 := le_r (((ex_12.1) n_18)) rc_0 rx_10
      have r_21 := le_l (((ex_12.2) n_18)) r_20 rc_999
      refine g_aload_n C 0 dX12_readNumber_32 rfl rfl ?_
      refine g_aload_n C 0 dX12_readNumber_33 rfl rfl ?_
      refine g_getI C K hLx hkx f_12_121 (v := x_10) hx_10 dX12_readNumber_34 ?_
      refine h_putI C K hLx hkx f_12_153 p_12_13 dX12_readNumber_37 (fun I_22 hI_22 => ?_)
      have hU_23 := iw_put W9 hU hI_22 (ro_o hkx (by decide)) (lo := (-2147483648)) (hi := 2147483647) (rfl) (rg_all _) rfl
      have hF_24 := fq_puto hF hI_22 hkx (by decide) (by decide)
      have hs_25 : MTq I_22 J x b_1 = s_2 := by rw [hI_22]; exact (mq_uIt wmqx (by decide)).trans hs_2
      have hs_26 : NRq I_22 J x b_3 b_4 = (NR_.w_told s_5 (x_10)) := by rw [hI_22]; exact ((nq_told wnqx).trans (congrArg (fun z : NR_ => NR_.w_told z (x_10)) hs_5)).trans rfl
      refine g_aload_n C 0 dX12_readNumber_40 rfl rfl ?_
      refine g_callVV C K (c_X12_go W9 hLx hkx   hU_23) hLx hkx (by decide) rfl v_12_156 rfl ⟨rfl, rfl⟩ ⟨Nat.le_of_ble_eq_true rfl, Nat.le_of_ble_eq_true rfl⟩ (Nat.le_of_ble_eq_true rfl) ⟨Nat.le_of_ble_eq_true rfl, Nat.le_of_ble_eq_true rfl⟩ dX12_readNumber_41 rfl (st := []) (fun I_28 J_29 h_30 => ?_)
      obtain ⟨hUI_28, hFI_28, hGJ_29, fx_27, ex_27⟩ := h_30
      have hF_31 := fq_tr hF_24 hFI_28 (by decide)
      have hG_32 := fq_tr hG hGJ_29 (by decide)
      obtain ⟨s_34, hs_34⟩ : ∃ z, MTq I_28 J_29 x b_1 = z := ⟨_, rfl⟩
      have c_33 : mGo (s_2) = s_34 := by have q := fx_27; simp only [emqx, hs_25, hs_34] at q; exact q.symm
      have hs_35 : NRq I_28 J_29 x b_3 b_4 = (NR_.w_told s_5 (x_10)) := (nq_fq wnqx hFI_28 hGJ_29 (by decide) (by decide)).trans hs_26
      refine g_iconst C (v := 1) dX12_readNumber_44 (by decide) ?_
      exact g_zret (ty := .boolean) (r := 1) B K rfl (rfl) ⟨hUI_28, hF_31, hG_32, rg_w rc_1 (by decide) (by decide), (by simp only [mReadNumber, emqx, hs_34, hs_2, enqx, hs_35, hs_5, hx_6, f_7, (eq_true h_8), hx_10, f_11, c_16, h_17, c_33, if_true, if_false, mqM_tp, mqM_size, mqM_limit, mqM_to, mqM_frm, mqM_kind, mqM_number, mqM_sign, mqM_word, MT_.w_tp, MT_.w_size, MT_.w_limit, MT_.w_to, MT_.w_frm, MT_.w_kind, MT_.w_number, MT_.w_sign, MT_.w_word, nqM_rd, nqM_rn, nqM_taped, nqM_mfault, nqM_mplace, nqM_told, nqM_hl, nqM_hd, NR_.w_rd, NR_.w_rn, NR_.w_taped, NR_.w_mfault, NR_.w_mplace, NR_.w_told, NR_.w_hl, NR_.w_hd]), ⟨(pg_s (ps_t2 (pg_u pg_rf hI_22 (Or.inr (by decide)) (Or.inr (by decide))) ex_27)), fun _ => (ps_t2 (pg_u pg_rf hI_22 (Or.inr (by decide)) (Or.inr (by decide))) ex_27)⟩, (fun _ => eq_rg (fq_at hFI_28 hLx hkx (by decide) (by decide) (kp_s hI_22)) (r_21))⟩ dX12_readNumber_45
    · skip
      have r_36 := (⟨(rx_12).1, (eq_rg (h_17) rc_0).2⟩ : Rg 0 0 x_12)
      refine g_aload_n C 0 dX12_readNumber_26 rfl rfl ?_
      refine g_iconst C (v := 2) dX12_readNumber_27 (by decide) ?_
      refine g_callVI C K (c_X12_bad W9 hLx hkx 2 (rg_w rc_2 (by decide) (by decide)) hU) hLx hkx (by decide) rfl v_12_146 rfl ⟨rfl, rfl⟩ ⟨Nat.le_of_ble_eq_true rfl, Nat.le_of_ble_eq_true rfl⟩ (Nat.le_of_ble_eq_true rfl) ⟨Nat.le_of_ble_eq_true rfl, Nat.le_of_ble_eq_true rfl⟩ dX12_readNumber_28 rfl (st := []) (fun x_37 I_38 J_39 h_40 => ?_)
      obtain ⟨hUI_38, hFI_38, hGJ_39, rx_37, fx_37⟩ := h_40
      have hF_41 := fq_tr hF hFI_38 (by decide)
      have hG_42 := fq_tr hG hGJ_39 (by decide)
      obtain ⟨s_44, hs_44⟩ : ∃ z, MTq I_38 J_39 x b_1 = z := ⟨_, rfl⟩
      obtain ⟨s_45, hs_45⟩ : ∃ z, NRq I_38 J_39 x b_3 b_4 = z := ⟨_, rfl⟩
      have c_43 : mBad (2) (s_2) (s_5) = (x_37, s_44, s_45) := by have q := fx_37; simp only [emqx, enqx, hs_2, hs_5, hs_44, hs_45] at q; exact q.symm
      exact g_zret (ty := .boolean) (r := x_37) B K rfl (nar_z (rg_w rx_37 (by decide) (by decide))) ⟨hUI_38, hF_41, hG_42, rg_w rx_37 (by decide) (by decide), (by simp only [mReadNumber, emqx, hs_44, hs_2, enqx, hs_45, hs_5, hx_6, f_7, (eq_true h_8), hx_10, f_11, c_16, (eq_true h_17), c_43, if_true, if_false, mqM_tp, mqM_size, mqM_limit, mqM_to, mqM_frm, mqM_kind, mqM_number, mqM_sign, mqM_word, MT_.w_tp, MT_.w_size, MT_.w_limit, MT_.w_to, MT_.w_frm, MT_.w_kind, MT_.w_number, MT_.w_sign, MT_.w_word, nqM_rd, nqM_rn, nqM_taped, nqM_mfault, nqM_mplace, nqM_told, nqM_hl, nqM_hd, NR_.w_rd, NR_.w_rn, NR_.w_taped, NR_.w_mfault, NR_.w_mplace, NR_.w_told, NR_.w_hl, NR_.w_hd]), ⟨(pg_fq pg_rf hFI_38 hLx hkx (by decide) (by decide)), fun q => ne_no q rx_37 rc_0⟩, (fun q => ne_no q rx_37 rc_0)⟩ dX12_readNumber_31
  · skip
    have n_46 : ¬ x_6 = 3 := h_8
    refine g_aload_n C 0 dX12_readNumber_8 rfl rfl ?_
    refine g_iconst C (v := 1) dX12_readNumber_9 (by decide) ?_
    refine g_callVI C K (c_X12_bad W9 hLx hkx 1 (rg_w rc_1 (by decide) (by decide)) hU) hLx hkx (by decide) rfl v_12_146 rfl ⟨rfl, rfl⟩ ⟨Nat.le_of_ble_eq_true rfl, Nat.le_of_ble_eq_true rfl⟩ (Nat.le_of_ble_eq_true rfl) ⟨Nat.le_of_ble_eq_true rfl, Nat.le_of_ble_eq_true rfl⟩ dX12_readNumber_10 rfl (st := []) (fun x_47 I_48 J_49 h_50 => ?_)
    obtain ⟨hUI_48, hFI_48, hGJ_49, rx_47, fx_47⟩ := h_50
    have hF_51 := fq_tr hF hFI_48 (by decide)
    have hG_52 := fq_tr hG hGJ_49 (by decide)
    obtain ⟨s_54, hs_54⟩ : ∃ z, MTq I_48 J_49 x b_1 = z := ⟨_, rfl⟩
    obtain ⟨s_55, hs_55⟩ : ∃ z, NRq I_48 J_49 x b_3 b_4 = z := ⟨_, rfl⟩
    have c_53 : mBad (1) (s_2) (s_5) = (x_47, s_54, s_55) := by have q := fx_47; simp only [emqx, enqx, hs_2, hs_5, hs_54, hs_55] at q; exact q.symm
    exact g_zret (ty := .boolean) (r := x_47) B K rfl (nar_z (rg_w rx_47 (by decide) (by decide))) ⟨hUI_48, hF_51, hG_52, rg_w rx_47 (by decide) (by decide), (by simp only [mReadNumber, emqx, hs_54, hs_2, enqx, hs_55, hs_5, hx_6, f_7, h_8, c_53, if_true, if_false, mqM_tp, mqM_size, mqM_limit, mqM_to, mqM_frm, mqM_kind, mqM_number, mqM_sign, mqM_word, MT_.w_tp, MT_.w_size, MT_.w_limit, MT_.w_to, MT_.w_frm, MT_.w_kind, MT_.w_number, MT_.w_sign, MT_.w_word, nqM_rd, nqM_rn, nqM_taped, nqM_mfault, nqM_mplace, nqM_told, nqM_hl, nqM_hd, NR_.w_rd, NR_.w_rn, NR_.w_taped, NR_.w_mfault, NR_.w_mplace, NR_.w_told, NR_.w_hl, NR_.w_hd]), ⟨(pg_fq pg_rf hFI_48 hLx hkx (by decide) (by decide)), fun q => ne_no q rx_47 rc_0⟩, (fun q => ne_no q rx_47 rc_0)⟩ dX12_readNumber_13
set_option maxRecDepth 100000 in
set_option maxHeartbeats 8000000 in
theorem c_X12_saysOne {l : Launch} {D : va_G} {cy : Nat → ClassId} {L : List Nat} {κ ln : Nat → Nat} {R : Nat → Nat → Option Nat} {I : Nat → Nat → Int32} {J : Nat → Nat → Int64} {ow : Nat → Nat × Nat} (W9 : ∀ a ∈ L, Shp L κ ln R ow a) {x : Nat} (hLx : x ∈ L) (hkx : κ x = 12) (a0 : Int32) (a1 : Int32) (a2 : Int32) (a3 : Int32) (ra0 : Rg 1 77 a0) (ra1 : Rg 0 59 a1) (ra2 : Rg 0 999 a2) (hU : Iw L κ R ow I) (hp0 : Rg 0 59 (I x 47)) (hs : No_ a0 a1 a2 (I x 47).toInt) : CtI l yX12_saysOne cX12_saysOne 6 (some .int) { frames := 0, cells := 0, slots := 0, locals := 0 } D cy L κ ln R I J [.ref x, .int a0, .int a1, .int a2, .int a3] (fun r I2 J2 => Iw L κ R ow I2 ∧ Fq L κ ow [1247, 86600] I I2 ∧ Fq L κ ow [] J J2 ∧ Rg 0 59 r ∧ (r.toInt = (I x 47).toInt ∧ (I2 x 47).toInt = (I x 47).toInt + 1)) := by
  refine CtI.of (by decide +kernel) (Nat.le_of_ble_eq_true rfl) ?_
  intro p e s m below meth c B K
  have C := B.1
  have hF : Fq L κ ow [1247, 86600] I I := fq_rf
  have hG : Fq L κ ow [] J J := fq_rf
  obtain ⟨xp0, hxp0, rxp0⟩ : ∃ z, I x 47 = z ∧ Rg 0 59 z := ⟨_, rfl, hp0⟩
  obtain ⟨b_1, hb_1, hb_1L, hb_1k, hb_1n, hb_1o⟩ := shp_a (W9 x hLx) hkx 46 14 240 rfl (by decide)
  have hU0 := hU
  have hU := hU0.1
  refine g_lo (is := [0, 1, 2, 3, 4]) (lo2 := [(0, .ref x), (1, .int a0), (2, .int a1), (3, .int a2), (4, .int a3)]) rfl ?_
  refine g_iconst C (v := 4) dX12_saysOne_0 (by decide) ?_
  refine g_aload_n C 0 dX12_saysOne_1 rfl rfl ?_
  refine g_getI C K hLx hkx f_12_380 (v := xp0) hxp0 dX12_saysOne_2 ?_
  obtain ⟨x_2, hx_2, rx_2, tx_2⟩ := ex_mulT 0 236 rc_4 rxp0 (by decide) (by decide) (by decide) (by decide) (by decide)
  refine g_imul C (v := x_2) dX12_saysOne_5 hx_2 ?_
  refine g_istore C dX12_saysOne_6 (by decide) (lo2 := [(5, .int x_2), (0, .ref x), (1, .int a0), (2, .int a1), (3, .int a2), (4, .int a3)]) rfl ?_
  refine g_aload_n C 1 dX12_saysOne_8 rfl rfl ?_
  refine g_getR C K hLx hkx f_12_79 hb_1 dX12_saysOne_9 ?_
  refine g_iload C 0 dX12_saysOne_12 rfl ?_
  refine g_iload_n C 2 dX12_saysOne_14 rfl rfl ?_
  refine h_iast C K hb_1L hb_1k (x_2.toNatClampNeg) (rfl) (ix_0 rx_2 (by decide)) (ix_lt rx_2 (by decide) hb_1n (by decide)) dX12_saysOne_15 (fun I_3 hI_3 => ?_)
  have hU_4 := uw_put hU hI_3 (ro_a hb_1k (by decide) hb_1o hkx rfl) (lo := (-2147483648)) (hi := 2147483647) (rfl) (rg_all _)
  have hF_5 := fq_puta hF hI_3 (ro_a hb_1k (by decide) hb_1o hkx rfl) (by decide) (by decide)
  refine g_aload_n C 1 dX12_saysOne_16 rfl rfl ?_
  refine g_getR C K hLx hkx f_12_79 hb_1 dX12_saysOne_17 ?_
  refine g_iload C 0 dX12_saysOne_20 rfl ?_
  refine g_iconst C (v := 1) dX12_saysOne_22 (by decide) ?_
  obtain ⟨x_6, hx_6, rx_6, tx_6⟩ := ex_add 1 237 rx_2 rc_1 (by decide) (by decide) (by decide) (by decide)
  refine g_iadd C (v := x_6) dX12_saysOne_23 hx_6 ?_
  refine g_iload_n C 3 dX12_saysOne_24 rfl rfl ?_
  refine h_iast C K hb_1L hb_1k (x_6.toNatClampNeg) (rfl) (ix_0 rx_6 (by decide)) (ix_lt rx_6 (by decide) hb_1n (by decide)) dX12_saysOne_25 (fun I_7 hI_7 => ?_)
  have hU_8 := uw_put hU_4 hI_7 (ro_a hb_1k (by decide) hb_1o hkx rfl) (lo := (-2147483648)) (hi := 2147483647) (rfl) (rg_all _)
  have hF_9 := fq_puta hF_5 hI_7 (ro_a hb_1k (by decide) hb_1o hkx rfl) (by decide) (by decide)
  refine g_aload_n C 1 dX12_saysOne_26 rfl rfl ?_
  refine g_getR C K hLx hkx f_12_79 hb_1 dX12_saysOne_27 ?_
  refine g_iload C 0 dX12_saysOne_30 rfl ?_
  refine g_iconst C (v := 2) dX12_saysOne_32 (by decide) ?_
  obtain ⟨x_10, hx_10, rx_10, tx_10⟩ := ex_add 2 238 rx_2 rc_2 (by decide) (by decide) (by decide) (by decide)
  refine g_iadd C (v := x_10) dX12_saysOne_33 hx_10 ?_
  refine g_iload_n C 4 dX12_saysOne_34 rfl rfl ?_
  refine h_iast C K hb_1L hb_1k (x_10.toNatClampNeg) (rfl) (ix_0 rx_10 (by decide)) (ix_lt rx_10 (by decide) hb_1n (by decide)) dX12_saysOne_35 (fun I_11 hI_11 => ?_)
  have hU_12 := uw_put hU_8 hI_11 (ro_a hb_1k (by decide) hb_1o hkx rfl) (lo := (-2147483648)) (hi := 2147483647) (rfl) (rg_all _)
  have hF_13 := fq_puta hF_9 hI_11 (ro_a hb_1k (by decide) hb_1o hkx rfl) (by decide) (by decide)
  refine g_aload_n C 1 dX12_saysOne_36 rfl rfl ?_
  refine g_getR C K hLx hkx f_12_79 hb_1 dX12_saysOne_37 ?_
  refine g_iload C 0 dX12_saysOne_40 rfl ?_
  refine g_iconst C (v := 3) dX12_saysOne_42 (by decide) ?_
  obtain ⟨x_14, hx_14, rx_14, tx_14⟩ := ex_add 3 239 rx_2 rc_3 (by decide) (by decide) (by decide) (by decide)
  refine g_iadd C (v := x_14) dX12_saysOne_43 hx_14 ?_
  refine g_iload C 5 dX12_saysOne_44 rfl ?_
  refine h_iast C K hb_1L hb_1k (x_14.toNatClampNeg) (rfl) (ix_0 rx_14 (by decide)) (ix_lt rx_14 (by decide) hb_1n (by decide)) dX12_saysOne_46 (fun I_15 hI_15 => ?_)
  have hU_16 := uw_put hU_12 hI_15 (ro_a hb_1k (by decide) hb_1o hkx rfl) (lo := (-2147483648)) (hi := 2147483647) (rfl) ((rg_all a3))
  have hF_17 := fq_puta hF_13 hI_15 (ro_a hb_1k (by decide) hb_1o hkx rfl) (by decide) (by decide)
  refine g_aload_n C 1 dX12_saysOne_47 rfl rfl ?_
  refine g_dup C dX12_saysOne_48 rfl ?_
  have q_18 := (kp_k (κ := κ) hI_15 (by rw [hkx, hb_1k]; decide) (kp_k (κ := κ) hI_11 (by rw [hkx, hb_1k]; decide) (kp_k (κ := κ) hI_7 (by rw [hkx, hb_1k]; decide) (kp_k (κ := κ) hI_3 (by rw [hkx, hb_1k]; decide) hxp0))))
  refine g_getI C K hLx hkx f_12_380 (v := xp0) q_18 dX12_saysOne_49 ?_
  refine g_iconst C (v := 1) dX12_saysOne_52 (by decide) ?_
  obtain ⟨x_19, hx_19, rx_19, tx_19⟩ := ex_add 1 60 rxp0 rc_1 (by decide) (by decide) (by decide) (by decide)
  refine g_iadd C (v := x_19) dX12_saysOne_53 hx_19 ?_
  refine h_putI C K hLx hkx f_12_380 p_12_47 dX12_saysOne_54 (fun I_20 hI_20 => ?_)
  have hU_21 := uw_put hU_16 hI_20 (ro_o hkx (by decide)) (lo := 0) (hi := 60) (rfl) (rg_w rx_19 (by decide) (by decide))
  have hF_22 := fq_puto hF_17 hI_20 hkx (by decide) (by decide)
  refine g_aload_n C 1 dX12_saysOne_57 rfl rfl ?_
  refine g_getI C K hLx hkx f_12_380 (v := x_19) (kp_s hI_20) dX12_saysOne_58 ?_
  refine g_iconst C (v := 1) dX12_saysOne_61 (by decide) ?_
  obtain ⟨x_23, hx_23, rx_23, tx_23⟩ := ex_sub 0 59 rx_19 rc_1 (by decide) (by decide) (by decide) (by decide)
  refine g_isub C (v := x_23) dX12_saysOne_62 hx_23 ?_
  exact g_zret (ty := .int) (r := x_23) B K rfl (rfl) ⟨iw_say (m := xp0.toNatClampNeg) W9 hU0 hU_21 hLx hkx hb_1 hI_3 hI_7 hI_11 hI_15 hI_20 (show x_2.toNatClampNeg = 4 * xp0.toNatClampNeg from by rw [nx_m (k := 4) tx_2 rxp0 (by decide)] <;> omega) (show x_6.toNatClampNeg = 4 * xp0.toNatClampNeg + 1 from by rw [nx_a tx_6 rx_2 rc_1 (by decide), nx_m (k := 4) tx_2 rxp0 (by decide)]; simp only [show (1 : Int32).toNatClampNeg = 1 from rfl] <;> omega) (show x_10.toNatClampNeg = 4 * xp0.toNatClampNeg + 2 from by rw [nx_a tx_10 rx_2 rc_2 (by decide), nx_m (k := 4) tx_2 rxp0 (by decide)]; simp only [show (2 : Int32).toNatClampNeg = 2 from rfl] <;> omega) (show x_14.toNatClampNeg = 4 * xp0.toNatClampNeg + 3 from by rw [nx_a tx_14 rx_2 rc_3 (by decide), nx_m (k := 4) tx_2 rxp0 (by decide)]; simp only [show (3 : Int32).toNatClampNeg = 3 from rfl] <;> omega) (by rw [ix_n rxp0 (by decide), ← hxp0]; exact hs), hF_22, hG, rx_23, ⟨by rw [hxp0]; have q1 := tx_23; have q2 := tx_19; omega, by rw [hxp0, (kp_s hI_20)]; have e1 : (1 : Int32).toInt = 1 := (by decide); have q2 := tx_19; omega⟩⟩ dX12_saysOne_63
