theorem dX10_begin_0 : decode cX10_begin 0 = .ok (.aload_n 0, 1) := by decide +kernel
theorem dX10_begin_1 : decode cX10_begin 1 = .ok (.getfield 29, 3) := by decide +kernel
theorem dX10_begin_4 : decode cX10_begin 4 = .ok (.iload_n 1, 1) := by decide +kernel
theorem dX10_begin_5 : decode cX10_begin 5 = .ok (.invokestatic 70, 3) := by decide +kernel
theorem dX10_begin_8 : decode cX10_begin 8 = .ok (.aload_n 0, 1) := by decide +kernel
theorem dX10_begin_9 : decode cX10_begin 9 = .ok (.getfield 9, 3) := by decide +kernel
theorem dX10_begin_12 : decode cX10_begin 12 = .ok (.arraylength, 1) := by decide +kernel
theorem dX10_begin_13 : decode cX10_begin 13 = .ok (.invokestatic 70, 3) := by decide +kernel
theorem dX10_begin_16 : decode cX10_begin 16 = .ok (.istore_n 2, 1) := by decide +kernel
theorem dX10_begin_17 : decode cX10_begin 17 = .ok (.iconst 0, 1) := by decide +kernel
theorem dX10_begin_18 : decode cX10_begin 18 = .ok (.istore_n 3, 1) := by decide +kernel
theorem dX10_begin_19 : decode cX10_begin 19 = .ok (.aload_n 0, 1) := by decide +kernel
theorem dX10_begin_20 : decode cX10_begin 20 = .ok (.iconst 0, 1) := by decide +kernel
theorem dX10_begin_21 : decode cX10_begin 21 = .ok (.putfield 33, 3) := by decide +kernel
theorem dX10_begin_24 : decode cX10_begin 24 = .ok (.iconst 0, 1) := by decide +kernel
theorem dX10_begin_25 : decode cX10_begin 25 = .ok (.istore 4, 2) := by decide +kernel
theorem dX10_begin_27 : decode cX10_begin 27 = .ok (.iload 4, 2) := by decide +kernel
theorem dX10_begin_29 : decode cX10_begin 29 = .ok (.iload_n 2, 1) := by decide +kernel
theorem dX10_begin_30 : decode cX10_begin 30 = .ok (.if_icmp .ge 46, 3) := by decide +kernel
theorem dX10_begin_33 : decode cX10_begin 33 = .ok (.iload 4, 2) := by decide +kernel
theorem dX10_begin_35 : decode cX10_begin 35 = .ok (.iload_n 3, 1) := by decide +kernel
theorem dX10_begin_36 : decode cX10_begin 36 = .ok (.if_icmp .lt 34, 3) := by decide +kernel
theorem dX10_begin_39 : decode cX10_begin 39 = .ok (.aload_n 0, 1) := by decide +kernel
theorem dX10_begin_40 : decode cX10_begin 40 = .ok (.getfield 9, 3) := by decide +kernel
theorem dX10_begin_43 : decode cX10_begin 43 = .ok (.iload 4, 2) := by decide +kernel
theorem dX10_begin_45 : decode cX10_begin 45 = .ok (.baload, 1) := by decide +kernel
theorem dX10_begin_46 : decode cX10_begin 46 = .ok (.bipush 32, 2) := by decide +kernel
theorem dX10_begin_48 : decode cX10_begin 48 = .ok (.if_icmp .eq 22, 3) := by decide +kernel
theorem dX10_begin_51 : decode cX10_begin 51 = .ok (.aload_n 0, 1) := by decide +kernel
theorem dX10_begin_52 : decode cX10_begin 52 = .ok (.getfield 9, 3) := by decide +kernel
theorem dX10_begin_55 : decode cX10_begin 55 = .ok (.iload 4, 2) := by decide +kernel
theorem dX10_begin_57 : decode cX10_begin 57 = .ok (.baload, 1) := by decide +kernel
theorem dX10_begin_58 : decode cX10_begin 58 = .ok (.bipush 10, 2) := by decide +kernel
theorem dX10_begin_60 : decode cX10_begin 60 = .ok (.if_icmp .eq 10, 3) := by decide +kernel
theorem dX10_begin_63 : decode cX10_begin 63 = .ok (.aload_n 0, 1) := by decide +kernel
theorem dX10_begin_64 : decode cX10_begin 64 = .ok (.iload 4, 2) := by decide +kernel
theorem dX10_begin_66 : decode cX10_begin 66 = .ok (.invokevirtual 76, 3) := by decide +kernel
theorem dX10_begin_69 : decode cX10_begin 69 = .ok (.istore_n 3, 1) := by decide +kernel
theorem dX10_begin_70 : decode cX10_begin 70 = .ok (.iinc 4 1, 3) := by decide +kernel
theorem dX10_begin_73 : decode cX10_begin 73 = .ok (.goto (-46), 3) := by decide +kernel
theorem dX10_begin_76 : decode cX10_begin 76 = .ok (.aload_n 0, 1) := by decide +kernel
theorem dX10_begin_77 : decode cX10_begin 77 = .ok (.aload_n 0, 1) := by decide +kernel
theorem dX10_begin_78 : decode cX10_begin 78 = .ok (.getfield 29, 3) := by decide +kernel
theorem dX10_begin_81 : decode cX10_begin 81 = .ok (.iload_n 1, 1) := by decide +kernel
theorem dX10_begin_82 : decode cX10_begin 82 = .ok (.if_icmp .le 8, 3) := by decide +kernel
theorem dX10_begin_85 : decode cX10_begin 85 = .ok (.bipush 103, 2) := by decide +kernel
theorem dX10_begin_87 : decode cX10_begin 87 = .ok (.goto 5, 3) := by decide +kernel
theorem dX10_begin_90 : decode cX10_begin 90 = .ok (.bipush 102, 2) := by decide +kernel
theorem dX10_begin_92 : decode cX10_begin 92 = .ok (.iload_n 2, 1) := by decide +kernel
theorem dX10_begin_93 : decode cX10_begin 93 = .ok (.lconst 0, 1) := by decide +kernel
theorem dX10_begin_94 : decode cX10_begin 94 = .ok (.invokevirtual 80, 3) := by decide +kernel
theorem dX10_begin_97 : decode cX10_begin 97 = .ok (.aload_n 0, 1) := by decide +kernel
theorem dX10_begin_98 : decode cX10_begin 98 = .ok (.iconst 0, 1) := by decide +kernel
theorem dX10_begin_99 : decode cX10_begin 99 = .ok (.putfield 49, 3) := by decide +kernel
theorem dX10_begin_102 : decode cX10_begin 102 = .ok (.aload_n 0, 1) := by decide +kernel
theorem dX10_begin_103 : decode cX10_begin 103 = .ok (.iconst 0, 1) := by decide +kernel
theorem dX10_begin_104 : decode cX10_begin 104 = .ok (.putfield 52, 3) := by decide +kernel
theorem dX10_begin_107 : decode cX10_begin 107 = .ok (.aload_n 0, 1) := by decide +kernel
theorem dX10_begin_108 : decode cX10_begin 108 = .ok (.iconst (-1), 1) := by decide +kernel
theorem dX10_begin_109 : decode cX10_begin 109 = .ok (.putfield 36, 3) := by decide +kernel
theorem dX10_begin_112 : decode cX10_begin 112 = .ok (.aload_n 0, 1) := by decide +kernel
theorem dX10_begin_113 : decode cX10_begin 113 = .ok (.invokevirtual 84, 3) := by decide +kernel
theorem dX10_begin_116 : decode cX10_begin 116 = .ok (.return_, 1) := by decide +kernel
theorem dX10_fail_0 : decode cX10_fail 0 = .ok (.aload_n 0, 1) := by decide +kernel
theorem dX10_fail_1 : decode cX10_fail 1 = .ok (.getfield 49, 3) := by decide +kernel
theorem dX10_fail_4 : decode cX10_fail 4 = .ok (.ifCond .ne 16, 3) := by decide +kernel
theorem dX10_fail_7 : decode cX10_fail 7 = .ok (.aload_n 0, 1) := by decide +kernel
theorem dX10_fail_8 : decode cX10_fail 8 = .ok (.iload_n 1, 1) := by decide +kernel
theorem dX10_fail_9 : decode cX10_fail 9 = .ok (.putfield 49, 3) := by decide +kernel
theorem dX10_fail_12 : decode cX10_fail 12 = .ok (.aload_n 0, 1) := by decide +kernel
theorem dX10_fail_13 : decode cX10_fail 13 = .ok (.aload_n 0, 1) := by decide +kernel
theorem dX10_fail_14 : decode cX10_fail 14 = .ok (.getfield 42, 3) := by decide +kernel
theorem dX10_fail_17 : decode cX10_fail 17 = .ok (.putfield 52, 3) := by decide +kernel
theorem dX10_fail_20 : decode cX10_fail 20 = .ok (.iconst 0, 1) := by decide +kernel
theorem dX10_fail_21 : decode cX10_fail 21 = .ok (.ireturn, 1) := by decide +kernel
theorem dX10_readToken_0 : decode cX10_readToken 0 = .ok (.iconst 0, 1) := by decide +kernel
theorem dX10_readToken_1 : decode cX10_readToken 1 = .ok (.istore_n 2, 1) := by decide +kernel
theorem dX10_readToken_2 : decode cX10_readToken 2 = .ok (.iconst 0, 1) := by decide +kernel
theorem dX10_readToken_3 : decode cX10_readToken 3 = .ok (.istore_n 3, 1) := by decide +kernel
theorem dX10_readToken_4 : decode cX10_readToken 4 = .ok (.lconst 0, 1) := by decide +kernel
theorem dX10_readToken_5 : decode cX10_readToken 5 = .ok (.lstore 4, 2) := by decide +kernel
theorem dX10_readToken_7 : decode cX10_readToken 7 = .ok (.iconst 0, 1) := by decide +kernel
theorem dX10_readToken_8 : decode cX10_readToken 8 = .ok (.istore 6, 2) := by decide +kernel
theorem dX10_readToken_10 : decode cX10_readToken 10 = .ok (.iload_n 1, 1) := by decide +kernel
theorem dX10_readToken_11 : decode cX10_readToken 11 = .ok (.istore 7, 2) := by decide +kernel
theorem dX10_readToken_13 : decode cX10_readToken 13 = .ok (.iload 7, 2) := by decide +kernel
theorem dX10_readToken_15 : decode cX10_readToken 15 = .ok (.aload_n 0, 1) := by decide +kernel
theorem dX10_readToken_16 : decode cX10_readToken 16 = .ok (.getfield 29, 3) := by decide +kernel
theorem dX10_readToken_19 : decode cX10_readToken 19 = .ok (.if_icmp .ge 99, 3) := by decide +kernel
theorem dX10_readToken_22 : decode cX10_readToken 22 = .ok (.iload 7, 2) := by decide +kernel
theorem dX10_readToken_24 : decode cX10_readToken 24 = .ok (.aload_n 0, 1) := by decide +kernel
theorem dX10_readToken_25 : decode cX10_readToken 25 = .ok (.getfield 9, 3) := by decide +kernel
theorem dX10_readToken_28 : decode cX10_readToken 28 = .ok (.arraylength, 1) := by decide +kernel
theorem dX10_readToken_29 : decode cX10_readToken 29 = .ok (.if_icmp .ge 89, 3) := by decide +kernel
theorem dX10_readToken_32 : decode cX10_readToken 32 = .ok (.aload_n 0, 1) := by decide +kernel
theorem dX10_readToken_33 : decode cX10_readToken 33 = .ok (.getfield 9, 3) := by decide +kernel
theorem dX10_readToken_36 : decode cX10_readToken 36 = .ok (.iload 7, 2) := by decide +kernel
theorem dX10_readToken_38 : decode cX10_readToken 38 = .ok (.baload, 1) := by decide +kernel
theorem dX10_readToken_39 : decode cX10_readToken 39 = .ok (.invokestatic 87, 3) := by decide +kernel
theorem dX10_readToken_42 : decode cX10_readToken 42 = .ok (.ifCond .ne 16, 3) := by decide +kernel
theorem dX10_readToken_45 : decode cX10_readToken 45 = .ok (.aload_n 0, 1) := by decide +kernel
theorem dX10_readToken_46 : decode cX10_readToken 46 = .ok (.getfield 9, 3) := by decide +kernel
theorem dX10_readToken_49 : decode cX10_readToken 49 = .ok (.iload 7, 2) := by decide +kernel
theorem dX10_readToken_51 : decode cX10_readToken 51 = .ok (.baload, 1) := by decide +kernel
theorem dX10_readToken_52 : decode cX10_readToken 52 = .ok (.invokestatic 91, 3) := by decide +kernel
theorem dX10_readToken_55 : decode cX10_readToken 55 = .ok (.ifCond .eq 63, 3) := by decide +kernel
theorem dX10_readToken_58 : decode cX10_readToken 58 = .ok (.aload_n 0, 1) := by decide +kernel
theorem dX10_readToken_59 : decode cX10_readToken 59 = .ok (.getfield 9, 3) := by decide +kernel
theorem dX10_readToken_62 : decode cX10_readToken 62 = .ok (.iload 7, 2) := by decide +kernel
theorem dX10_readToken_64 : decode cX10_readToken 64 = .ok (.baload, 1) := by decide +kernel
theorem dX10_readToken_65 : decode cX10_readToken 65 = .ok (.invokestatic 87, 3) := by decide +kernel
theorem dX10_readToken_68 : decode cX10_readToken 68 = .ok (.ifCond .eq 23, 3) := by decide +kernel
theorem dX10_readToken_71 : decode cX10_readToken 71 = .ok (.lload 4, 2) := by decide +kernel
theorem dX10_readToken_73 : decode cX10_readToken 73 = .ok (.aload_n 0, 1) := by decide +kernel
theorem dX10_readToken_74 : decode cX10_readToken 74 = .ok (.getfield 9, 3) := by decide +kernel
theorem dX10_readToken_77 : decode cX10_readToken 77 = .ok (.iload 7, 2) := by decide +kernel
theorem dX10_readToken_79 : decode cX10_readToken 79 = .ok (.baload, 1) := by decide +kernel
theorem dX10_readToken_80 : decode cX10_readToken 80 = .ok (.invokestatic 66, 3) := by decide +kernel
theorem dX10_readToken_83 : decode cX10_readToken 83 = .ok (.lstore 4, 2) := by decide +kernel
theorem dX10_readToken_85 : decode cX10_readToken 85 = .ok (.iinc 2 1, 3) := by decide +kernel
theorem dX10_readToken_88 : decode cX10_readToken 88 = .ok (.goto 24, 3) := by decide +kernel
theorem dX10_readToken_91 : decode cX10_readToken 91 = .ok (.iload 6, 2) := by decide +kernel
theorem dX10_readToken_93 : decode cX10_readToken 93 = .ok (.bipush 10, 2) := by decide +kernel
theorem dX10_readToken_95 : decode cX10_readToken 95 = .ok (.imul, 1) := by decide +kernel
theorem dX10_readToken_96 : decode cX10_readToken 96 = .ok (.aload_n 0, 1) := by decide +kernel
theorem dX10_readToken_97 : decode cX10_readToken 97 = .ok (.getfield 9, 3) := by decide +kernel
theorem dX10_readToken_100 : decode cX10_readToken 100 = .ok (.iload 7, 2) := by decide +kernel
theorem dX10_readToken_102 : decode cX10_readToken 102 = .ok (.baload, 1) := by decide +kernel
theorem dX10_readToken_103 : decode cX10_readToken 103 = .ok (.iadd, 1) := by decide +kernel
theorem dX10_readToken_104 : decode cX10_readToken 104 = .ok (.bipush 48, 2) := by decide +kernel
theorem dX10_readToken_106 : decode cX10_readToken 106 = .ok (.isub, 1) := by decide +kernel
theorem dX10_readToken_107 : decode cX10_readToken 107 = .ok (.istore 6, 2) := by decide +kernel
theorem dX10_readToken_109 : decode cX10_readToken 109 = .ok (.iinc 3 1, 3) := by decide +kernel
theorem dX10_readToken_112 : decode cX10_readToken 112 = .ok (.iinc 7 1, 3) := by decide +kernel
theorem dX10_readToken_115 : decode cX10_readToken 115 = .ok (.goto (-102), 3) := by decide +kernel
theorem dX10_readToken_118 : decode cX10_readToken 118 = .ok (.iload 7, 2) := by decide +kernel
theorem dX10_readToken_120 : decode cX10_readToken 120 = .ok (.iload_n 1, 1) := by decide +kernel
theorem dX10_readToken_121 : decode cX10_readToken 121 = .ok (.if_icmp .ne 36, 3) := by decide +kernel
theorem dX10_readToken_124 : decode cX10_readToken 124 = .ok (.aload_n 0, 1) := by decide +kernel
theorem dX10_readToken_125 : decode cX10_readToken 125 = .ok (.aload_n 0, 1) := by decide +kernel
theorem dX10_readToken_126 : decode cX10_readToken 126 = .ok (.getfield 9, 3) := by decide +kernel
theorem dX10_readToken_129 : decode cX10_readToken 129 = .ok (.iload_n 1, 1) := by decide +kernel
theorem dX10_readToken_130 : decode cX10_readToken 130 = .ok (.baload, 1) := by decide +kernel
theorem dX10_readToken_131 : decode cX10_readToken 131 = .ok (.invokestatic 94, 3) := by decide +kernel
theorem dX10_readToken_134 : decode cX10_readToken 134 = .ok (.ifCond .eq 12, 3) := by decide +kernel
theorem dX10_readToken_137 : decode cX10_readToken 137 = .ok (.aload_n 0, 1) := by decide +kernel
theorem dX10_readToken_138 : decode cX10_readToken 138 = .ok (.getfield 9, 3) := by decide +kernel
theorem dX10_readToken_141 : decode cX10_readToken 141 = .ok (.iload_n 1, 1) := by decide +kernel
theorem dX10_readToken_142 : decode cX10_readToken 142 = .ok (.baload, 1) := by decide +kernel
theorem dX10_readToken_143 : decode cX10_readToken 143 = .ok (.goto 5, 3) := by decide +kernel
theorem dX10_readToken_146 : decode cX10_readToken 146 = .ok (.bipush 103, 2) := by decide +kernel
theorem dX10_readToken_148 : decode cX10_readToken 148 = .ok (.iload_n 1, 1) := by decide +kernel
theorem dX10_readToken_149 : decode cX10_readToken 149 = .ok (.lconst 0, 1) := by decide +kernel
theorem dX10_readToken_150 : decode cX10_readToken 150 = .ok (.invokevirtual 80, 3) := by decide +kernel
theorem dX10_readToken_153 : decode cX10_readToken 153 = .ok (.iload_n 1, 1) := by decide +kernel
theorem dX10_readToken_154 : decode cX10_readToken 154 = .ok (.iconst 1, 1) := by decide +kernel
theorem dX10_readToken_155 : decode cX10_readToken 155 = .ok (.iadd, 1) := by decide +kernel
theorem dX10_readToken_156 : decode cX10_readToken 156 = .ok (.ireturn, 1) := by decide +kernel
theorem dX10_readToken_157 : decode cX10_readToken 157 = .ok (.iload_n 3, 1) := by decide +kernel
theorem dX10_readToken_158 : decode cX10_readToken 158 = .ok (.ifCond .ne 25, 3) := by decide +kernel
theorem dX10_readToken_161 : decode cX10_readToken 161 = .ok (.iload_n 2, 1) := by decide +kernel
theorem dX10_readToken_162 : decode cX10_readToken 162 = .ok (.bipush 7, 2) := by decide +kernel
theorem dX10_readToken_164 : decode cX10_readToken 164 = .ok (.if_icmp .gt 19, 3) := by decide +kernel
theorem dX10_readToken_167 : decode cX10_readToken 167 = .ok (.aload_n 0, 1) := by decide +kernel
theorem dX10_readToken_168 : decode cX10_readToken 168 = .ok (.aload_n 0, 1) := by decide +kernel
theorem dX10_readToken_169 : decode cX10_readToken 169 = .ok (.lload 4, 2) := by decide +kernel
theorem dX10_readToken_171 : decode cX10_readToken 171 = .ok (.invokevirtual 97, 3) := by decide +kernel
theorem dX10_readToken_174 : decode cX10_readToken 174 = .ok (.iload_n 1, 1) := by decide +kernel
theorem dX10_readToken_175 : decode cX10_readToken 175 = .ok (.lload 4, 2) := by decide +kernel
theorem dX10_readToken_177 : decode cX10_readToken 177 = .ok (.invokevirtual 80, 3) := by decide +kernel
theorem dX10_readToken_180 : decode cX10_readToken 180 = .ok (.goto 33, 3) := by decide +kernel
theorem dX10_readToken_183 : decode cX10_readToken 183 = .ok (.iload_n 2, 1) := by decide +kernel
theorem dX10_readToken_184 : decode cX10_readToken 184 = .ok (.ifCond .ne 21, 3) := by decide +kernel
theorem dX10_readToken_187 : decode cX10_readToken 187 = .ok (.iload_n 3, 1) := by decide +kernel
theorem dX10_readToken_188 : decode cX10_readToken 188 = .ok (.iconst 3, 1) := by decide +kernel
theorem dX10_readToken_189 : decode cX10_readToken 189 = .ok (.if_icmp .gt 16, 3) := by decide +kernel
theorem dX10_readToken_192 : decode cX10_readToken 192 = .ok (.aload_n 0, 1) := by decide +kernel
theorem dX10_readToken_193 : decode cX10_readToken 193 = .ok (.bipush 101, 2) := by decide +kernel
theorem dX10_readToken_195 : decode cX10_readToken 195 = .ok (.iload_n 1, 1) := by decide +kernel
theorem dX10_readToken_196 : decode cX10_readToken 196 = .ok (.iload 6, 2) := by decide +kernel
theorem dX10_readToken_198 : decode cX10_readToken 198 = .ok (.i2l, 1) := by decide +kernel
theorem dX10_readToken_199 : decode cX10_readToken 199 = .ok (.invokevirtual 80, 3) := by decide +kernel
theorem dX10_readToken_202 : decode cX10_readToken 202 = .ok (.goto 11, 3) := by decide +kernel
theorem dX10_readToken_205 : decode cX10_readToken 205 = .ok (.aload_n 0, 1) := by decide +kernel
theorem dX10_readToken_206 : decode cX10_readToken 206 = .ok (.bipush 103, 2) := by decide +kernel
theorem dX10_readToken_208 : decode cX10_readToken 208 = .ok (.iload_n 1, 1) := by decide +kernel
theorem dX10_readToken_209 : decode cX10_readToken 209 = .ok (.lconst 0, 1) := by decide +kernel
theorem dX10_readToken_210 : decode cX10_readToken 210 = .ok (.invokevirtual 80, 3) := by decide +kernel
theorem dX10_readToken_213 : decode cX10_readToken 213 = .ok (.iload 7, 2) := by decide +kernel
theorem dX10_readToken_215 : decode cX10_readToken 215 = .ok (.ireturn, 1) := by decide +kernel
theorem dX10_take_0 : decode cX10_take 0 = .ok (.aload_n 0, 1) := by decide +kernel
theorem dX10_take_1 : decode cX10_take 1 = .ok (.getfield 39, 3) := by decide +kernel
theorem dX10_take_4 : decode cX10_take 4 = .ok (.iload_n 1, 1) := by decide +kernel
theorem dX10_take_5 : decode cX10_take 5 = .ok (.if_icmp .eq 9, 3) := by decide +kernel
theorem dX10_take_8 : decode cX10_take 8 = .ok (.aload_n 0, 1) := by decide +kernel
theorem dX10_take_9 : decode cX10_take 9 = .ok (.iconst 1, 1) := by decide +kernel
theorem dX10_take_10 : decode cX10_take 10 = .ok (.invokevirtual 101, 3) := by decide +kernel
theorem dX10_take_13 : decode cX10_take 13 = .ok (.ireturn, 1) := by decide +kernel
theorem dX10_take_14 : decode cX10_take 14 = .ok (.aload_n 0, 1) := by decide +kernel
theorem dX10_take_15 : decode cX10_take 15 = .ok (.invokevirtual 84, 3) := by decide +kernel
theorem dX10_take_18 : decode cX10_take 18 = .ok (.iconst 1, 1) := by decide +kernel
theorem dX10_take_19 : decode cX10_take 19 = .ok (.ireturn, 1) := by decide +kernel
theorem dX10_takeName_0 : decode cX10_takeName 0 = .ok (.aload_n 0, 1) := by decide +kernel
theorem dX10_takeName_1 : decode cX10_takeName 1 = .ok (.getfield 39, 3) := by decide +kernel
theorem dX10_takeName_4 : decode cX10_takeName 4 = .ok (.bipush 100, 2) := by decide +kernel
theorem dX10_takeName_6 : decode cX10_takeName 6 = .ok (.if_icmp .eq 11, 3) := by decide +kernel
theorem dX10_takeName_9 : decode cX10_takeName 9 = .ok (.aload_n 0, 1) := by decide +kernel
theorem dX10_takeName_10 : decode cX10_takeName 10 = .ok (.iconst 1, 1) := by decide +kernel
theorem dX10_takeName_11 : decode cX10_takeName 11 = .ok (.invokevirtual 101, 3) := by decide +kernel
theorem dX10_takeName_14 : decode cX10_takeName 14 = .ok (.pop, 1) := by decide +kernel
theorem dX10_takeName_15 : decode cX10_takeName 15 = .ok (.iconst (-1), 1) := by decide +kernel
theorem dX10_takeName_16 : decode cX10_takeName 16 = .ok (.ireturn, 1) := by decide +kernel
theorem dX10_takeName_17 : decode cX10_takeName 17 = .ok (.iload_n 1, 1) := by decide +kernel
theorem dX10_takeName_18 : decode cX10_takeName 18 = .ok (.iconst (-1), 1) := by decide +kernel
theorem dX10_takeName_19 : decode cX10_takeName 19 = .ok (.if_icmp .ne 11, 3) := by decide +kernel
theorem dX10_takeName_22 : decode cX10_takeName 22 = .ok (.aload_n 0, 1) := by decide +kernel
theorem dX10_takeName_23 : decode cX10_takeName 23 = .ok (.iconst 3, 1) := by decide +kernel
theorem dX10_takeName_24 : decode cX10_takeName 24 = .ok (.invokevirtual 101, 3) := by decide +kernel
theorem dX10_takeName_27 : decode cX10_takeName 27 = .ok (.pop, 1) := by decide +kernel
theorem dX10_takeName_28 : decode cX10_takeName 28 = .ok (.iconst (-1), 1) := by decide +kernel
theorem dX10_takeName_29 : decode cX10_takeName 29 = .ok (.ireturn, 1) := by decide +kernel
theorem dX10_takeName_30 : decode cX10_takeName 30 = .ok (.aload_n 0, 1) := by decide +kernel
theorem dX10_takeName_31 : decode cX10_takeName 31 = .ok (.invokevirtual 84, 3) := by decide +kernel
theorem dX10_takeName_34 : decode cX10_takeName 34 = .ok (.iload_n 1, 1) := by decide +kernel
theorem dX10_takeName_35 : decode cX10_takeName 35 = .ok (.ireturn, 1) := by decide +kernel
theorem dX10_takeNumber_0 : decode cX10_takeNumber 0 = .ok (.aload_n 0, 1) := by decide +kernel
theorem dX10_takeNumber_1 : decode cX10_takeNumber 1 = .ok (.getfield 39, 3) := by decide +kernel
theorem dX10_takeNumber_4 : decode cX10_takeNumber 4 = .ok (.bipush 101, 2) := by decide +kernel
theorem dX10_takeNumber_6 : decode cX10_takeNumber 6 = .ok (.if_icmp .eq 11, 3) := by decide +kernel
theorem dX10_takeNumber_9 : decode cX10_takeNumber 9 = .ok (.aload_n 0, 1) := by decide +kernel
theorem dX10_takeNumber_10 : decode cX10_takeNumber 10 = .ok (.iconst 1, 1) := by decide +kernel
theorem dX10_takeNumber_11 : decode cX10_takeNumber 11 = .ok (.invokevirtual 101, 3) := by decide +kernel
theorem dX10_takeNumber_14 : decode cX10_takeNumber 14 = .ok (.pop, 1) := by decide +kernel
theorem dX10_takeNumber_15 : decode cX10_takeNumber 15 = .ok (.iconst (-1), 1) := by decide +kernel
theorem dX10_takeNumber_16 : decode cX10_takeNumber 16 = .ok (.ireturn, 1) := by decide +kernel
theorem dX10_takeNumber_17 : decode cX10_takeNumber 17 = .ok (.aload_n 0, 1) := by decide +kernel
theorem dX10_takeNumber_18 : decode cX10_takeNumber 18 = .ok (.getfield 45, 3) := by decide +kernel
theorem dX10_takeNumber_21 : decode cX10_takeNumber 21 = .ok (.iload_n 1, 1) := by decide +kernel
theorem dX10_takeNumber_22 : decode cX10_takeNumber 22 = .ok (.i2l, 1) := by decide +kernel
theorem dX10_takeNumber_23 : decode cX10_takeNumber 23 = .ok (.lcmp, 1) := by decide +kernel
theorem dX10_takeNumber_24 : decode cX10_takeNumber 24 = .ok (.ifCond .lt 13, 3) := by decide +kernel
theorem dX10_takeNumber_27 : decode cX10_takeNumber 27 = .ok (.aload_n 0, 1) := by decide +kernel
theorem dX10_takeNumber_28 : decode cX10_takeNumber 28 = .ok (.getfield 45, 3) := by decide +kernel
theorem dX10_takeNumber_31 : decode cX10_takeNumber 31 = .ok (.iload_n 2, 1) := by decide +kernel
theorem dX10_takeNumber_32 : decode cX10_takeNumber 32 = .ok (.i2l, 1) := by decide +kernel
theorem dX10_takeNumber_33 : decode cX10_takeNumber 33 = .ok (.lcmp, 1) := by decide +kernel
theorem dX10_takeNumber_34 : decode cX10_takeNumber 34 = .ok (.ifCond .le 11, 3) := by decide +kernel
theorem dX10_takeNumber_37 : decode cX10_takeNumber 37 = .ok (.aload_n 0, 1) := by decide +kernel
theorem dX10_takeNumber_38 : decode cX10_takeNumber 38 = .ok (.iconst 2, 1) := by decide +kernel
theorem dX10_takeNumber_39 : decode cX10_takeNumber 39 = .ok (.invokevirtual 101, 3) := by decide +kernel
theorem dX10_takeNumber_42 : decode cX10_takeNumber 42 = .ok (.pop, 1) := by decide +kernel
theorem dX10_takeNumber_43 : decode cX10_takeNumber 43 = .ok (.iconst (-1), 1) := by decide +kernel
theorem dX10_takeNumber_44 : decode cX10_takeNumber 44 = .ok (.ireturn, 1) := by decide +kernel
theorem dX10_takeNumber_45 : decode cX10_takeNumber 45 = .ok (.aload_n 0, 1) := by decide +kernel
theorem dX10_takeNumber_46 : decode cX10_takeNumber 46 = .ok (.getfield 45, 3) := by decide +kernel
theorem dX10_takeNumber_49 : decode cX10_takeNumber 49 = .ok (.l2i, 1) := by decide +kernel
theorem dX10_takeNumber_50 : decode cX10_takeNumber 50 = .ok (.istore_n 3, 1) := by decide +kernel
theorem dX10_takeNumber_51 : decode cX10_takeNumber 51 = .ok (.aload_n 0, 1) := by decide +kernel
theorem dX10_takeNumber_52 : decode cX10_takeNumber 52 = .ok (.invokevirtual 84, 3) := by decide +kernel
theorem dX10_takeNumber_55 : decode cX10_takeNumber 55 = .ok (.iload_n 3, 1) := by decide +kernel
theorem dX10_takeNumber_56 : decode cX10_takeNumber 56 = .ok (.ireturn, 1) := by decide +kernel
theorem dX1_forget_0 : decode cX1_forget 0 = .ok (.iconst 0, 1) := by decide +kernel
theorem dX1_forget_1 : decode cX1_forget 1 = .ok (.istore_n 1, 1) := by decide +kernel
theorem dX1_forget_2 : decode cX1_forget 2 = .ok (.iload_n 1, 1) := by decide +kernel
theorem dX1_forget_3 : decode cX1_forget 3 = .ok (.bipush 6, 2) := by decide +kernel
theorem dX1_forget_5 : decode cX1_forget 5 = .ok (.if_icmp .ge 16, 3) := by decide +kernel
theorem dX1_forget_8 : decode cX1_forget 8 = .ok (.aload_n 0, 1) := by decide +kernel
theorem dX1_forget_9 : decode cX1_forget 9 = .ok (.getfield 9, 3) := by decide +kernel
theorem dX1_forget_12 : decode cX1_forget 12 = .ok (.iload_n 1, 1) := by decide +kernel
theorem dX1_forget_13 : decode cX1_forget 13 = .ok (.iconst 0, 1) := by decide +kernel
theorem dX1_forget_14 : decode cX1_forget 14 = .ok (.iastore, 1) := by decide +kernel
theorem dX1_forget_15 : decode cX1_forget 15 = .ok (.iinc 1 1, 3) := by decide +kernel
theorem dX1_forget_18 : decode cX1_forget 18 = .ok (.goto (-16), 3) := by decide +kernel
theorem dX1_forget_21 : decode cX1_forget 21 = .ok (.iconst 0, 1) := by decide +kernel
theorem dX1_forget_22 : decode cX1_forget 22 = .ok (.istore_n 1, 1) := by decide +kernel
theorem dX1_forget_23 : decode cX1_forget 23 = .ok (.iload_n 1, 1) := by decide +kernel
theorem dX1_forget_24 : decode cX1_forget 24 = .ok (.bipush 42, 2) := by decide +kernel
theorem dX1_forget_26 : decode cX1_forget 26 = .ok (.if_icmp .ge 16, 3) := by decide +kernel
theorem dX1_forget_29 : decode cX1_forget 29 = .ok (.aload_n 0, 1) := by decide +kernel
theorem dX1_forget_30 : decode cX1_forget 30 = .ok (.getfield 15, 3) := by decide +kernel
theorem dX1_forget_33 : decode cX1_forget 33 = .ok (.iload_n 1, 1) := by decide +kernel
theorem dX1_forget_34 : decode cX1_forget 34 = .ok (.iconst 0, 1) := by decide +kernel
theorem dX1_forget_35 : decode cX1_forget 35 = .ok (.iastore, 1) := by decide +kernel
theorem dX1_forget_36 : decode cX1_forget 36 = .ok (.iinc 1 1, 3) := by decide +kernel
theorem dX1_forget_39 : decode cX1_forget 39 = .ok (.goto (-16), 3) := by decide +kernel
theorem dX1_forget_42 : decode cX1_forget 42 = .ok (.iconst 0, 1) := by decide +kernel
theorem dX1_forget_43 : decode cX1_forget 43 = .ok (.istore_n 1, 1) := by decide +kernel
theorem dX1_forget_44 : decode cX1_forget 44 = .ok (.iload_n 1, 1) := by decide +kernel
theorem dX1_forget_45 : decode cX1_forget 45 = .ok (.bipush 7, 2) := by decide +kernel
theorem dX1_forget_47 : decode cX1_forget 47 = .ok (.if_icmp .ge 37, 3) := by decide +kernel
theorem dX1_forget_50 : decode cX1_forget 50 = .ok (.aload_n 0, 1) := by decide +kernel
theorem dX1_forget_51 : decode cX1_forget 51 = .ok (.getfield 18, 3) := by decide +kernel
theorem dX1_forget_54 : decode cX1_forget 54 = .ok (.iload_n 1, 1) := by decide +kernel
theorem dX1_forget_55 : decode cX1_forget 55 = .ok (.iconst 0, 1) := by decide +kernel
theorem dX1_forget_56 : decode cX1_forget 56 = .ok (.iastore, 1) := by decide +kernel
theorem dX1_forget_57 : decode cX1_forget 57 = .ok (.aload_n 0, 1) := by decide +kernel
theorem dX1_forget_58 : decode cX1_forget 58 = .ok (.getfield 21, 3) := by decide +kernel
theorem dX1_forget_61 : decode cX1_forget 61 = .ok (.iload_n 1, 1) := by decide +kernel
theorem dX1_forget_62 : decode cX1_forget 62 = .ok (.iconst 0, 1) := by decide +kernel
theorem dX1_forget_63 : decode cX1_forget 63 = .ok (.iastore, 1) := by decide +kernel
theorem dX1_forget_64 : decode cX1_forget 64 = .ok (.aload_n 0, 1) := by decide +kernel
theorem dX1_forget_65 : decode cX1_forget 65 = .ok (.getfield 24, 3) := by decide +kernel
theorem dX1_forget_68 : decode cX1_forget 68 = .ok (.iload_n 1, 1) := by decide +kernel
theorem dX1_forget_69 : decode cX1_forget 69 = .ok (.iconst 0, 1) := by decide +kernel
theorem dX1_forget_70 : decode cX1_forget 70 = .ok (.iastore, 1) := by decide +kernel
theorem dX1_forget_71 : decode cX1_forget 71 = .ok (.aload_n 0, 1) := by decide +kernel
theorem dX1_forget_72 : decode cX1_forget 72 = .ok (.getfield 27, 3) := by decide +kernel
theorem dX1_forget_75 : decode cX1_forget 75 = .ok (.iload_n 1, 1) := by decide +kernel
theorem dX1_forget_76 : decode cX1_forget 76 = .ok (.iconst 0, 1) := by decide +kernel
theorem dX1_forget_77 : decode cX1_forget 77 = .ok (.iastore, 1) := by decide +kernel
theorem dX1_forget_78 : decode cX1_forget 78 = .ok (.iinc 1 1, 3) := by decide +kernel
theorem dX1_forget_81 : decode cX1_forget 81 = .ok (.goto (-37), 3) := by decide +kernel
theorem dX1_forget_84 : decode cX1_forget 84 = .ok (.aload_n 0, 1) := by decide +kernel
theorem dX1_forget_85 : decode cX1_forget 85 = .ok (.iconst 0, 1) := by decide +kernel
theorem dX1_forget_86 : decode cX1_forget 86 = .ok (.putfield 30, 3) := by decide +kernel
theorem dX1_forget_89 : decode cX1_forget 89 = .ok (.aload_n 0, 1) := by decide +kernel
theorem dX1_forget_90 : decode cX1_forget 90 = .ok (.iconst 0, 1) := by decide +kernel
theorem dX1_forget_91 : decode cX1_forget 91 = .ok (.putfield 34, 3) := by decide +kernel
theorem dX1_forget_94 : decode cX1_forget 94 = .ok (.aload_n 0, 1) := by decide +kernel
theorem dX1_forget_95 : decode cX1_forget 95 = .ok (.iconst 0, 1) := by decide +kernel
theorem dX1_forget_96 : decode cX1_forget 96 = .ok (.putfield 37, 3) := by decide +kernel
theorem dX1_forget_99 : decode cX1_forget 99 = .ok (.aload_n 0, 1) := by decide +kernel
theorem dX1_forget_100 : decode cX1_forget 100 = .ok (.iconst 0, 1) := by decide +kernel
theorem dX1_forget_101 : decode cX1_forget 101 = .ok (.putfield 40, 3) := by decide +kernel
theorem dX1_forget_104 : decode cX1_forget 104 = .ok (.aload_n 0, 1) := by decide +kernel
theorem dX1_forget_105 : decode cX1_forget 105 = .ok (.iconst 0, 1) := by decide +kernel
theorem dX1_forget_106 : decode cX1_forget 106 = .ok (.putfield 43, 3) := by decide +kernel
theorem dX1_forget_109 : decode cX1_forget 109 = .ok (.aload_n 0, 1) := by decide +kernel
theorem dX1_forget_110 : decode cX1_forget 110 = .ok (.iconst 0, 1) := by decide +kernel
theorem dX1_forget_111 : decode cX1_forget 111 = .ok (.putfield 46, 3) := by decide +kernel
theorem dX1_forget_114 : decode cX1_forget 114 = .ok (.return_, 1) := by decide +kernel
theorem dX8_dishNamed_0 : decode cX8_dishNamed 0 = .ok (.iconst 0, 1) := by decide +kernel
theorem dX8_dishNamed_1 : decode cX8_dishNamed 1 = .ok (.istore_n 3, 1) := by decide +kernel
theorem dX8_dishNamed_2 : decode cX8_dishNamed 2 = .ok (.iload_n 3, 1) := by decide +kernel
theorem dX8_dishNamed_3 : decode cX8_dishNamed 3 = .ok (.aload_n 0, 1) := by decide +kernel
theorem dX8_dishNamed_4 : decode cX8_dishNamed 4 = .ok (.getfield 32, 3) := by decide +kernel
theorem dX8_dishNamed_7 : decode cX8_dishNamed 7 = .ok (.if_icmp .ge 22, 3) := by decide +kernel
theorem dX8_dishNamed_10 : decode cX8_dishNamed 10 = .ok (.aload_n 0, 1) := by decide +kernel
theorem dX8_dishNamed_11 : decode cX8_dishNamed 11 = .ok (.getfield 22, 3) := by decide +kernel
theorem dX8_dishNamed_14 : decode cX8_dishNamed 14 = .ok (.iload_n 3, 1) := by decide +kernel
theorem dX8_dishNamed_15 : decode cX8_dishNamed 15 = .ok (.laload, 1) := by decide +kernel
theorem dX8_dishNamed_16 : decode cX8_dishNamed 16 = .ok (.lload_n 1, 1) := by decide +kernel
theorem dX8_dishNamed_17 : decode cX8_dishNamed 17 = .ok (.lcmp, 1) := by decide +kernel
theorem dX8_dishNamed_18 : decode cX8_dishNamed 18 = .ok (.ifCond .ne 5, 3) := by decide +kernel
theorem dX8_dishNamed_21 : decode cX8_dishNamed 21 = .ok (.iload_n 3, 1) := by decide +kernel
theorem dX8_dishNamed_22 : decode cX8_dishNamed 22 = .ok (.ireturn, 1) := by decide +kernel
theorem dX8_dishNamed_23 : decode cX8_dishNamed 23 = .ok (.iinc 3 1, 3) := by decide +kernel
theorem dX8_dishNamed_26 : decode cX8_dishNamed 26 = .ok (.goto (-24), 3) := by decide +kernel
theorem dX8_dishNamed_29 : decode cX8_dishNamed 29 = .ok (.iconst (-1), 1) := by decide +kernel
theorem dX8_dishNamed_30 : decode cX8_dishNamed 30 = .ok (.ireturn, 1) := by decide +kernel
theorem dX8_forget_0 : decode cX8_forget 0 = .ok (.aload_n 0, 1) := by decide +kernel
theorem dX8_forget_1 : decode cX8_forget 1 = .ok (.iconst 0, 1) := by decide +kernel
theorem dX8_forget_2 : decode cX8_forget 2 = .ok (.putfield 28, 3) := by decide +kernel
theorem dX8_forget_5 : decode cX8_forget 5 = .ok (.aload_n 0, 1) := by decide +kernel
theorem dX8_forget_6 : decode cX8_forget 6 = .ok (.iconst 0, 1) := by decide +kernel
theorem dX8_forget_7 : decode cX8_forget 7 = .ok (.putfield 32, 3) := by decide +kernel
theorem dX8_forget_10 : decode cX8_forget 10 = .ok (.aload_n 0, 1) := by decide +kernel
theorem dX8_forget_11 : decode cX8_forget 11 = .ok (.iconst 0, 1) := by decide +kernel
theorem dX8_forget_12 : decode cX8_forget 12 = .ok (.putfield 35, 3) := by decide +kernel
theorem dX8_forget_15 : decode cX8_forget 15 = .ok (.aload_n 0, 1) := by decide +kernel
theorem dX8_forget_16 : decode cX8_forget 16 = .ok (.iconst 0, 1) := by decide +kernel
theorem dX8_forget_17 : decode cX8_forget 17 = .ok (.putfield 38, 3) := by decide +kernel
theorem dX8_forget_20 : decode cX8_forget 20 = .ok (.return_, 1) := by decide +kernel
theorem dX8_personNamed_0 : decode cX8_personNamed 0 = .ok (.iconst 0, 1) := by decide +kernel
theorem dX8_personNamed_1 : decode cX8_personNamed 1 = .ok (.istore_n 3, 1) := by decide +kernel
theorem dX8_personNamed_2 : decode cX8_personNamed 2 = .ok (.iload_n 3, 1) := by decide +kernel
theorem dX8_personNamed_3 : decode cX8_personNamed 3 = .ok (.aload_n 0, 1) := by decide +kernel
theorem dX8_personNamed_4 : decode cX8_personNamed 4 = .ok (.getfield 28, 3) := by decide +kernel
theorem dX8_personNamed_7 : decode cX8_personNamed 7 = .ok (.if_icmp .ge 22, 3) := by decide +kernel
theorem dX8_personNamed_10 : decode cX8_personNamed 10 = .ok (.aload_n 0, 1) := by decide +kernel
theorem dX8_personNamed_11 : decode cX8_personNamed 11 = .ok (.getfield 9, 3) := by decide +kernel
theorem dX8_personNamed_14 : decode cX8_personNamed 14 = .ok (.iload_n 3, 1) := by decide +kernel
theorem dX8_personNamed_15 : decode cX8_personNamed 15 = .ok (.laload, 1) := by decide +kernel
theorem dX8_personNamed_16 : decode cX8_personNamed 16 = .ok (.lload_n 1, 1) := by decide +kernel
theorem dX8_personNamed_17 : decode cX8_personNamed 17 = .ok (.lcmp, 1) := by decide +kernel
theorem dX8_personNamed_18 : decode cX8_personNamed 18 = .ok (.ifCond .ne 5, 3) := by decide +kernel
theorem dX8_personNamed_21 : decode cX8_personNamed 21 = .ok (.iload_n 3, 1) := by decide +kernel
theorem dX8_personNamed_22 : decode cX8_personNamed 22 = .ok (.ireturn, 1) := by decide +kernel
theorem dX8_personNamed_23 : decode cX8_personNamed 23 = .ok (.iinc 3 1, 3) := by decide +kernel
theorem dX8_personNamed_26 : decode cX8_personNamed 26 = .ok (.goto (-24), 3) := by decide +kernel
theorem dX8_personNamed_29 : decode cX8_personNamed 29 = .ok (.iconst (-1), 1) := by decide +kernel
theorem dX8_personNamed_30 : decode cX8_personNamed 30 = .ok (.ireturn, 1) := by decide +kernel
theorem dX9_newName_0 : decode cX9_newName 0 = .ok (.aload_n 1, 1) := by decide +kernel
theorem dX9_newName_1 : decode cX9_newName 1 = .ok (.getfield 44, 3) := by decide +kernel
theorem dX9_newName_4 : decode cX9_newName 4 = .ok (.bipush 100, 2) := by decide +kernel
theorem dX9_newName_6 : decode cX9_newName 6 = .ok (.if_icmp .eq 9, 3) := by decide +kernel
theorem dX9_newName_9 : decode cX9_newName 9 = .ok (.aload_n 1, 1) := by decide +kernel
theorem dX9_newName_10 : decode cX9_newName 10 = .ok (.iconst 1, 1) := by decide +kernel
theorem dX9_newName_11 : decode cX9_newName 11 = .ok (.invokevirtual 67, 3) := by decide +kernel
theorem dX9_newName_14 : decode cX9_newName 14 = .ok (.ireturn, 1) := by decide +kernel
theorem dX9_newName_15 : decode cX9_newName 15 = .ok (.aload_n 0, 1) := by decide +kernel
theorem dX9_newName_16 : decode cX9_newName 16 = .ok (.getfield 12, 3) := by decide +kernel
theorem dX9_newName_19 : decode cX9_newName 19 = .ok (.aload_n 1, 1) := by decide +kernel
theorem dX9_newName_20 : decode cX9_newName 20 = .ok (.getfield 71, 3) := by decide +kernel
theorem dX9_newName_23 : decode cX9_newName 23 = .ok (.invokevirtual 75, 3) := by decide +kernel
theorem dX9_newName_26 : decode cX9_newName 26 = .ok (.iconst (-1), 1) := by decide +kernel
theorem dX9_newName_27 : decode cX9_newName 27 = .ok (.if_icmp .ne 18, 3) := by decide +kernel
theorem dX9_newName_30 : decode cX9_newName 30 = .ok (.aload_n 0, 1) := by decide +kernel
theorem dX9_newName_31 : decode cX9_newName 31 = .ok (.getfield 12, 3) := by decide +kernel
theorem dX9_newName_34 : decode cX9_newName 34 = .ok (.aload_n 1, 1) := by decide +kernel
theorem dX9_newName_35 : decode cX9_newName 35 = .ok (.getfield 71, 3) := by decide +kernel
theorem dX9_newName_38 : decode cX9_newName 38 = .ok (.invokevirtual 79, 3) := by decide +kernel
theorem dX9_newName_41 : decode cX9_newName 41 = .ok (.iconst (-1), 1) := by decide +kernel
theorem dX9_newName_42 : decode cX9_newName 42 = .ok (.if_icmp .eq 9, 3) := by decide +kernel
theorem dX9_newName_45 : decode cX9_newName 45 = .ok (.aload_n 1, 1) := by decide +kernel
theorem dX9_newName_46 : decode cX9_newName 46 = .ok (.iconst 3, 1) := by decide +kernel
theorem dX9_newName_47 : decode cX9_newName 47 = .ok (.invokevirtual 67, 3) := by decide +kernel
theorem dX9_newName_50 : decode cX9_newName 50 = .ok (.ireturn, 1) := by decide +kernel
theorem dX9_newName_51 : decode cX9_newName 51 = .ok (.aload_n 1, 1) := by decide +kernel
theorem dX9_newName_52 : decode cX9_newName 52 = .ok (.invokevirtual 82, 3) := by decide +kernel
theorem dX9_newName_55 : decode cX9_newName 55 = .ok (.iconst 1, 1) := by decide +kernel
theorem dX9_newName_56 : decode cX9_newName 56 = .ok (.ireturn, 1) := by decide +kernel
theorem dX9_readDish_0 : decode cX9_readDish 0 = .ok (.aload_n 0, 1) := by decide +kernel
theorem dX9_readDish_1 : decode cX9_readDish 1 = .ok (.getfield 12, 3) := by decide +kernel
theorem dX9_readDish_4 : decode cX9_readDish 4 = .ok (.getfield 113, 3) := by decide +kernel
theorem dX9_readDish_7 : decode cX9_readDish 7 = .ok (.bipush 6, 2) := by decide +kernel
theorem dX9_readDish_9 : decode cX9_readDish 9 = .ok (.if_icmp .lt 9, 3) := by decide +kernel
theorem dX9_readDish_12 : decode cX9_readDish 12 = .ok (.aload_n 1, 1) := by decide +kernel
theorem dX9_readDish_13 : decode cX9_readDish 13 = .ok (.iconst 4, 1) := by decide +kernel
theorem dX9_readDish_14 : decode cX9_readDish 14 = .ok (.invokevirtual 67, 3) := by decide +kernel
theorem dX9_readDish_17 : decode cX9_readDish 17 = .ok (.ireturn, 1) := by decide +kernel
theorem dX9_readDish_18 : decode cX9_readDish 18 = .ok (.aload_n 1, 1) := by decide +kernel
theorem dX9_readDish_19 : decode cX9_readDish 19 = .ok (.invokevirtual 82, 3) := by decide +kernel
theorem dX9_readDish_22 : decode cX9_readDish 22 = .ok (.aload_n 1, 1) := by decide +kernel
theorem dX9_readDish_23 : decode cX9_readDish 23 = .ok (.getfield 71, 3) := by decide +kernel
theorem dX9_readDish_26 : decode cX9_readDish 26 = .ok (.lstore_n 2, 1) := by decide +kernel
theorem dX9_readDish_27 : decode cX9_readDish 27 = .ok (.aload_n 0, 1) := by decide +kernel
theorem dX9_readDish_28 : decode cX9_readDish 28 = .ok (.aload_n 1, 1) := by decide +kernel
theorem dX9_readDish_29 : decode cX9_readDish 29 = .ok (.invokevirtual 88, 3) := by decide +kernel
theorem dX9_readDish_32 : decode cX9_readDish 32 = .ok (.ifCond .ne 5, 3) := by decide +kernel
theorem dX9_readDish_35 : decode cX9_readDish 35 = .ok (.iconst 0, 1) := by decide +kernel
theorem dX9_readDish_36 : decode cX9_readDish 36 = .ok (.ireturn, 1) := by decide +kernel
theorem dX9_readDish_37 : decode cX9_readDish 37 = .ok (.aload_n 1, 1) := by decide +kernel
theorem dX9_readDish_38 : decode cX9_readDish 38 = .ok (.iconst 0, 1) := by decide +kernel
theorem dX9_readDish_39 : decode cX9_readDish 39 = .ok (.bipush 99, 2) := by decide +kernel
theorem dX9_readDish_41 : decode cX9_readDish 41 = .ok (.invokevirtual 91, 3) := by decide +kernel
theorem dX9_readDish_44 : decode cX9_readDish 44 = .ok (.istore 4, 2) := by decide +kernel
theorem dX9_readDish_46 : decode cX9_readDish 46 = .ok (.iload 4, 2) := by decide +kernel
theorem dX9_readDish_48 : decode cX9_readDish 48 = .ok (.iconst (-1), 1) := by decide +kernel
theorem dX9_readDish_49 : decode cX9_readDish 49 = .ok (.if_icmp .ne 5, 3) := by decide +kernel
theorem dX9_readDish_52 : decode cX9_readDish 52 = .ok (.iconst 0, 1) := by decide +kernel
theorem dX9_readDish_53 : decode cX9_readDish 53 = .ok (.ireturn, 1) := by decide +kernel
theorem dX9_readDish_54 : decode cX9_readDish 54 = .ok (.iconst 0, 1) := by decide +kernel
theorem dX9_readDish_55 : decode cX9_readDish 55 = .ok (.istore 5, 2) := by decide +kernel
theorem dX9_readDish_57 : decode cX9_readDish 57 = .ok (.aload_n 1, 1) := by decide +kernel
theorem dX9_readDish_58 : decode cX9_readDish 58 = .ok (.getfield 44, 3) := by decide +kernel
theorem dX9_readDish_61 : decode cX9_readDish 61 = .ok (.bipush 6, 2) := by decide +kernel
theorem dX9_readDish_63 : decode cX9_readDish 63 = .ok (.if_icmp .ne 24, 3) := by decide +kernel
theorem dX9_readDish_66 : decode cX9_readDish 66 = .ok (.aload_n 1, 1) := by decide +kernel
theorem dX9_readDish_67 : decode cX9_readDish 67 = .ok (.invokevirtual 82, 3) := by decide +kernel
theorem dX9_readDish_70 : decode cX9_readDish 70 = .ok (.aload_n 1, 1) := by decide +kernel
theorem dX9_readDish_71 : decode cX9_readDish 71 = .ok (.iconst 1, 1) := by decide +kernel
theorem dX9_readDish_72 : decode cX9_readDish 72 = .ok (.bipush 9, 2) := by decide +kernel
theorem dX9_readDish_74 : decode cX9_readDish 74 = .ok (.invokevirtual 91, 3) := by decide +kernel
theorem dX9_readDish_77 : decode cX9_readDish 77 = .ok (.istore 5, 2) := by decide +kernel
theorem dX9_readDish_79 : decode cX9_readDish 79 = .ok (.iload 5, 2) := by decide +kernel
theorem dX9_readDish_81 : decode cX9_readDish 81 = .ok (.iconst (-1), 1) := by decide +kernel
theorem dX9_readDish_82 : decode cX9_readDish 82 = .ok (.if_icmp .ne 5, 3) := by decide +kernel
theorem dX9_readDish_85 : decode cX9_readDish 85 = .ok (.iconst 0, 1) := by decide +kernel
theorem dX9_readDish_86 : decode cX9_readDish 86 = .ok (.ireturn, 1) := by decide +kernel
theorem dX9_readDish_87 : decode cX9_readDish 87 = .ok (.aload_n 0, 1) := by decide +kernel
theorem dX9_readDish_88 : decode cX9_readDish 88 = .ok (.getfield 12, 3) := by decide +kernel
theorem dX9_readDish_91 : decode cX9_readDish 91 = .ok (.getfield 116, 3) := by decide +kernel
theorem dX9_readDish_94 : decode cX9_readDish 94 = .ok (.aload_n 0, 1) := by decide +kernel
theorem dX9_readDish_95 : decode cX9_readDish 95 = .ok (.getfield 12, 3) := by decide +kernel
theorem dX9_readDish_98 : decode cX9_readDish 98 = .ok (.getfield 113, 3) := by decide +kernel
theorem dX9_readDish_101 : decode cX9_readDish 101 = .ok (.lload_n 2, 1) := by decide +kernel
theorem dX9_readDish_102 : decode cX9_readDish 102 = .ok (.lastore, 1) := by decide +kernel
theorem dX9_readDish_103 : decode cX9_readDish 103 = .ok (.aload_n 0, 1) := by decide +kernel
theorem dX9_readDish_104 : decode cX9_readDish 104 = .ok (.getfield 12, 3) := by decide +kernel
theorem dX9_readDish_107 : decode cX9_readDish 107 = .ok (.getfield 119, 3) := by decide +kernel
theorem dX9_readDish_110 : decode cX9_readDish 110 = .ok (.aload_n 0, 1) := by decide +kernel
theorem dX9_readDish_111 : decode cX9_readDish 111 = .ok (.getfield 12, 3) := by decide +kernel
theorem dX9_readDish_114 : decode cX9_readDish 114 = .ok (.getfield 113, 3) := by decide +kernel
theorem dX9_readDish_117 : decode cX9_readDish 117 = .ok (.iload 5, 2) := by decide +kernel
theorem dX9_readDish_119 : decode cX9_readDish 119 = .ok (.iastore, 1) := by decide +kernel
theorem dX9_readDish_120 : decode cX9_readDish 120 = .ok (.aload_n 0, 1) := by decide +kernel
theorem dX9_readDish_121 : decode cX9_readDish 121 = .ok (.getfield 23, 3) := by decide +kernel
theorem dX9_readDish_124 : decode cX9_readDish 124 = .ok (.getfield 122, 3) := by decide +kernel
theorem dX9_readDish_127 : decode cX9_readDish 127 = .ok (.aload_n 0, 1) := by decide +kernel
theorem dX9_readDish_128 : decode cX9_readDish 128 = .ok (.getfield 12, 3) := by decide +kernel
theorem dX9_readDish_131 : decode cX9_readDish 131 = .ok (.getfield 113, 3) := by decide +kernel
theorem dX9_readDish_134 : decode cX9_readDish 134 = .ok (.iload 4, 2) := by decide +kernel
theorem dX9_readDish_136 : decode cX9_readDish 136 = .ok (.iastore, 1) := by decide +kernel
theorem dX9_readDish_137 : decode cX9_readDish 137 = .ok (.aload_n 0, 1) := by decide +kernel
theorem dX9_readDish_138 : decode cX9_readDish 138 = .ok (.getfield 12, 3) := by decide +kernel
theorem dX9_readDish_141 : decode cX9_readDish 141 = .ok (.dup, 1) := by decide +kernel
theorem dX9_readDish_142 : decode cX9_readDish 142 = .ok (.getfield 113, 3) := by decide +kernel
theorem dX9_readDish_145 : decode cX9_readDish 145 = .ok (.iconst 1, 1) := by decide +kernel
theorem dX9_readDish_146 : decode cX9_readDish 146 = .ok (.iadd, 1) := by decide +kernel
theorem dX9_readDish_147 : decode cX9_readDish 147 = .ok (.putfield 113, 3) := by decide +kernel
theorem dX9_readDish_150 : decode cX9_readDish 150 = .ok (.aload_n 1, 1) := by decide +kernel
theorem dX9_readDish_151 : decode cX9_readDish 151 = .ok (.bipush 59, 2) := by decide +kernel
theorem dX9_readDish_153 : decode cX9_readDish 153 = .ok (.invokevirtual 110, 3) := by decide +kernel
theorem dX9_readDish_156 : decode cX9_readDish 156 = .ok (.ireturn, 1) := by decide +kernel
theorem dX9_readDogs_0 : decode cX9_readDogs 0 = .ok (.aload_n 0, 1) := by decide +kernel
theorem dX9_readDogs_1 : decode cX9_readDogs 1 = .ok (.getfield 31, 3) := by decide +kernel
theorem dX9_readDogs_4 : decode cX9_readDogs 4 = .ok (.ifCond .eq 9, 3) := by decide +kernel
theorem dX9_readDogs_7 : decode cX9_readDogs 7 = .ok (.aload_n 1, 1) := by decide +kernel
theorem dX9_readDogs_8 : decode cX9_readDogs 8 = .ok (.iconst 3, 1) := by decide +kernel
theorem dX9_readDogs_9 : decode cX9_readDogs 9 = .ok (.invokevirtual 67, 3) := by decide +kernel
theorem dX9_readDogs_12 : decode cX9_readDogs 12 = .ok (.ireturn, 1) := by decide +kernel
theorem dX9_readDogs_13 : decode cX9_readDogs 13 = .ok (.aload_n 0, 1) := by decide +kernel
theorem dX9_readDogs_14 : decode cX9_readDogs 14 = .ok (.iconst 1, 1) := by decide +kernel
theorem dX9_readDogs_15 : decode cX9_readDogs 15 = .ok (.putfield 31, 3) := by decide +kernel
theorem dX9_readDogs_18 : decode cX9_readDogs 18 = .ok (.aload_n 1, 1) := by decide +kernel
theorem dX9_readDogs_19 : decode cX9_readDogs 19 = .ok (.invokevirtual 82, 3) := by decide +kernel
theorem dX9_readDogs_22 : decode cX9_readDogs 22 = .ok (.aload_n 0, 1) := by decide +kernel
theorem dX9_readDogs_23 : decode cX9_readDogs 23 = .ok (.getfield 12, 3) := by decide +kernel
theorem dX9_readDogs_26 : decode cX9_readDogs 26 = .ok (.aload_n 1, 1) := by decide +kernel
theorem dX9_readDogs_27 : decode cX9_readDogs 27 = .ok (.iconst 0, 1) := by decide +kernel
theorem dX9_readDogs_28 : decode cX9_readDogs 28 = .ok (.bipush 9, 2) := by decide +kernel
theorem dX9_readDogs_30 : decode cX9_readDogs 30 = .ok (.invokevirtual 91, 3) := by decide +kernel
theorem dX9_readDogs_33 : decode cX9_readDogs 33 = .ok (.putfield 135, 3) := by decide +kernel
theorem dX9_readDogs_36 : decode cX9_readDogs 36 = .ok (.aload_n 0, 1) := by decide +kernel
theorem dX9_readDogs_37 : decode cX9_readDogs 37 = .ok (.getfield 12, 3) := by decide +kernel
theorem dX9_readDogs_40 : decode cX9_readDogs 40 = .ok (.getfield 135, 3) := by decide +kernel
theorem dX9_readDogs_43 : decode cX9_readDogs 43 = .ok (.iconst (-1), 1) := by decide +kernel
theorem dX9_readDogs_44 : decode cX9_readDogs 44 = .ok (.if_icmp .eq 16, 3) := by decide +kernel
theorem dX9_readDogs_47 : decode cX9_readDogs 47 = .ok (.aload_n 1, 1) := by decide +kernel
theorem dX9_readDogs_48 : decode cX9_readDogs 48 = .ok (.bipush 59, 2) := by decide +kernel
theorem dX9_readDogs_50 : decode cX9_readDogs 50 = .ok (.invokevirtual 110, 3) := by decide +kernel
theorem dX9_readDogs_53 : decode cX9_readDogs 53 = .ok (.ifCond .eq 7, 3) := by decide +kernel
theorem dX9_readDogs_56 : decode cX9_readDogs 56 = .ok (.iconst 1, 1) := by decide +kernel
theorem dX9_readDogs_57 : decode cX9_readDogs 57 = .ok (.goto 4, 3) := by decide +kernel
theorem dX9_readDogs_60 : decode cX9_readDogs 60 = .ok (.iconst 0, 1) := by decide +kernel
theorem dX9_readDogs_61 : decode cX9_readDogs 61 = .ok (.ireturn, 1) := by decide +kernel
theorem dX9_readLaw_0 : decode cX9_readLaw 0 = .ok (.aload_n 0, 1) := by decide +kernel
theorem dX9_readLaw_1 : decode cX9_readLaw 1 = .ok (.getfield 27, 3) := by decide +kernel
theorem dX9_readLaw_4 : decode cX9_readLaw 4 = .ok (.ifCond .eq 9, 3) := by decide +kernel
theorem dX9_readLaw_7 : decode cX9_readLaw 7 = .ok (.aload_n 1, 1) := by decide +kernel
theorem dX9_readLaw_8 : decode cX9_readLaw 8 = .ok (.iconst 3, 1) := by decide +kernel
theorem dX9_readLaw_9 : decode cX9_readLaw 9 = .ok (.invokevirtual 67, 3) := by decide +kernel
theorem dX9_readLaw_12 : decode cX9_readLaw 12 = .ok (.ireturn, 1) := by decide +kernel
theorem dX9_readLaw_13 : decode cX9_readLaw 13 = .ok (.aload_n 0, 1) := by decide +kernel
theorem dX9_readLaw_14 : decode cX9_readLaw 14 = .ok (.iconst 1, 1) := by decide +kernel
theorem dX9_readLaw_15 : decode cX9_readLaw 15 = .ok (.putfield 27, 3) := by decide +kernel
theorem dX9_readLaw_18 : decode cX9_readLaw 18 = .ok (.aload_n 1, 1) := by decide +kernel
theorem dX9_readLaw_19 : decode cX9_readLaw 19 = .ok (.invokevirtual 82, 3) := by decide +kernel
theorem dX9_readLaw_22 : decode cX9_readLaw 22 = .ok (.aload_n 1, 1) := by decide +kernel
theorem dX9_readLaw_23 : decode cX9_readLaw 23 = .ok (.getfield 44, 3) := by decide +kernel
theorem dX9_readLaw_26 : decode cX9_readLaw 26 = .ok (.bipush 7, 2) := by decide +kernel
theorem dX9_readLaw_28 : decode cX9_readLaw 28 = .ok (.if_icmp .ne 14, 3) := by decide +kernel
theorem dX9_readLaw_31 : decode cX9_readLaw 31 = .ok (.aload_n 0, 1) := by decide +kernel
theorem dX9_readLaw_32 : decode cX9_readLaw 32 = .ok (.getfield 12, 3) := by decide +kernel
theorem dX9_readLaw_35 : decode cX9_readLaw 35 = .ok (.iconst 0, 1) := by decide +kernel
theorem dX9_readLaw_36 : decode cX9_readLaw 36 = .ok (.putfield 132, 3) := by decide +kernel
theorem dX9_readLaw_39 : decode cX9_readLaw 39 = .ok (.goto 49, 3) := by decide +kernel
theorem dX9_readLaw_42 : decode cX9_readLaw 42 = .ok (.aload_n 1, 1) := by decide +kernel
theorem dX9_readLaw_43 : decode cX9_readLaw 43 = .ok (.getfield 44, 3) := by decide +kernel
theorem dX9_readLaw_46 : decode cX9_readLaw 46 = .ok (.bipush 8, 2) := by decide +kernel
theorem dX9_readLaw_48 : decode cX9_readLaw 48 = .ok (.if_icmp .ne 14, 3) := by decide +kernel
theorem dX9_readLaw_51 : decode cX9_readLaw 51 = .ok (.aload_n 0, 1) := by decide +kernel
theorem dX9_readLaw_52 : decode cX9_readLaw 52 = .ok (.getfield 12, 3) := by decide +kernel
theorem dX9_readLaw_55 : decode cX9_readLaw 55 = .ok (.iconst 1, 1) := by decide +kernel
theorem dX9_readLaw_56 : decode cX9_readLaw 56 = .ok (.putfield 132, 3) := by decide +kernel
theorem dX9_readLaw_59 : decode cX9_readLaw 59 = .ok (.goto 29, 3) := by decide +kernel
theorem dX9_readLaw_62 : decode cX9_readLaw 62 = .ok (.aload_n 1, 1) := by decide +kernel
theorem dX9_readLaw_63 : decode cX9_readLaw 63 = .ok (.getfield 44, 3) := by decide +kernel
theorem dX9_readLaw_66 : decode cX9_readLaw 66 = .ok (.bipush 9, 2) := by decide +kernel
theorem dX9_readLaw_68 : decode cX9_readLaw 68 = .ok (.if_icmp .ne 14, 3) := by decide +kernel
theorem dX9_readLaw_71 : decode cX9_readLaw 71 = .ok (.aload_n 0, 1) := by decide +kernel
theorem dX9_readLaw_72 : decode cX9_readLaw 72 = .ok (.getfield 12, 3) := by decide +kernel
theorem dX9_readLaw_75 : decode cX9_readLaw 75 = .ok (.iconst 2, 1) := by decide +kernel
theorem dX9_readLaw_76 : decode cX9_readLaw 76 = .ok (.putfield 132, 3) := by decide +kernel
theorem dX9_readLaw_79 : decode cX9_readLaw 79 = .ok (.goto 9, 3) := by decide +kernel
theorem dX9_readLaw_82 : decode cX9_readLaw 82 = .ok (.aload_n 1, 1) := by decide +kernel
theorem dX9_readLaw_83 : decode cX9_readLaw 83 = .ok (.iconst 1, 1) := by decide +kernel
theorem dX9_readLaw_84 : decode cX9_readLaw 84 = .ok (.invokevirtual 67, 3) := by decide +kernel
theorem dX9_readLaw_87 : decode cX9_readLaw 87 = .ok (.ireturn, 1) := by decide +kernel
theorem dX9_readLaw_88 : decode cX9_readLaw 88 = .ok (.aload_n 1, 1) := by decide +kernel
theorem dX9_readLaw_89 : decode cX9_readLaw 89 = .ok (.invokevirtual 82, 3) := by decide +kernel
theorem dX9_readLaw_92 : decode cX9_readLaw 92 = .ok (.aload_n 1, 1) := by decide +kernel
theorem dX9_readLaw_93 : decode cX9_readLaw 93 = .ok (.bipush 59, 2) := by decide +kernel
theorem dX9_readLaw_95 : decode cX9_readLaw 95 = .ok (.invokevirtual 110, 3) := by decide +kernel
theorem dX9_readLaw_98 : decode cX9_readLaw 98 = .ok (.ireturn, 1) := by decide +kernel
theorem rc_2 : Rg 2 2 2 := ⟨by decide, by decide⟩
theorem rc_3 : Rg 3 3 3 := ⟨by decide, by decide⟩
theorem rc_4 : Rg 4 4 4 := ⟨by decide, by decide⟩
theorem rc_6 : Rg 6 6 6 := ⟨by decide, by decide⟩
theorem rc_7 : Rg 7 7 7 := ⟨by decide, by decide⟩
theorem rc_8 : Rg 8 8 8 := ⟨by decide, by decide⟩
theorem rc_9 : Rg 9 9 9 := ⟨by decide, by decide⟩
theorem rc_10 : Rg 10 10 10 := ⟨by decide, by decide⟩
theorem rc_32 : Rg 32 32 32 := ⟨by decide, by decide⟩
theorem rc_42 : Rg 42 42 42 := ⟨by decide, by decide⟩
theorem rc_99 : Rg 99 99 99 := ⟨by decide, by decide⟩
theorem rc_101 : Rg 101 101 101 := ⟨by decide, by decide⟩
theorem rc_102 : Rg 102 102 102 := ⟨by decide, by decide⟩
theorem rc_103 : Rg 103 103 103 := ⟨by decide, by decide⟩
set_option maxRecDepth 100000 in
set_option maxHeartbeats 8000000 in
theorem c_X10_readToken {l : Launch} {D : va_G} {cy : Nat → ClassId} {L : List Nat} {κ ln : Nat → Nat} {R : Nat → Nat → Option Nat} {I : Nat → Nat → Int32} {J : Nat → Nat → Int64} {ow : Nat → Nat × Nat} (W9 : ∀ a ∈ L, Shp L κ ln R ow a) {x : Nat} (hLx : x ∈ L) (hkx : κ x = 10) (a0 : Int32) (ra0 : Rg 0 899 a0) (hU : Uv L κ ow I) : CtI l yX10_readToken cX10_readToken 8 (some .int) { frames := 1, cells := 0, slots := 0, locals := 24 } D cy L κ ln R I J [.ref x, .int a0] (fun r I2 J2 => Uv L κ ow I2 ∧ Fq L κ ow [1006, 70200, 70300] I I2 ∧ Fq L κ ow [70400] J J2 ∧ Rg 0 940 r) := by
  refine CtI.of (by decide +kernel) (Nat.le_of_ble_eq_true rfl) ?_
  intro p e s m below meth c B K
  have C := B.1
  have hF : Fq L κ ow [1006, 70200, 70300] I I := fq_rf
  have hG : Fq L κ ow [70400] J J := fq_rf
  obtain ⟨b_401330, hb_401330, hb_401330L, hb_401330k, hb_401330n, hb_401330o⟩ := shp_a (W9 x hLx) hkx 0 13 940 rfl (by decide)
  refine g_lo (is := [0, 1]) (lo2 := [(0, .ref x), (1, .int a0)]) rfl ?_
  have j_205 : ∀ (I_401331 : Nat → Nat → Int32) (J_401332 : Nat → Nat → Int64) (hU_401333 : Uv L κ ow I_401331) (hF_401334 : Fq L κ ow [1006, 70200, 70300] I I_401331) (hG_401335 : Fq L κ ow [70400] J J_401332) (v_401336 : Int32) (rv_401336 : Rg 0 899 v_401336) (v_401337 : Int32) (v_401338 : Int32) (y_401339 : Int64) (v_401340 : Int32) (v_401341 : Int32) (rv_401341 : Rg 0 940 v_401341) (v_401342 : Int32) (rv_401342 : Rg 0 940 v_401342) (q_401343 : I_401331 x 5 = v_401342), WG p l e { frames := 1, cells := 0, slots := 0, locals := 24 } s m ([.ref x, .int a0] : List Value).toArray below meth c 8 0 0 (MQ below (Qi_ D cy L κ ln R (fun r I2 J2 => Uv L κ ow I2 ∧ Fq L κ ow [1006, 70200, 70300] I I2 ∧ Fq L κ ow [70400] J J2 ∧ Rg 0 940 r)) ([.ref x, .int a0] : List Value).toArray s 0 0 (Al_ L)) D cy (Al_ L) s.heap L κ ln R I_401331 J_401332 205 [(0, .ref x), (1, .int v_401336), (2, .int v_401337), (3, .int v_401338), (4, .long y_401339), (6, .int v_401340), (7, .int v_401341)] [] := by
    intro I_401331 J_401332 hU_401333 hF_401334 hG_401335 v_401336 rv_401336 v_401337 v_401338 y_401339 v_401340 v_401341 rv_401341 v_401342 rv_401342 q_401343
    refine g_aload_n C 0 dX10_readToken_205 rfl rfl ?_
    refine g_bipush C (v := 103) dX10_readToken_206 (by decide) ?_
    refine g_iload_n C 1 dX10_readToken_208 rfl rfl ?_
    refine g_lconst C (v := 0) dX10_readToken_209 (by decide) ?_
    refine g_callVV C K (c_X10_addToken W9 hLx hkx 103 v_401336 0 (rg_w rc_103 (by decide) (by decide)) (rg_w rv_401336 (by decide) (by decide)) hU_401333) hLx hkx (by decide) rfl v_10_80 rfl ⟨rfl, rfl⟩ ⟨Nat.le_of_ble_eq_true rfl, Nat.le_of_ble_eq_true rfl⟩ (Nat.le_of_ble_eq_true rfl) ⟨Nat.le_of_ble_eq_true rfl, Nat.le_of_ble_eq_true rfl⟩ dX10_readToken_210 rfl (st := []) (fun I_401345 J_401346 h_401347 => ?_)
    obtain ⟨hUI_401345, hFI_401345, hGJ_401346⟩ := h_401347
    have hF_401348 := fq_tr hF_401334 hFI_401345 (by decide)
    have hG_401349 := fq_tr hG_401335 hGJ_401346 (by decide)
    refine g_iload C 6 dX10_readToken_213 rfl ?_
    exact g_zret (ty := .int) (r := v_401341) B K rfl (rfl) ⟨hUI_401345, hF_401348, hG_401349, rv_401341⟩ dX10_readToken_215
  have j_183 : ∀ (I_401350 : Nat → Nat → Int32) (J_401351 : Nat → Nat → Int64) (hU_401352 : Uv L κ ow I_401350) (hF_401353 : Fq L κ ow [1006, 70200, 70300] I I_401350) (hG_401354 : Fq L κ ow [70400] J J_401351) (v_401355 : Int32) (rv_401355 : Rg 0 899 v_401355) (v_401356 : Int32) (v_401357 : Int32) (y_401358 : Int64) (v_401359 : Int32) (v_401360 : Int32) (rv_401360 : Rg 0 940 v_401360) (v_401361 : Int32) (rv_401361 : Rg 0 940 v_401361) (q_401362 : I_401350 x 5 = v_401361), WG p l e { frames := 1, cells := 0, slots := 0, locals := 24 } s m ([.ref x, .int a0] : List Value).toArray below meth c 8 0 0 (MQ below (Qi_ D cy L κ ln R (fun r I2 J2 => Uv L κ ow I2 ∧ Fq L κ ow [1006, 70200, 70300] I I2 ∧ Fq L κ ow [70400] J J2 ∧ Rg 0 940 r)) ([.ref x, .int a0] : List Value).toArray s 0 0 (Al_ L)) D cy (Al_ L) s.heap L κ ln R I_401350 J_401351 183 [(0, .ref x), (1, .int v_401355), (2, .int v_401356), (3, .int v_401357), (4, .long y_401358), (6, .int v_401359), (7, .int v_401360)] [] := by
    intro I_401350 J_401351 hU_401352 hF_401353 hG_401354 v_401355 rv_401355 v_401356 v_401357 y_401358 v_401359 v_401360 rv_401360 v_401361 rv_401361 q_401362
    refine g_iload_n C 2 dX10_readToken_183 rfl rfl ?_
    refine g_if_ne C (tgt := 205) dX10_readToken_184 (by decide) (fun h_401363 => ?_) (fun h_401363 => ?_)
    · skip
      have n_401364 : ¬ v_401356 = 0 := h_401363
      refine g_lo (is := [0, 1, 2, 3, 4, 5, 6]) (lo2 := [(0, .ref x), (1, .int v_401355), (2, .int v_401356), (3, .int v_401357), (4, .long y_401358), (6, .int v_401359), (7, .int v_401360)]) rfl ?_
      exact j_205 I_401350 J_401351 hU_401352 hF_401353 hG_401354 v_401355 (rv_401355) v_401356 v_401357 y_401358 v_401359 v_401360 (rv_401360) v_401361 (rv_401361) q_401362
    · skip
      have r_401365 := (⟨(eq_rg (h_401363) rc_0).1, (eq_rg (h_401363) rc_0).2⟩ : Rg 0 0 v_401356)
      refine g_iload_n C 3 dX10_readToken_187 rfl rfl ?_
      refine g_iconst C (v := 3) dX10_readToken_188 (by decide) ?_
      refine g_icmp_gt C (tgt := 205) dX10_readToken_189 (by decide) (fun h_401366 => ?_) (fun h_401366 => ?_)
      · skip
        have r_401367 := lt_r (lo := 4) (h_401366) rc_3 (rg_all v_401357) (by decide)
        refine g_lo (is := [0, 1, 2, 3, 4, 5, 6]) (lo2 := [(0, .ref x), (1, .int v_401355), (2, .int v_401356), (3, .int v_401357), (4, .long y_401358), (6, .int v_401359), (7, .int v_401360)]) rfl ?_
        exact j_205 I_401350 J_401351 hU_401352 hF_401353 hG_401354 v_401355 (rv_401355) v_401356 v_401357 y_401358 v_401359 v_401360 (rv_401360) v_401361 (rv_401361) q_401362
      · skip
        have r_401368 := le_l (nlt h_401366) (rg_all v_401357) rc_3
        refine g_aload_n C 0 dX10_readToken_192 rfl rfl ?_
        refine g_bipush C (v := 101) dX10_readToken_193 (by decide) ?_
        refine g_iload_n C 1 dX10_readToken_195 rfl rfl ?_
        refine g_iload C 5 dX10_readToken_196 rfl ?_
        obtain ⟨y_401369, hy_401369⟩ : ∃ z, Int32.toInt64 v_401359 = z := ⟨_, rfl⟩
        refine g_i2l C (v := y_401369) dX10_readToken_198 hy_401369 ?_
        refine g_callVV C K (c_X10_addToken W9 hLx hkx 101 v_401355 y_401369 (rg_w rc_101 (by decide) (by decide)) (rg_w rv_401355 (by decide) (by decide)) hU_401352) hLx hkx (by decide) rfl v_10_80 rfl ⟨rfl, rfl⟩ ⟨Nat.le_of_ble_eq_true rfl, Nat.le_of_ble_eq_true rfl⟩ (Nat.le_of_ble_eq_true rfl) ⟨Nat.le_of_ble_eq_true rfl, Nat.le_of_ble_eq_true rfl⟩ dX10_readToken_199 rfl (st := []) (fun I_401371 J_401372 h_401373 => ?_)
        obtain ⟨hUI_401371, hFI_401371, hGJ_401372⟩ := h_401373
        have hF_401374 := fq_tr hF_401353 hFI_401371 (by decide)
        have hG_401375 := fq_tr hG_401354 hGJ_401372 (by decide)
        refine g_goto C (tgt := 213) dX10_readToken_202 (by decide) ?_
        refine g_iload C 6 dX10_readToken_213 rfl ?_
        exact g_zret (ty := .int) (r := v_401360) B K rfl (rfl) ⟨hUI_401371, hF_401374, hG_401375, rv_401360⟩ dX10_readToken_215
  have j_118 : ∀ (I_401376 : Nat → Nat → Int32) (J_401377 : Nat → Nat → Int64) (hU_401378 : Uv L κ ow I_401376) (hF_401379 : Fq L κ ow [1006, 70200, 70300] I I_401376) (hG_401380 : Fq L κ ow [70400] J J_401377) (v_401381 : Int32) (rv_401381 : Rg 0 899 v_401381) (v_401382 : Int32) (v_401383 : Int32) (y_401384 : Int64) (v_401385 : Int32) (v_401386 : Int32) (rv_401386 : Rg 0 940 v_401386) (v_401387 : Int32) (rv_401387 : Rg 0 940 v_401387) (q_401388 : I_401376 x 5 = v_401387), WG p l e { frames := 1, cells := 0, slots := 0, locals := 24 } s m ([.ref x, .int a0] : List Value).toArray below meth c 8 0 0 (MQ below (Qi_ D cy L κ ln R (fun r I2 J2 => Uv L κ ow I2 ∧ Fq L κ ow [1006, 70200, 70300] I I2 ∧ Fq L κ ow [70400] J J2 ∧ Rg 0 940 r)) ([.ref x, .int a0] : List Value).toArray s 0 0 (Al_ L)) D cy (Al_ L) s.heap L κ ln R I_401376 J_401377 118 [(0, .ref x), (1, .int v_401381), (2, .int v_401382), (3, .int v_401383), (4, .long y_401384), (6, .int v_401385), (7, .int v_401386)] [] := by
    intro I_401376 J_401377 hU_401378 hF_401379 hG_401380 v_401381 rv_401381 v_401382 v_401383 y_401384 v_401385 v_401386 rv_401386 v_401387 rv_401387 q_401388
    refine g_iload C 6 dX10_readToken_118 rfl ?_
    refine g_iload_n C 1 dX10_readToken_120 rfl rfl ?_
    refine g_icmp_ne C (tgt := 157) dX10_readToken_121 (by decide) (fun h_401389 => ?_) (fun h_401389 => ?_)
    · skip
      refine g_iload_n C 3 dX10_readToken_157 rfl rfl ?_
      refine g_if_ne C (tgt := 183) dX10_readToken_158 (by decide) (fun h_401390 => ?_) (fun h_401390 => ?_)
      · skip
        have n_401391 : ¬ v_401383 = 0 := h_401390
        refine g_lo (is := [0, 1, 2, 3, 4, 5, 6]) (lo2 := [(0, .ref x), (1, .int v_401381), (2, .int v_401382), (3, .int v_401383), (4, .long y_401384), (6, .int v_401385), (7, .int v_401386)]) rfl ?_
        exact j_183 I_401376 J_401377 hU_401378 hF_401379 hG_401380 v_401381 (rv_401381) v_401382 v_401383 y_401384 v_401385 v_401386 (rv_401386) v_401387 (rv_401387) q_401388
      · skip
        have r_401392 := (⟨(eq_rg (h_401390) rc_0).1, (eq_rg (h_401390) rc_0).2⟩ : Rg 0 0 v_401383)
        refine g_iload_n C 2 dX10_readToken_161 rfl rfl ?_
        refine g_bipush C (v := 7) dX10_readToken_162 (by decide) ?_
        refine g_icmp_gt C (tgt := 183) dX10_readToken_164 (by decide) (fun h_401393 => ?_) (fun h_401393 => ?_)
        · skip
          have r_401394 := lt_r (lo := 8) (h_401393) rc_7 (rg_all v_401382) (by decide)
          refine g_lo (is := [0, 1, 2, 3, 4, 5, 6]) (lo2 := [(0, .ref x), (1, .int v_401381), (2, .int v_401382), (3, .int v_401383), (4, .long y_401384), (6, .int v_401385), (7, .int v_401386)]) rfl ?_
          exact j_183 I_401376 J_401377 hU_401378 hF_401379 hG_401380 v_401381 (rv_401381) v_401382 v_401383 y_401384 v_401385 v_401386 (rv_401386) v_401387 (rv_401387) q_401388
        · skip
          have r_401395 := le_l (nlt h_401393) (rg_all v_401382) rc_7
          refine g_aload_n C 0 dX10_readToken_167 rfl rfl ?_
          refine g_aload_n C 0 dX10_readToken_168 rfl rfl ?_
          refine g_lload C 4 dX10_readToken_169 rfl ?_
          refine g_callVI C K (c_X10_tokenOfWord W9 hLx hkx y_401384  hU_401378) hLx hkx (by decide) rfl v_10_97 rfl ⟨rfl, rfl⟩ ⟨Nat.le_of_ble_eq_true rfl, Nat.le_of_ble_eq_true rfl⟩ (Nat.le_of_ble_eq_true rfl) ⟨Nat.le_of_ble_eq_true rfl, Nat.le_of_ble_eq_true rfl⟩ dX10_readToken_171 rfl (st := [.ref x]) (fun x_401396 I_401397 J_401398 h_401399 => ?_)
          obtain ⟨rfl, rfl, rx_401396⟩ := h_401399
          refine g_iload_n C 1 dX10_readToken_174 rfl rfl ?_
          refine g_lload C 4 dX10_readToken_175 rfl ?_
          refine g_callVV C K (c_X10_addToken W9 hLx hkx x_401396 v_401381 y_401384 (rg_w rx_401396 (by decide) (by decide)) (rg_w rv_401381 (by decide) (by decide)) hU_401378) hLx hkx (by decide) rfl v_10_80 rfl ⟨rfl, rfl⟩ ⟨Nat.le_of_ble_eq_true rfl, Nat.le_of_ble_eq_true rfl⟩ (Nat.le_of_ble_eq_true rfl) ⟨Nat.le_of_ble_eq_true rfl, Nat.le_of_ble_eq_true rfl⟩ dX10_readToken_177 rfl (st := []) (fun I_401401 J_401402 h_401403 => ?_)
          obtain ⟨hUI_401401, hFI_401401, hGJ_401402⟩ := h_401403
          have hF_401404 := fq_tr hF_401379 hFI_401401 (by decide)
          have hG_401405 := fq_tr hG_401380 hGJ_401402 (by decide)
          refine g_goto C (tgt := 213) dX10_readToken_180 (by decide) ?_
          refine g_iload C 6 dX10_readToken_213 rfl ?_
          exact g_zret (ty := .int) (r := v_401386) B K rfl (rfl) ⟨hUI_401401, hF_401404, hG_401405, rv_401386⟩ dX10_readToken_215
    · skip
      have r_401406 := (⟨(rv_401386).1, (eq_rg (h_401389) rv_401381).2⟩ : Rg 0 899 v_401386)
      refine g_aload_n C 0 dX10_readToken_124 rfl rfl ?_
      refine g_aload_n C 0 dX10_readToken_125 rfl rfl ?_
      refine g_getR C K hLx hkx f_10_9 hb_401330 dX10_readToken_126 ?_
      refine g_iload_n C 1 dX10_readToken_129 rfl rfl ?_
      obtain ⟨x_401407, hx_401407, rx_401407⟩ := ex_get (I := I_401376) (a := b_401330) (j := v_401381.toNatClampNeg) (lo := (-128)) (hi := 127) hU_401378 hb_401330L (ro_a hb_401330k (by decide) hb_401330o hkx rfl) (rfl)
      refine h_bald C K hb_401330L hb_401330k (v := x_401407) (v_401381.toNatClampNeg) (rfl) (ix_0 rv_401381 (by decide)) (ix_lt rv_401381 (by decide) hb_401330n (by decide)) hx_401407 dX10_readToken_130 ?_
      refine g_callSI C K (c_X10_isSign W9 x_401407 (rx_401407) hU_401378) s_10_94 rfl ⟨rfl, rfl⟩ ⟨Nat.le_of_ble_eq_true rfl, Nat.le_of_ble_eq_true rfl⟩ (Nat.le_of_ble_eq_true rfl) ⟨Nat.le_of_ble_eq_true rfl, Nat.le_of_ble_eq_true rfl⟩ dX10_readToken_131 rfl (st := [.ref x]) (fun x_401408 I_401409 J_401410 h_401411 => ?_)
      obtain ⟨rfl, rfl, rx_401408⟩ := h_401411
      refine g_if_eq C (tgt := 146) dX10_readToken_134 (by decide) (fun h_401412 => ?_) (fun h_401412 => ?_)
      · skip
        have r_401413 := (⟨(rx_401408).1, (eq_rg (h_401412) rc_0).2⟩ : Rg 0 0 x_401408)
        refine g_bipush C (v := 103) dX10_readToken_146 (by decide) ?_
        refine g_iload_n C 1 dX10_readToken_148 rfl rfl ?_
        refine g_lconst C (v := 0) dX10_readToken_149 (by decide) ?_
        refine g_callVV C K (c_X10_addToken W9 hLx hkx 103 v_401381 0 (rg_w rc_103 (by decide) (by decide)) (rg_w rv_401381 (by decide) (by decide)) hU_401378) hLx hkx (by decide) rfl v_10_80 rfl ⟨rfl, rfl⟩ ⟨Nat.le_of_ble_eq_true rfl, Nat.le_of_ble_eq_true rfl⟩ (Nat.le_of_ble_eq_true rfl) ⟨Nat.le_of_ble_eq_true rfl, Nat.le_of_ble_eq_true rfl⟩ dX10_readToken_150 rfl (st := []) (fun I_401415 J_401416 h_401417 => ?_)
        obtain ⟨hUI_401415, hFI_401415, hGJ_401416⟩ := h_401417
        have hF_401418 := fq_tr hF_401379 hFI_401415 (by decide)
        have hG_401419 := fq_tr hG_401380 hGJ_401416 (by decide)
        refine g_iload_n C 1 dX10_readToken_153 rfl rfl ?_
        refine g_iconst C (v := 1) dX10_readToken_154 (by decide) ?_
        obtain ⟨x_401420, hx_401420, rx_401420, tx_401420⟩ := ex_add 1 900 rv_401381 rc_1 (by decide) (by decide) (by decide) (by decide)
        refine g_iadd C (v := x_401420) dX10_readToken_155 hx_401420 ?_
        exact g_zret (ty := .int) (r := x_401420) B K rfl (rfl) ⟨hUI_401415, hF_401418, hG_401419, rg_w rx_401420 (by decide) (by decide)⟩ dX10_readToken_156
      · skip
        have n_401421 : ¬ x_401408 = 0 := h_401412
        have r_401422 := ne_lo (lo := 1) n_401421 rx_401408 rc_0 rfl (by decide)
        refine g_aload_n C 0 dX10_readToken_137 rfl rfl ?_
        refine g_getR C K hLx hkx f_10_9 hb_401330 dX10_readToken_138 ?_
        refine g_iload_n C 1 dX10_readToken_141 rfl rfl ?_
        obtain ⟨x_401423, hx_401423, rx_401423⟩ := ex_get (I := I_401376) (a := b_401330) (j := v_401381.toNatClampNeg) (lo := (-128)) (hi := 127) hU_401378 hb_401330L (ro_a hb_401330k (by decide) hb_401330o hkx rfl) (rfl)
        refine h_bald C K hb_401330L hb_401330k (v := x_401423) (v_401381.toNatClampNeg) (rfl) (ix_0 rv_401381 (by decide)) (ix_lt rv_401381 (by decide) hb_401330n (by decide)) hx_401423 dX10_readToken_142 ?_
        refine g_goto C (tgt := 148) dX10_readToken_143 (by decide) ?_
        refine g_iload_n C 1 dX10_readToken_148 rfl rfl ?_
        refine g_lconst C (v := 0) dX10_readToken_149 (by decide) ?_
        refine g_callVV C K (c_X10_addToken W9 hLx hkx x_401423 v_401381 0 (rx_401423) (rg_w rv_401381 (by decide) (by decide)) hU_401378) hLx hkx (by decide) rfl v_10_80 rfl ⟨rfl, rfl⟩ ⟨Nat.le_of_ble_eq_true rfl, Nat.le_of_ble_eq_true rfl⟩ (Nat.le_of_ble_eq_true rfl) ⟨Nat.le_of_ble_eq_true rfl, Nat.le_of_ble_eq_true rfl⟩ dX10_readToken_150 rfl (st := []) (fun I_401425 J_401426 h_401427 => ?_)
        obtain ⟨hUI_401425, hFI_401425, hGJ_401426⟩ := h_401427
        have hF_401428 := fq_tr hF_401379 hFI_401425 (by decide)
        have hG_401429 := fq_tr hG_401380 hGJ_401426 (by decide)
        refine g_iload_n C 1 dX10_readToken_153 rfl rfl ?_
        refine g_iconst C (v := 1) dX10_readToken_154 (by decide) ?_
        obtain ⟨x_401430, hx_401430, rx_401430, tx_401430⟩ := ex_add 1 900 rv_401381 rc_1 (by decide) (by decide) (by decide) (by decide)
        refine g_iadd C (v := x_401430) dX10_readToken_155 hx_401430 ?_
        exact g_zret (ty := .int) (r := x_401430) B K rfl (rfl) ⟨hUI_401425, hF_401428, hG_401429, rg_w rx_401430 (by decide) (by decide)⟩ dX10_readToken_156
  have l_13 : ∀ (n_13 : Nat) (I_401431 : Nat → Nat → Int32) (J_401432 : Nat → Nat → Int64) (hU_401433 : Uv L κ ow I_401431) (hF_401434 : Fq L κ ow [1006, 70200, 70300] I I_401431) (hG_401435 : Fq L κ ow [70400] J J_401432) (v_401436 : Int32) (rv_401436 : Rg 0 899 v_401436) (v_401437 : Int32) (v_401438 : Int32) (y_401439 : Int64) (v_401440 : Int32) (v_401441 : Int32) (rv_401441 : Rg 0 940 v_401441) (hm_401442 : 940 < (v_401441 : Int32).toInt + (n_13 : Int)), WG p l e { frames := 1, cells := 0, slots := 0, locals := 24 } s m ([.ref x, .int a0] : List Value).toArray below meth c 8 0 0 (MQ below (Qi_ D cy L κ ln R (fun r I2 J2 => Uv L κ ow I2 ∧ Fq L κ ow [1006, 70200, 70300] I I2 ∧ Fq L κ ow [70400] J J2 ∧ Rg 0 940 r)) ([.ref x, .int a0] : List Value).toArray s 0 0 (Al_ L)) D cy (Al_ L) s.heap L κ ln R I_401431 J_401432 13 [(0, .ref x), (1, .int v_401436), (2, .int v_401437), (3, .int v_401438), (4, .long y_401439), (6, .int v_401440), (7, .int v_401441)] [] := by
    intro n_13
    induction n_13 with
    | zero =>
      intro I_401431 J_401432 hU_401433 hF_401434 hG_401435 v_401436 rv_401436 v_401437 v_401438 y_401439 v_401440 v_401441 rv_401441 hm_401442
      exact ms_0 rv_401441 hm_401442
    | succ n_13 ih_13 =>
      intro I_401431 J_401432 hU_401433 hF_401434 hG_401435 v_401436 rv_401436 v_401437 v_401438 y_401439 v_401440 v_401441 rv_401441 hm_401442
      have j_112 : ∀ (I_401443 : Nat → Nat → Int32) (J_401444 : Nat → Nat → Int64) (hU_401445 : Uv L κ ow I_401443) (hF_401446 : Fq L κ ow [1006, 70200, 70300] I I_401443) (hG_401447 : Fq L κ ow [70400] J J_401444) (v_401448 : Int32) (rv_401448 : Rg 0 899 v_401448) (v_401449 : Int32) (v_401450 : Int32) (y_401451 : Int64) (v_401452 : Int32) (v_401453 : Int32) (rv_401453 : Rg 0 939 v_401453) (v_401454 : Int32) (rv_401454 : Rg 1 940 v_401454) (q_401455 : I_401443 x 5 = v_401454) (hm_401456 : 940 < (v_401453 : Int32).toInt + ((n_13 + 1 : Nat) : Int)), WG p l e { frames := 1, cells := 0, slots := 0, locals := 24 } s m ([.ref x, .int a0] : List Value).toArray below meth c 8 0 0 (MQ below (Qi_ D cy L κ ln R (fun r I2 J2 => Uv L κ ow I2 ∧ Fq L κ ow [1006, 70200, 70300] I I2 ∧ Fq L κ ow [70400] J J2 ∧ Rg 0 940 r)) ([.ref x, .int a0] : List Value).toArray s 0 0 (Al_ L)) D cy (Al_ L) s.heap L κ ln R I_401443 J_401444 112 [(0, .ref x), (1, .int v_401448), (2, .int v_401449), (3, .int v_401450), (4, .long y_401451), (6, .int v_401452), (7, .int v_401453)] [] := by
        intro I_401443 J_401444 hU_401445 hF_401446 hG_401447 v_401448 rv_401448 v_401449 v_401450 y_401451 v_401452 v_401453 rv_401453 v_401454 rv_401454 q_401455 hm_401456
        obtain ⟨x_401457, hx_401457, rx_401457, tx_401457⟩ := ex_add (y := 1) 1 940 rv_401453 rc_1 (by decide) (by decide) (by decide) (by decide)
        refine g_iinc C dX10_readToken_112 (k := 6) (v := x_401457) rfl hx_401457 (by decide) (lo2 := [(7, .int x_401457), (0, .ref x), (1, .int v_401448), (2, .int v_401449), (3, .int v_401450), (4, .long y_401451), (6, .int v_401452)]) rfl ?_
        refine g_goto C (tgt := 13) dX10_readToken_115 (by decide) ?_
        refine g_lo (is := [1, 2, 3, 4, 5, 6, 0]) (lo2 := [(0, .ref x), (1, .int v_401448), (2, .int v_401449), (3, .int v_401450), (4, .long y_401451), (6, .int v_401452), (7, .int x_401457)]) rfl ?_
        exact ih_13 I_401443 J_401444 hU_401445 hF_401446 hG_401447 v_401448 (rv_401448) v_401449 v_401450 y_401451 v_401452 x_401457 (rg_w rx_401457 (by decide) (by decide)) (ms_1 hm_401456 (ti_k tx_401457 rc_1) (by decide))
      have j_58 : ∀ (I_401458 : Nat → Nat → Int32) (J_401459 : Nat → Nat → Int64) (hU_401460 : Uv L κ ow I_401458) (hF_401461 : Fq L κ ow [1006, 70200, 70300] I I_401458) (hG_401462 : Fq L κ ow [70400] J J_401459) (v_401463 : Int32) (rv_401463 : Rg 0 899 v_401463) (v_401464 : Int32) (v_401465 : Int32) (y_401466 : Int64) (v_401467 : Int32) (v_401468 : Int32) (rv_401468 : Rg 0 939 v_401468) (v_401469 : Int32) (rv_401469 : Rg 1 940 v_401469) (q_401470 : I_401458 x 5 = v_401469) (hm_401471 : 940 < (v_401468 : Int32).toInt + ((n_13 + 1 : Nat) : Int)), WG p l e { frames := 1, cells := 0, slots := 0, locals := 24 } s m ([.ref x, .int a0] : List Value).toArray below meth c 8 0 0 (MQ below (Qi_ D cy L κ ln R (fun r I2 J2 => Uv L κ ow I2 ∧ Fq L κ ow [1006, 70200, 70300] I I2 ∧ Fq L κ ow [70400] J J2 ∧ Rg 0 940 r)) ([.ref x, .int a0] : List Value).toArray s 0 0 (Al_ L)) D cy (Al_ L) s.heap L κ ln R I_401458 J_401459 58 [(0, .ref x), (1, .int v_401463), (2, .int v_401464), (3, .int v_401465), (4, .long y_401466), (6, .int v_401467), (7, .int v_401468)] [] := by
        intro I_401458 J_401459 hU_401460 hF_401461 hG_401462 v_401463 rv_401463 v_401464 v_401465 y_401466 v_401467 v_401468 rv_401468 v_401469 rv_401469 q_401470 hm_401471
        refine g_aload_n C 0 dX10_readToken_58 rfl rfl ?_
        refine g_getR C K hLx hkx f_10_9 hb_401330 dX10_readToken_59 ?_
        refine g_iload C 6 dX10_readToken_62 rfl ?_
        obtain ⟨x_401472, hx_401472, rx_401472⟩ := ex_get (I := I_401458) (a := b_401330) (j := v_401468.toNatClampNeg) (lo := (-128)) (hi := 127) hU_401460 hb_401330L (ro_a hb_401330k (by decide) hb_401330o hkx rfl) (rfl)
        refine h_bald C K hb_401330L hb_401330k (v := x_401472) (v_401468.toNatClampNeg) (rfl) (ix_0 rv_401468 (by decide)) (ix_lt rv_401468 (by decide) hb_401330n (by decide)) hx_401472 dX10_readToken_64 ?_
        refine g_callSI C K (c_X10_isLetter W9 x_401472 (rx_401472) hU_401460) s_10_87 rfl ⟨rfl, rfl⟩ ⟨Nat.le_of_ble_eq_true rfl, Nat.le_of_ble_eq_true rfl⟩ (Nat.le_of_ble_eq_true rfl) ⟨Nat.le_of_ble_eq_true rfl, Nat.le_of_ble_eq_true rfl⟩ dX10_readToken_65 rfl (st := []) (fun x_401473 I_401474 J_401475 h_401476 => ?_)
        obtain ⟨rfl, rfl, rx_401473⟩ := h_401476
        refine g_if_eq C (tgt := 91) dX10_readToken_68 (by decide) (fun h_401477 => ?_) (fun h_401477 => ?_)
        · skip
          have r_401478 := (⟨(rx_401473).1, (eq_rg (h_401477) rc_0).2⟩ : Rg 0 0 x_401473)
          refine g_iload C 5 dX10_readToken_91 rfl ?_
          refine g_bipush C (v := 10) dX10_readToken_93 (by decide) ?_
          obtain ⟨x_401479, hx_401479, rx_401479⟩ := ex_any (z0 := v_401467 * 10)
          refine g_imul C (v := x_401479) dX10_readToken_95 hx_401479 ?_
          refine g_aload_n C 0 dX10_readToken_96 rfl rfl ?_
          refine g_getR C K hLx hkx f_10_9 hb_401330 dX10_readToken_97 ?_
          refine g_iload C 6 dX10_readToken_100 rfl ?_
          obtain ⟨x_401480, hx_401480, rx_401480⟩ := ex_get (I := I_401458) (a := b_401330) (j := v_401468.toNatClampNeg) (lo := (-128)) (hi := 127) hU_401460 hb_401330L (ro_a hb_401330k (by decide) hb_401330o hkx rfl) (rfl)
          refine h_bald C K hb_401330L hb_401330k (v := x_401480) (v_401468.toNatClampNeg) (rfl) (ix_0 rv_401468 (by decide)) (ix_lt rv_401468 (by decide) hb_401330n (by decide)) hx_401480 dX10_readToken_102 ?_
          obtain ⟨x_401481, hx_401481, rx_401481⟩ := ex_any (z0 := x_401479 + x_401480)
          refine g_iadd C (v := x_401481) dX10_readToken_103 hx_401481 ?_
          refine g_bipush C (v := 48) dX10_readToken_104 (by decide) ?_
          obtain ⟨x_401482, hx_401482, rx_401482⟩ := ex_any (z0 := x_401481 - 48)
          refine g_isub C (v := x_401482) dX10_readToken_106 hx_401482 ?_
          refine g_istore C dX10_readToken_107 (by decide) (lo2 := [(6, .int x_401482), (0, .ref x), (1, .int v_401463), (2, .int v_401464), (3, .int v_401465), (4, .long y_401466), (7, .int v_401468)]) rfl ?_
          obtain ⟨x_401483, hx_401483, rx_401483⟩ := ex_any (z0 := v_401465 + 1)
          refine g_iinc C dX10_readToken_109 (k := 4) (v := x_401483) rfl hx_401483 (by decide) (lo2 := [(3, .int x_401483), (6, .int x_401482), (0, .ref x), (1, .int v_401463), (2, .int v_401464), (4, .long y_401466), (7, .int v_401468)]) rfl ?_
          refine g_lo (is := [2, 3, 4, 0, 5, 1, 6]) (lo2 := [(0, .ref x), (1, .int v_401463), (2, .int v_401464), (3, .int x_401483), (4, .long y_401466), (6, .int x_401482), (7, .int v_401468)]) rfl ?_
          exact j_112 I_401458 J_401459 hU_401460 hF_401461 hG_401462 v_401463 (rv_401463) v_401464 x_401483 y_401466 x_401482 v_401468 (rv_401468) v_401469 (rv_401469) q_401470 hm_401471
        · skip
          have n_401484 : ¬ x_401473 = 0 := h_401477
          have r_401485 := ne_lo (lo := 1) n_401484 rx_401473 rc_0 rfl (by decide)
          refine g_lload C 4 dX10_readToken_71 rfl ?_
          refine g_aload_n C 0 dX10_readToken_73 rfl rfl ?_
          refine g_getR C K hLx hkx f_10_9 hb_401330 dX10_readToken_74 ?_
          refine g_iload C 6 dX10_readToken_77 rfl ?_
          obtain ⟨x_401486, hx_401486, rx_401486⟩ := ex_get (I := I_401458) (a := b_401330) (j := v_401468.toNatClampNeg) (lo := (-128)) (hi := 127) hU_401460 hb_401330L (ro_a hb_401330k (by decide) hb_401330o hkx rfl) (rfl)
          refine h_bald C K hb_401330L hb_401330k (v := x_401486) (v_401468.toNatClampNeg) (rfl) (ix_0 rv_401468 (by decide)) (ix_lt rv_401468 (by decide) hb_401330n (by decide)) hx_401486 dX10_readToken_79 ?_
          refine g_callSL C K (c_X10_withLetter W9 y_401466 x_401486 (rx_401486) hU_401460) s_10_66 rfl ⟨rfl, rfl⟩ ⟨Nat.le_of_ble_eq_true rfl, Nat.le_of_ble_eq_true rfl⟩ (Nat.le_of_ble_eq_true rfl) ⟨Nat.le_of_ble_eq_true rfl, Nat.le_of_ble_eq_true rfl⟩ dX10_readToken_80 rfl (st := []) (fun x_401487 I_401488 J_401489 h_401490 => ?_)
          obtain ⟨rfl, rfl⟩ := h_401490
          refine g_lstore C dX10_readToken_83 (by decide) (lo2 := [(4, .long x_401487), (0, .ref x), (1, .int v_401463), (2, .int v_401464), (3, .int v_401465), (6, .int v_401467), (7, .int v_401468)]) rfl ?_
          obtain ⟨x_401491, hx_401491, rx_401491⟩ := ex_any (z0 := v_401464 + 1)
          refine g_iinc C dX10_readToken_85 (k := 3) (v := x_401491) rfl hx_401491 (by decide) (lo2 := [(2, .int x_401491), (4, .long x_401487), (0, .ref x), (1, .int v_401463), (3, .int v_401465), (6, .int v_401467), (7, .int v_401468)]) rfl ?_
          refine g_goto C (tgt := 112) dX10_readToken_88 (by decide) ?_
          refine g_lo (is := [2, 3, 0, 4, 1, 5, 6]) (lo2 := [(0, .ref x), (1, .int v_401463), (2, .int x_401491), (3, .int v_401465), (4, .long x_401487), (6, .int v_401467), (7, .int v_401468)]) rfl ?_
          exact j_112 I_401458 J_401459 hU_401460 hF_401461 hG_401462 v_401463 (rv_401463) x_401491 v_401465 x_401487 v_401467 v_401468 (rv_401468) v_401469 (rv_401469) q_401470 hm_401471
      refine g_iload C 6 dX10_readToken_13 rfl ?_
      refine g_aload_n C 0 dX10_readToken_15 rfl rfl ?_
      obtain ⟨x_401492, hx_401492, rx_401492⟩ := ex_get (I := I_401431) (a := x) (j := 5) (lo := 0) (hi := 940) hU_401433 hLx (ro_o hkx (by decide)) rfl
      refine g_getI C K hLx hkx f_10_29 (v := x_401492) hx_401492 dX10_readToken_16 ?_
      refine g_icmp_ge C (tgt := 118) dX10_readToken_19 (by decide) (fun h_401493 => ?_) (fun h_401493 => ?_)
      · skip
        refine g_lo (is := [0, 1, 2, 3, 4, 5, 6]) (lo2 := [(0, .ref x), (1, .int v_401436), (2, .int v_401437), (3, .int v_401438), (4, .long y_401439), (6, .int v_401440), (7, .int v_401441)]) rfl ?_
        exact j_118 I_401431 J_401432 hU_401433 hF_401434 hG_401435 v_401436 (rv_401436) v_401437 v_401438 y_401439 v_401440 v_401441 (rv_401441) x_401492 (rx_401492) hx_401492
      · skip
        have r_401494 := lt_l (hi := 939) (nle h_401493) rv_401441 rx_401492 (by decide)
        have r_401495 := lt_r (lo := 1) (nle h_401493) rv_401441 rx_401492 (by decide)
        refine g_iload C 6 dX10_readToken_22 rfl ?_
        refine g_aload_n C 0 dX10_readToken_24 rfl rfl ?_
        refine g_getR C K hLx hkx f_10_9 hb_401330 dX10_readToken_25 ?_
        refine g_alenB C K hb_401330L hb_401330k (v := 940) (by rw [hb_401330n]; rfl) dX10_readToken_28 ?_
        refine g_icmp_ge C (tgt := 118) dX10_readToken_29 (by decide) (fun h_401496 => ?_) (fun h_401496 => ?_)
        · skip
          have r_401497 := le_r (h_401496) rc_940 r_401494
          exact rg_no r_401497 (by decide)
        · skip
          refine g_aload_n C 0 dX10_readToken_32 rfl rfl ?_
          refine g_getR C K hLx hkx f_10_9 hb_401330 dX10_readToken_33 ?_
          refine g_iload C 6 dX10_readToken_36 rfl ?_
          obtain ⟨x_401498, hx_401498, rx_401498⟩ := ex_get (I := I_401431) (a := b_401330) (j := v_401441.toNatClampNeg) (lo := (-128)) (hi := 127) hU_401433 hb_401330L (ro_a hb_401330k (by decide) hb_401330o hkx rfl) (rfl)
          refine h_bald C K hb_401330L hb_401330k (v := x_401498) (v_401441.toNatClampNeg) (rfl) (ix_0 r_401494 (by decide)) (ix_lt r_401494 (by decide) hb_401330n (by decide)) hx_401498 dX10_readToken_38 ?_
          refine g_callSI C K (c_X10_isLetter W9 x_401498 (rx_401498) hU_401433) s_10_87 rfl ⟨rfl, rfl⟩ ⟨Nat.le_of_ble_eq_true rfl, Nat.le_of_ble_eq_true rfl⟩ (Nat.le_of_ble_eq_true rfl) ⟨Nat.le_of_ble_eq_true rfl, Nat.le_of_ble_eq_true rfl⟩ dX10_readToken_39 rfl (st := []) (fun x_401499 I_401500 J_401501 h_401502 => ?_)
          obtain ⟨rfl, rfl, rx_401499⟩ := h_401502
          refine g_if_ne C (tgt := 58) dX10_readToken_42 (by decide) (fun h_401503 => ?_) (fun h_401503 => ?_)
          · skip
            have n_401504 : ¬ x_401499 = 0 := h_401503
            have r_401505 := ne_lo (lo := 1) n_401504 rx_401499 rc_0 rfl (by decide)
            refine g_lo (is := [0, 1, 2, 3, 4, 5, 6]) (lo2 := [(0, .ref x), (1, .int v_401436), (2, .int v_401437), (3, .int v_401438), (4, .long y_401439), (6, .int v_401440), (7, .int v_401441)]) rfl ?_
            exact j_58 I_401431 J_401432 hU_401433 hF_401434 hG_401435 v_401436 (rv_401436) v_401437 v_401438 y_401439 v_401440 v_401441 (r_401494) x_401492 (r_401495) hx_401492 hm_401442
          · skip
            have r_401506 := (⟨(rx_401499).1, (eq_rg (h_401503) rc_0).2⟩ : Rg 0 0 x_401499)
            refine g_aload_n C 0 dX10_readToken_45 rfl rfl ?_
            refine g_getR C K hLx hkx f_10_9 hb_401330 dX10_readToken_46 ?_
            refine g_iload C 6 dX10_readToken_49 rfl ?_
            obtain ⟨x_401507, hx_401507, rx_401507⟩ := ex_get (I := I_401431) (a := b_401330) (j := v_401441.toNatClampNeg) (lo := (-128)) (hi := 127) hU_401433 hb_401330L (ro_a hb_401330k (by decide) hb_401330o hkx rfl) (rfl)
            refine h_bald C K hb_401330L hb_401330k (v := x_401507) (v_401441.toNatClampNeg) (rfl) (ix_0 r_401494 (by decide)) (ix_lt r_401494 (by decide) hb_401330n (by decide)) hx_401507 dX10_readToken_51 ?_
            refine g_callSI C K (c_X10_isDigit W9 x_401507 (rx_401507) hU_401433) s_10_91 rfl ⟨rfl, rfl⟩ ⟨Nat.le_of_ble_eq_true rfl, Nat.le_of_ble_eq_true rfl⟩ (Nat.le_of_ble_eq_true rfl) ⟨Nat.le_of_ble_eq_true rfl, Nat.le_of_ble_eq_true rfl⟩ dX10_readToken_52 rfl (st := []) (fun x_401508 I_401509 J_401510 h_401511 => ?_)
            obtain ⟨rfl, rfl, rx_401508⟩ := h_401511
            refine g_if_eq C (tgt := 118) dX10_readToken_55 (by decide) (fun h_401512 => ?_) (fun h_401512 => ?_)
            · skip
              have r_401513 := (⟨(rx_401508).1, (eq_rg (h_401512) rc_0).2⟩ : Rg 0 0 x_401508)
              refine g_lo (is := [0, 1, 2, 3, 4, 5, 6]) (lo2 := [(0, .ref x), (1, .int v_401436), (2, .int v_401437), (3, .int v_401438), (4, .long y_401439), (6, .int v_401440), (7, .int v_401441)]) rfl ?_
              exact j_118 I_401431 J_401432 hU_401433 hF_401434 hG_401435 v_401436 (rv_401436) v_401437 v_401438 y_401439 v_401440 v_401441 (rg_w r_401494 (by decide) (by decide)) x_401492 (rg_w r_401495 (by decide) (by decide)) hx_401492
            · skip
              have n_401514 : ¬ x_401508 = 0 := h_401512
              have r_401515 := ne_lo (lo := 1) n_401514 rx_401508 rc_0 rfl (by decide)
              refine g_lo (is := [0, 1, 2, 3, 4, 5, 6]) (lo2 := [(0, .ref x), (1, .int v_401436), (2, .int v_401437), (3, .int v_401438), (4, .long y_401439), (6, .int v_401440), (7, .int v_401441)]) rfl ?_
              exact j_58 I_401431 J_401432 hU_401433 hF_401434 hG_401435 v_401436 (rv_401436) v_401437 v_401438 y_401439 v_401440 v_401441 (r_401494) x_401492 (r_401495) hx_401492 hm_401442
  refine g_iconst C (v := 0) dX10_readToken_0 (by decide) ?_
  refine g_istore_n C dX10_readToken_1 rfl (by decide) (lo2 := [(2, .int 0), (0, .ref x), (1, .int a0)]) rfl ?_
  refine g_iconst C (v := 0) dX10_readToken_2 (by decide) ?_
  refine g_istore_n C dX10_readToken_3 rfl (by decide) (lo2 := [(3, .int 0), (2, .int 0), (0, .ref x), (1, .int a0)]) rfl ?_
  refine g_lconst C (v := 0) dX10_readToken_4 (by decide) ?_
  refine g_lstore C dX10_readToken_5 (by decide) (lo2 := [(4, .long 0), (3, .int 0), (2, .int 0), (0, .ref x), (1, .int a0)]) rfl ?_
  refine g_iconst C (v := 0) dX10_readToken_7 (by decide) ?_
  refine g_istore C dX10_readToken_8 (by decide) (lo2 := [(6, .int 0), (4, .long 0), (3, .int 0), (2, .int 0), (0, .ref x), (1, .int a0)]) rfl ?_
  refine g_iload_n C 5 dX10_readToken_10 rfl rfl ?_
  refine g_istore C dX10_readToken_11 (by decide) (lo2 := [(7, .int a0), (6, .int 0), (4, .long 0), (3, .int 0), (2, .int 0), (0, .ref x), (1, .int a0)]) rfl ?_
  refine g_lo (is := [5, 6, 4, 3, 2, 1, 0]) (lo2 := [(0, .ref x), (1, .int a0), (2, .int 0), (3, .int 0), (4, .long 0), (6, .int 0), (7, .int a0)]) rfl ?_
  exact l_13 941 I J hU hF hG a0 (ra0) 0 0 0 0 a0 (rg_w ra0 (by decide) (by decide)) (ms_s (a := 0) (b := 940) (N := 941) (rg_w ra0 (by decide) (by decide)) (by decide))
set_option maxRecDepth 100000 in
set_option maxHeartbeats 8000000 in
theorem c_X10_begin {l : Launch} {D : va_G} {cy : Nat → ClassId} {L : List Nat} {κ ln : Nat → Nat} {R : Nat → Nat → Option Nat} {I : Nat → Nat → Int32} {J : Nat → Nat → Int64} {ow : Nat → Nat × Nat} (W9 : ∀ a ∈ L, Shp L κ ln R ow a) {x : Nat} (hLx : x ∈ L) (hkx : κ x = 10) (a0 : Int32) (ra0 : Rg 200 900 a0) (hU : Uv L κ ow I) : CtV l yX10_begin cX10_begin 5 none { frames := 2, cells := 0, slots := 0, locals := 60 } D cy L κ ln R I J [.ref x, .int a0] (fun I2 J2 => Uv L κ ow I2 ∧ Fq L κ ow [1006, 1007, 1008, 1009, 1011, 1012, 70200, 70300] I I2 ∧ Fq L κ ow [1010, 70400] J J2) := by
  refine CtV.of (by decide +kernel) (Nat.le_of_ble_eq_true rfl) ?_
  intro p e s m below meth c B K
  have C := B.1
  have hF : Fq L κ ow [1006, 1007, 1008, 1009, 1011, 1012, 70200, 70300] I I := fq_rf
  have hG : Fq L κ ow [1010, 70400] J J := fq_rf
  obtain ⟨b_405025, hb_405025, hb_405025L, hb_405025k, hb_405025n, hb_405025o⟩ := shp_a (W9 x hLx) hkx 0 13 940 rfl (by decide)
  refine g_lo (is := [0, 1]) (lo2 := [(0, .ref x), (1, .int a0)]) rfl ?_
  have l_27 : ∀ (n_27 : Nat) (I_405026 : Nat → Nat → Int32) (J_405027 : Nat → Nat → Int64) (hU_405028 : Uv L κ ow I_405026) (hF_405029 : Fq L κ ow [1006, 1007, 1008, 1009, 1011, 1012, 70200, 70300] I I_405026) (hG_405030 : Fq L κ ow [1010, 70400] J J_405027) (v_405031 : Int32) (rv_405031 : Rg 200 900 v_405031) (v_405032 : Int32) (rv_405032 : Rg 0 900 v_405032) (v_405033 : Int32) (rv_405033 : Rg 0 940 v_405033) (v_405034 : Int32) (rv_405034 : Rg 0 900 v_405034) (v_405035 : Int32) (rv_405035 : Rg 0 940 v_405035) (q_405036 : I_405026 x 5 = v_405035) (hm_405037 : 900 < (v_405034 : Int32).toInt + (n_27 : Int)), WG p l e { frames := 2, cells := 0, slots := 0, locals := 60 } s m ([.ref x, .int a0] : List Value).toArray below meth c 5 0 0 (MQ below (Qv_ D cy L κ ln R (fun I2 J2 => Uv L κ ow I2 ∧ Fq L κ ow [1006, 1007, 1008, 1009, 1011, 1012, 70200, 70300] I I2 ∧ Fq L κ ow [1010, 70400] J J2)) ([.ref x, .int a0] : List Value).toArray s 0 0 (Al_ L)) D cy (Al_ L) s.heap L κ ln R I_405026 J_405027 27 [(0, .ref x), (1, .int v_405031), (2, .int v_405032), (3, .int v_405033), (4, .int v_405034)] [] := by
    intro n_27
    induction n_27 with
    | zero =>
      intro I_405026 J_405027 hU_405028 hF_405029 hG_405030 v_405031 rv_405031 v_405032 rv_405032 v_405033 rv_405033 v_405034 rv_405034 v_405035 rv_405035 q_405036 hm_405037
      exact ms_0 rv_405034 hm_405037
    | succ n_27 ih_27 =>
      intro I_405026 J_405027 hU_405028 hF_405029 hG_405030 v_405031 rv_405031 v_405032 rv_405032 v_405033 rv_405033 v_405034 rv_405034 v_405035 rv_405035 q_405036 hm_405037
      have j_70 : ∀ (I_405038 : Nat → Nat → Int32) (J_405039 : Nat → Nat → Int64) (hU_405040 : Uv L κ ow I_405038) (hF_405041 : Fq L κ ow [1006, 1007, 1008, 1009, 1011, 1012, 70200, 70300] I I_405038) (hG_405042 : Fq L κ ow [1010, 70400] J J_405039) (v_405043 : Int32) (rv_405043 : Rg 200 900 v_405043) (v_405044 : Int32) (rv_405044 : Rg 1 900 v_405044) (v_405045 : Int32) (rv_405045 : Rg 0 940 v_405045) (v_405046 : Int32) (rv_405046 : Rg 0 899 v_405046) (v_405047 : Int32) (rv_405047 : Rg 0 940 v_405047) (q_405048 : I_405038 x 5 = v_405047) (hm_405049 : 900 < (v_405046 : Int32).toInt + ((n_27 + 1 : Nat) : Int)), WG p l e { frames := 2, cells := 0, slots := 0, locals := 60 } s m ([.ref x, .int a0] : List Value).toArray below meth c 5 0 0 (MQ below (Qv_ D cy L κ ln R (fun I2 J2 => Uv L κ ow I2 ∧ Fq L κ ow [1006, 1007, 1008, 1009, 1011, 1012, 70200, 70300] I I2 ∧ Fq L κ ow [1010, 70400] J J2)) ([.ref x, .int a0] : List Value).toArray s 0 0 (Al_ L)) D cy (Al_ L) s.heap L κ ln R I_405038 J_405039 70 [(0, .ref x), (1, .int v_405043), (2, .int v_405044), (3, .int v_405045), (4, .int v_405046)] [] := by
        intro I_405038 J_405039 hU_405040 hF_405041 hG_405042 v_405043 rv_405043 v_405044 rv_405044 v_405045 rv_405045 v_405046 rv_405046 v_405047 rv_405047 q_405048 hm_405049
        obtain ⟨x_405050, hx_405050, rx_405050, tx_405050⟩ := ex_add (y := 1) 1 900 rv_405046 rc_1 (by decide) (by decide) (by decide) (by decide)
        refine g_iinc C dX10_begin_70 (k := 4) (v := x_405050) rfl hx_405050 (by decide) (lo2 := [(4, .int x_405050), (0, .ref x), (1, .int v_405043), (2, .int v_405044), (3, .int v_405045)]) rfl ?_
        refine g_goto C (tgt := 27) dX10_begin_73 (by decide) ?_
        refine g_lo (is := [1, 2, 3, 4, 0]) (lo2 := [(0, .ref x), (1, .int v_405043), (2, .int v_405044), (3, .int v_405045), (4, .int x_405050)]) rfl ?_
        exact ih_27 I_405038 J_405039 hU_405040 hF_405041 hG_405042 v_405043 (rv_405043) v_405044 (rg_w rv_405044 (by decide) (by decide)) v_405045 (rv_405045) x_405050 (rg_w rx_405050 (by decide) (by decide)) v_405047 (rv_405047) q_405048 (ms_1 hm_405049 (ti_k tx_405050 rc_1) (by decide))
      refine g_iload C 4 dX10_begin_27 rfl ?_
      refine g_iload_n C 2 dX10_begin_29 rfl rfl ?_
      refine g_icmp_ge C (tgt := 76) dX10_begin_30 (by decide) (fun h_405051 => ?_) (fun h_405051 => ?_)
      · skip
        refine g_aload_n C 0 dX10_begin_76 rfl rfl ?_
        refine g_aload_n C 0 dX10_begin_77 rfl rfl ?_
        refine g_getI C K hLx hkx f_10_29 (v := v_405035) q_405036 dX10_begin_78 ?_
        refine g_iload_n C 1 dX10_begin_81 rfl rfl ?_
        refine g_icmp_le C (tgt := 90) dX10_begin_82 (by decide) (fun h_405052 => ?_) (fun h_405052 => ?_)
        · skip
          have r_405053 := le_l (h_405052) rv_405035 rv_405031
          refine g_bipush C (v := 102) dX10_begin_90 (by decide) ?_
          refine g_iload_n C 2 dX10_begin_92 rfl rfl ?_
          refine g_lconst C (v := 0) dX10_begin_93 (by decide) ?_
          refine g_callVV C K (c_X10_addToken W9 hLx hkx 102 v_405032 0 (rg_w rc_102 (by decide) (by decide)) (rv_405032) hU_405028) hLx hkx (by decide) rfl v_10_80 rfl ⟨rfl, rfl⟩ ⟨Nat.le_of_ble_eq_true rfl, Nat.le_of_ble_eq_true rfl⟩ (Nat.le_of_ble_eq_true rfl) ⟨Nat.le_of_ble_eq_true rfl, Nat.le_of_ble_eq_true rfl⟩ dX10_begin_94 rfl (st := []) (fun I_405055 J_405056 h_405057 => ?_)
          obtain ⟨hUI_405055, hFI_405055, hGJ_405056⟩ := h_405057
          have hF_405058 := fq_tr hF_405029 hFI_405055 (by decide)
          have hG_405059 := fq_tr hG_405030 hGJ_405056 (by decide)
          refine g_aload_n C 0 dX10_begin_97 rfl rfl ?_
          refine g_iconst C (v := 0) dX10_begin_98 (by decide) ?_
          refine h_putI C K hLx hkx f_10_49 p_10_11 dX10_begin_99 (fun I_405060 hI_405060 => ?_)
          have hU_405061 := uv_put hUI_405055 hI_405060 (ro_o hkx (by decide)) (lo := (-2147483648)) (hi := 2147483647) rfl (rg_all _)
          have hF_405062 := fq_puto hF_405058 hI_405060 hkx (by decide) (by decide)
          refine g_aload_n C 0 dX10_begin_102 rfl rfl ?_
          refine g_iconst C (v := 0) dX10_begin_103 (by decide) ?_
          refine h_putI C K hLx hkx f_10_52 p_10_12 dX10_begin_104 (fun I_405063 hI_405063 => ?_)
          have hU_405064 := uv_put hU_405061 hI_405063 (ro_o hkx (by decide)) (lo := (-2147483648)) (hi := 2147483647) rfl (rg_all _)
          have hF_405065 := fq_puto hF_405062 hI_405063 hkx (by decide) (by decide)
          refine g_aload_n C 0 dX10_begin_107 rfl rfl ?_
          refine g_iconst C (v := (-1)) dX10_begin_108 (by decide) ?_
          refine h_putI C K hLx hkx f_10_36 p_10_7 dX10_begin_109 (fun I_405066 hI_405066 => ?_)
          have hU_405067 := uv_put hU_405064 hI_405066 (ro_o hkx (by decide)) (lo := (-1)) (hi := 900) rfl (rg_w rc_m1 (by decide) (by decide))
          have hF_405068 := fq_puto hF_405065 hI_405066 hkx (by decide) (by decide)
          refine g_aload_n C 0 dX10_begin_112 rfl rfl ?_
          refine g_callVV C K (c_X10_advance W9 hLx hkx   hU_405067) hLx hkx (by decide) rfl v_10_84 rfl ⟨rfl, rfl⟩ ⟨Nat.le_of_ble_eq_true rfl, Nat.le_of_ble_eq_true rfl⟩ (Nat.le_of_ble_eq_true rfl) ⟨Nat.le_of_ble_eq_true rfl, Nat.le_of_ble_eq_true rfl⟩ dX10_begin_113 rfl (st := []) (fun I_405070 J_405071 h_405072 => ?_)
          obtain ⟨hUI_405070, hFI_405070, hGJ_405071⟩ := h_405072
          have hF_405073 := fq_tr hF_405068 hFI_405070 (by decide)
          have hG_405074 := fq_tr hG_405059 hGJ_405071 (by decide)
          exact g_vret B K rfl ⟨hUI_405070, hF_405073, hG_405074⟩ dX10_begin_116
        · skip
          have r_405075 := lt_r (lo := 201) (nle h_405052) rv_405031 rv_405035 (by decide)
          refine g_bipush C (v := 103) dX10_begin_85 (by decide) ?_
          refine g_goto C (tgt := 92) dX10_begin_87 (by decide) ?_
          refine g_iload_n C 2 dX10_begin_92 rfl rfl ?_
          refine g_lconst C (v := 0) dX10_begin_93 (by decide) ?_
          refine g_callVV C K (c_X10_addToken W9 hLx hkx 103 v_405032 0 (rg_w rc_103 (by decide) (by decide)) (rv_405032) hU_405028) hLx hkx (by decide) rfl v_10_80 rfl ⟨rfl, rfl⟩ ⟨Nat.le_of_ble_eq_true rfl, Nat.le_of_ble_eq_true rfl⟩ (Nat.le_of_ble_eq_true rfl) ⟨Nat.le_of_ble_eq_true rfl, Nat.le_of_ble_eq_true rfl⟩ dX10_begin_94 rfl (st := []) (fun I_405077 J_405078 h_405079 => ?_)
          obtain ⟨hUI_405077, hFI_405077, hGJ_405078⟩ := h_405079
          have hF_405080 := fq_tr hF_405029 hFI_405077 (by decide)
          have hG_405081 := fq_tr hG_405030 hGJ_405078 (by decide)
          refine g_aload_n C 0 dX10_begin_97 rfl rfl ?_
          refine g_iconst C (v := 0) dX10_begin_98 (by decide) ?_
          refine h_putI C K hLx hkx f_10_49 p_10_11 dX10_begin_99 (fun I_405082 hI_405082 => ?_)
          have hU_405083 := uv_put hUI_405077 hI_405082 (ro_o hkx (by decide)) (lo := (-2147483648)) (hi := 2147483647) rfl (rg_all _)
          have hF_405084 := fq_puto hF_405080 hI_405082 hkx (by decide) (by decide)
          refine g_aload_n C 0 dX10_begin_102 rfl rfl ?_
          refine g_iconst C (v := 0) dX10_begin_103 (by decide) ?_
          refine h_putI C K hLx hkx f_10_52 p_10_12 dX10_begin_104 (fun I_405085 hI_405085 => ?_)
          have hU_405086 := uv_put hU_405083 hI_405085 (ro_o hkx (by decide)) (lo := (-2147483648)) (hi := 2147483647) rfl (rg_all _)
          have hF_405087 := fq_puto hF_405084 hI_405085 hkx (by decide) (by decide)
          refine g_aload_n C 0 dX10_begin_107 rfl rfl ?_
          refine g_iconst C (v := (-1)) dX10_begin_108 (by decide) ?_
          refine h_putI C K hLx hkx f_10_36 p_10_7 dX10_begin_109 (fun I_405088 hI_405088 => ?_)
          have hU_405089 := uv_put hU_405086 hI_405088 (ro_o hkx (by decide)) (lo := (-1)) (hi := 900) rfl (rg_w rc_m1 (by decide) (by decide))
          have hF_405090 := fq_puto hF_405087 hI_405088 hkx (by decide) (by decide)
          refine g_aload_n C 0 dX10_begin_112 rfl rfl ?_
          refine g_callVV C K (c_X10_advance W9 hLx hkx   hU_405089) hLx hkx (by decide) rfl v_10_84 rfl ⟨rfl, rfl⟩ ⟨Nat.le_of_ble_eq_true rfl, Nat.le_of_ble_eq_true rfl⟩ (Nat.le_of_ble_eq_true rfl) ⟨Nat.le_of_ble_eq_true rfl, Nat.le_of_ble_eq_true rfl⟩ dX10_begin_113 rfl (st := []) (fun I_405092 J_405093 h_405094 => ?_)
          obtain ⟨hUI_405092, hFI_405092, hGJ_405093⟩ := h_405094
          have hF_405095 := fq_tr hF_405090 hFI_405092 (by decide)
          have hG_405096 := fq_tr hG_405081 hGJ_405093 (by decide)
          exact g_vret B K rfl ⟨hUI_405092, hF_405095, hG_405096⟩ dX10_begin_116
      · skip
        have r_405097 := lt_l (hi := 899) (nle h_405051) rv_405034 rv_405032 (by decide)
        have r_405098 := lt_r (lo := 1) (nle h_405051) rv_405034 rv_405032 (by decide)
        refine g_iload C 4 dX10_begin_33 rfl ?_
        refine g_iload_n C 3 dX10_begin_35 rfl rfl ?_
        refine g_icmp_lt C (tgt := 70) dX10_begin_36 (by decide) (fun h_405099 => ?_) (fun h_405099 => ?_)
        · skip
          have r_405100 := lt_r (lo := 1) (h_405099) r_405097 rv_405033 (by decide)
          refine g_lo (is := [0, 1, 2, 3, 4]) (lo2 := [(0, .ref x), (1, .int v_405031), (2, .int v_405032), (3, .int v_405033), (4, .int v_405034)]) rfl ?_
          exact j_70 I_405026 J_405027 hU_405028 hF_405029 hG_405030 v_405031 (rv_405031) v_405032 (r_405098) v_405033 (rg_w r_405100 (by decide) (by decide)) v_405034 (r_405097) v_405035 (rv_405035) q_405036 hm_405037
        · skip
          have r_405101 := le_l (nlt h_405099) rv_405033 r_405097
          refine g_aload_n C 0 dX10_begin_39 rfl rfl ?_
          refine g_getR C K hLx hkx f_10_9 hb_405025 dX10_begin_40 ?_
          refine g_iload C 4 dX10_begin_43 rfl ?_
          obtain ⟨x_405102, hx_405102, rx_405102⟩ := ex_get (I := I_405026) (a := b_405025) (j := v_405034.toNatClampNeg) (lo := (-128)) (hi := 127) hU_405028 hb_405025L (ro_a hb_405025k (by decide) hb_405025o hkx rfl) (rfl)
          refine h_bald C K hb_405025L hb_405025k (v := x_405102) (v_405034.toNatClampNeg) (rfl) (ix_0 r_405097 (by decide)) (ix_lt r_405097 (by decide) hb_405025n (by decide)) hx_405102 dX10_begin_45 ?_
          refine g_bipush C (v := 32) dX10_begin_46 (by decide) ?_
          refine g_icmp_eq C (tgt := 70) dX10_begin_48 (by decide) (fun h_405103 => ?_) (fun h_405103 => ?_)
          · skip
            have r_405104 := (⟨(eq_rg (h_405103) rc_32).1, (eq_rg (h_405103) rc_32).2⟩ : Rg 32 32 x_405102)
            refine g_lo (is := [0, 1, 2, 3, 4]) (lo2 := [(0, .ref x), (1, .int v_405031), (2, .int v_405032), (3, .int v_405033), (4, .int v_405034)]) rfl ?_
            exact j_70 I_405026 J_405027 hU_405028 hF_405029 hG_405030 v_405031 (rv_405031) v_405032 (r_405098) v_405033 (rg_w r_405101 (by decide) (by decide)) v_405034 (r_405097) v_405035 (rv_405035) q_405036 hm_405037
          · skip
            have n_405105 : ¬ x_405102 = 32 := h_405103
            refine g_aload_n C 0 dX10_begin_51 rfl rfl ?_
            refine g_getR C K hLx hkx f_10_9 hb_405025 dX10_begin_52 ?_
            refine g_iload C 4 dX10_begin_55 rfl ?_
            obtain ⟨x_405106, hx_405106, rx_405106⟩ := ex_get (I := I_405026) (a := b_405025) (j := v_405034.toNatClampNeg) (lo := (-128)) (hi := 127) hU_405028 hb_405025L (ro_a hb_405025k (by decide) hb_405025o hkx rfl) (rfl)
            refine h_bald C K hb_405025L hb_405025k (v := x_405106) (v_405034.toNatClampNeg) (rfl) (ix_0 r_405097 (by decide)) (ix_lt r_405097 (by decide) hb_405025n (by decide)) hx_405106 dX10_begin_57 ?_
            refine g_bipush C (v := 10) dX10_begin_58 (by decide) ?_
            refine g_icmp_eq C (tgt := 70) dX10_begin_60 (by decide) (fun h_405107 => ?_) (fun h_405107 => ?_)
            · skip
              have r_405108 := (⟨(eq_rg (h_405107) rc_10).1, (eq_rg (h_405107) rc_10).2⟩ : Rg 10 10 x_405106)
              refine g_lo (is := [0, 1, 2, 3, 4]) (lo2 := [(0, .ref x), (1, .int v_405031), (2, .int v_405032), (3, .int v_405033), (4, .int v_405034)]) rfl ?_
              exact j_70 I_405026 J_405027 hU_405028 hF_405029 hG_405030 v_405031 (rv_405031) v_405032 (r_405098) v_405033 (rg_w r_405101 (by decide) (by decide)) v_405034 (r_405097) v_405035 (rv_405035) q_405036 hm_405037
            · skip
              have n_405109 : ¬ x_405106 = 10 := h_405107
              refine g_aload_n C 0 dX10_begin_63 rfl rfl ?_
              refine g_iload C 4 dX10_begin_64 rfl ?_
              refine g_callVI C K (c_X10_readToken W9 hLx hkx v_405034 (r_405097) hU_405028) hLx hkx (by decide) rfl v_10_76 rfl ⟨rfl, rfl⟩ ⟨Nat.le_of_ble_eq_true rfl, Nat.le_of_ble_eq_true rfl⟩ (Nat.le_of_ble_eq_true rfl) ⟨Nat.le_of_ble_eq_true rfl, Nat.le_of_ble_eq_true rfl⟩ dX10_begin_66 rfl (st := []) (fun x_405110 I_405111 J_405112 h_405113 => ?_)
              obtain ⟨hUI_405111, hFI_405111, hGJ_405112, rx_405110⟩ := h_405113
              have hF_405114 := fq_tr hF_405029 hFI_405111 (by decide)
              have hG_405115 := fq_tr hG_405030 hGJ_405112 (by decide)
              refine g_istore_n C dX10_begin_69 rfl (by decide) (lo2 := [(3, .int x_405110), (0, .ref x), (1, .int v_405031), (2, .int v_405032), (4, .int v_405034)]) rfl ?_
              refine g_lo (is := [1, 2, 3, 0, 4]) (lo2 := [(0, .ref x), (1, .int v_405031), (2, .int v_405032), (3, .int x_405110), (4, .int v_405034)]) rfl ?_
              exact j_70 I_405111 J_405112 hUI_405111 hF_405114 hG_405115 v_405031 (rv_405031) v_405032 (r_405098) x_405110 (rx_405110) v_405034 (r_405097) v_405035 (rv_405035) (fq_at hFI_405111 hLx hkx (by decide) (by decide) q_405036) hm_405037
  refine g_aload_n C 0 dX10_begin_0 rfl rfl ?_
  obtain ⟨x_405116, hx_405116, rx_405116⟩ := ex_get (I := I) (a := x) (j := 5) (lo := 0) (hi := 940) hU hLx (ro_o hkx (by decide)) rfl
  refine g_getI C K hLx hkx f_10_29 (v := x_405116) hx_405116 dX10_begin_1 ?_
  refine g_iload_n C 1 dX10_begin_4 rfl rfl ?_
  obtain ⟨x_405117, hx_405117, rx_405117⟩ := ex_min 0 900 rx_405116 ra0 (by decide) (by decide) (by decide)
  refine g_mmin C (v := x_405117) mw_10_70 w_min (Nat.le_of_ble_eq_true rfl) (Nat.le_of_ble_eq_true rfl) ⟨Nat.le_of_ble_eq_true rfl, Nat.le_of_ble_eq_true rfl⟩ (hx_405117) dX10_begin_5 ?_
  refine g_aload_n C 0 dX10_begin_8 rfl rfl ?_
  refine g_getR C K hLx hkx f_10_9 hb_405025 dX10_begin_9 ?_
  refine g_alenB C K hb_405025L hb_405025k (v := 940) (by rw [hb_405025n]; rfl) dX10_begin_12 ?_
  obtain ⟨x_405118, hx_405118, rx_405118⟩ := ex_min 0 900 rx_405117 rc_940 (by decide) (by decide) (by decide)
  refine g_mmin C (v := x_405118) mw_10_70 w_min (Nat.le_of_ble_eq_true rfl) (Nat.le_of_ble_eq_true rfl) ⟨Nat.le_of_ble_eq_true rfl, Nat.le_of_ble_eq_true rfl⟩ (hx_405118) dX10_begin_13 ?_
  refine g_istore_n C dX10_begin_16 rfl (by decide) (lo2 := [(2, .int x_405118), (0, .ref x), (1, .int a0)]) rfl ?_
  refine g_iconst C (v := 0) dX10_begin_17 (by decide) ?_
  refine g_istore_n C dX10_begin_18 rfl (by decide) (lo2 := [(3, .int 0), (2, .int x_405118), (0, .ref x), (1, .int a0)]) rfl ?_
  refine g_aload_n C 2 dX10_begin_19 rfl rfl ?_
  refine g_iconst C (v := 0) dX10_begin_20 (by decide) ?_
  refine h_putI C K hLx hkx f_10_33 p_10_6 dX10_begin_21 (fun I_405119 hI_405119 => ?_)
  have hU_405120 := uv_put hU hI_405119 (ro_o hkx (by decide)) (lo := 0) (hi := 901) rfl (rg_w rc_0 (by decide) (by decide))
  have hF_405121 := fq_puto hF hI_405119 hkx (by decide) (by decide)
  refine g_iconst C (v := 0) dX10_begin_24 (by decide) ?_
  refine g_istore C dX10_begin_25 (by decide) (lo2 := [(4, .int 0), (3, .int 0), (2, .int x_405118), (0, .ref x), (1, .int a0)]) rfl ?_
  refine g_lo (is := [3, 4, 2, 1, 0]) (lo2 := [(0, .ref x), (1, .int a0), (2, .int x_405118), (3, .int 0), (4, .int 0)]) rfl ?_
  exact l_27 901 I_405119 J hU_405120 hF_405121 hG a0 (ra0) x_405118 (rx_405118) 0 (rg_w rc_0 (by decide) (by decide)) 0 (rg_w rc_0 (by decide) (by decide)) x_405116 (rx_405116) (kp_j hI_405119 (by decide) hx_405116) (ms_s (a := 0) (b := 900) (N := 901) (rg_w rc_0 (by decide) (by decide)) (by decide))
set_option maxRecDepth 100000 in
set_option maxHeartbeats 8000000 in
theorem c_X1_forget {l : Launch} {D : va_G} {cy : Nat → ClassId} {L : List Nat} {κ ln : Nat → Nat} {R : Nat → Nat → Option Nat} {I : Nat → Nat → Int32} {J : Nat → Nat → Int64} {ow : Nat → Nat × Nat} (W9 : ∀ a ∈ L, Shp L κ ln R ow a) {x : Nat} (hLx : x ∈ L) (hkx : κ x = 1) (hU : Uv L κ ow I) : CtV l yX1_forget cX1_forget 2 none { frames := 0, cells := 0, slots := 0, locals := 0 } D cy L κ ln R I J [.ref x] (fun I2 J2 => Uv L κ ow I2 ∧ Fq L κ ow [107, 108, 109, 110, 111, 112, 16100, 16200, 16300, 16400, 16500, 16600] I I2 ∧ Fq L κ ow [] J J2) := by
  refine CtV.of (by decide +kernel) (Nat.le_of_ble_eq_true rfl) ?_
  intro p e s m below meth c B K
  have C := B.1
  have hF : Fq L κ ow [107, 108, 109, 110, 111, 112, 16100, 16200, 16300, 16400, 16500, 16600] I I := fq_rf
  have hG : Fq L κ ow [] J J := fq_rf
  obtain ⟨b_405473, hb_405473, hb_405473L, hb_405473k, hb_405473n, hb_405473o⟩ := shp_a (W9 x hLx) hkx 5 14 7 rfl (by decide)
  obtain ⟨b_405474, hb_405474, hb_405474L, hb_405474k, hb_405474n, hb_405474o⟩ := shp_a (W9 x hLx) hkx 4 14 7 rfl (by decide)
  obtain ⟨b_405475, hb_405475, hb_405475L, hb_405475k, hb_405475n, hb_405475o⟩ := shp_a (W9 x hLx) hkx 3 14 7 rfl (by decide)
  obtain ⟨b_405476, hb_405476, hb_405476L, hb_405476k, hb_405476n, hb_405476o⟩ := shp_a (W9 x hLx) hkx 2 14 42 rfl (by decide)
  obtain ⟨b_405477, hb_405477, hb_405477L, hb_405477k, hb_405477n, hb_405477o⟩ := shp_a (W9 x hLx) hkx 6 14 7 rfl (by decide)
  obtain ⟨b_405478, hb_405478, hb_405478L, hb_405478k, hb_405478n, hb_405478o⟩ := shp_a (W9 x hLx) hkx 1 14 6 rfl (by decide)
  refine g_lo (is := [0]) (lo2 := [(0, .ref x)]) rfl ?_
  have l_44 : ∀ (n_44 : Nat) (I_405479 : Nat → Nat → Int32) (J_405480 : Nat → Nat → Int64) (hU_405481 : Uv L κ ow I_405479) (hF_405482 : Fq L κ ow [107, 108, 109, 110, 111, 112, 16100, 16200, 16300, 16400, 16500, 16600] I I_405479) (hG_405483 : Fq L κ ow [] J J_405480) (v_405484 : Int32) (rv_405484 : Rg 0 7 v_405484) (hm_405485 : 7 < (v_405484 : Int32).toInt + (n_44 : Int)), WG p l e { frames := 0, cells := 0, slots := 0, locals := 0 } s m ([.ref x] : List Value).toArray below meth c 2 0 0 (MQ below (Qv_ D cy L κ ln R (fun I2 J2 => Uv L κ ow I2 ∧ Fq L κ ow [107, 108, 109, 110, 111, 112, 16100, 16200, 16300, 16400, 16500, 16600] I I2 ∧ Fq L κ ow [] J J2)) ([.ref x] : List Value).toArray s 0 0 (Al_ L)) D cy (Al_ L) s.heap L κ ln R I_405479 J_405480 44 [(0, .ref x), (1, .int v_405484)] [] := by
    intro n_44
    induction n_44 with
    | zero =>
      intro I_405479 J_405480 hU_405481 hF_405482 hG_405483 v_405484 rv_405484 hm_405485
      exact ms_0 rv_405484 hm_405485
    | succ n_44 ih_44 =>
      intro I_405479 J_405480 hU_405481 hF_405482 hG_405483 v_405484 rv_405484 hm_405485
      refine g_iload_n C 1 dX1_forget_44 rfl rfl ?_
      refine g_bipush C (v := 7) dX1_forget_45 (by decide) ?_
      refine g_icmp_ge C (tgt := 84) dX1_forget_47 (by decide) (fun h_405486 => ?_) (fun h_405486 => ?_)
      · skip
        have r_405487 := le_r (h_405486) rc_7 rv_405484
        refine g_aload_n C 0 dX1_forget_84 rfl rfl ?_
        refine g_iconst C (v := 0) dX1_forget_85 (by decide) ?_
        refine h_putI C K hLx hkx f_1_30 p_1_7 dX1_forget_86 (fun I_405488 hI_405488 => ?_)
        have hU_405489 := uv_put hU_405481 hI_405488 (ro_o hkx (by decide)) (lo := (-2147483648)) (hi := 2147483647) rfl (rg_all _)
        have hF_405490 := fq_puto hF_405482 hI_405488 hkx (by decide) (by decide)
        refine g_aload_n C 0 dX1_forget_89 rfl rfl ?_
        refine g_iconst C (v := 0) dX1_forget_90 (by decide) ?_
        refine h_putI C K hLx hkx f_1_34 p_1_8 dX1_forget_91 (fun I_405491 hI_405491 => ?_)
        have hU_405492 := uv_put hU_405489 hI_405491 (ro_o hkx (by decide)) (lo := (-2147483648)) (hi := 2147483647) rfl (rg_all _)
        have hF_405493 := fq_puto hF_405490 hI_405491 hkx (by decide) (by decide)
        refine g_aload_n C 0 dX1_forget_94 rfl rfl ?_
        refine g_iconst C (v := 0) dX1_forget_95 (by decide) ?_
        refine h_putI C K hLx hkx f_1_37 p_1_9 dX1_forget_96 (fun I_405494 hI_405494 => ?_)
        have hU_405495 := uv_put hU_405492 hI_405494 (ro_o hkx (by decide)) (lo := (-2147483648)) (hi := 2147483647) rfl (rg_all _)
        have hF_405496 := fq_puto hF_405493 hI_405494 hkx (by decide) (by decide)
        refine g_aload_n C 0 dX1_forget_99 rfl rfl ?_
        refine g_iconst C (v := 0) dX1_forget_100 (by decide) ?_
        refine h_putI C K hLx hkx f_1_40 p_1_10 dX1_forget_101 (fun I_405497 hI_405497 => ?_)
        have hU_405498 := uv_put hU_405495 hI_405497 (ro_o hkx (by decide)) (lo := (-2147483648)) (hi := 2147483647) rfl (rg_all _)
        have hF_405499 := fq_puto hF_405496 hI_405497 hkx (by decide) (by decide)
        refine g_aload_n C 0 dX1_forget_104 rfl rfl ?_
        refine g_iconst C (v := 0) dX1_forget_105 (by decide) ?_
        refine h_putI C K hLx hkx f_1_43 p_1_11 dX1_forget_106 (fun I_405500 hI_405500 => ?_)
        have hU_405501 := uv_put hU_405498 hI_405500 (ro_o hkx (by decide)) (lo := (-2147483648)) (hi := 2147483647) rfl (rg_all _)
        have hF_405502 := fq_puto hF_405499 hI_405500 hkx (by decide) (by decide)
        refine g_aload_n C 0 dX1_forget_109 rfl rfl ?_
        refine g_iconst C (v := 0) dX1_forget_110 (by decide) ?_
        refine h_putI C K hLx hkx f_1_46 p_1_12 dX1_forget_111 (fun I_405503 hI_405503 => ?_)
        have hU_405504 := uv_put hU_405501 hI_405503 (ro_o hkx (by decide)) (lo := (-2147483648)) (hi := 2147483647) rfl (rg_all _)
        have hF_405505 := fq_puto hF_405502 hI_405503 hkx (by decide) (by decide)
        exact g_vret B K rfl ⟨hU_405504, hF_405505, hG_405483⟩ dX1_forget_114
      · skip
        have r_405506 := lt_l (hi := 6) (nle h_405486) rv_405484 rc_7 (by decide)
        refine g_aload_n C 0 dX1_forget_50 rfl rfl ?_
        refine g_getR C K hLx hkx f_1_18 hb_405475 dX1_forget_51 ?_
        refine g_iload_n C 1 dX1_forget_54 rfl rfl ?_
        refine g_iconst C (v := 0) dX1_forget_55 (by decide) ?_
        refine h_iast C K hb_405475L hb_405475k (v_405484.toNatClampNeg) (rfl) (ix_0 r_405506 (by decide)) (ix_lt r_405506 (by decide) hb_405475n (by decide)) dX1_forget_56 (fun I_405507 hI_405507 => ?_)
        have hU_405508 := uv_put hU_405481 hI_405507 (ro_a hb_405475k (by decide) hb_405475o hkx rfl) (lo := (-2147483648)) (hi := 2147483647) (rfl) (rg_all _)
        have hF_405509 := fq_puta hF_405482 hI_405507 (ro_a hb_405475k (by decide) hb_405475o hkx rfl) (by decide) (by decide)
        refine g_aload_n C 0 dX1_forget_57 rfl rfl ?_
        refine g_getR C K hLx hkx f_1_21 hb_405474 dX1_forget_58 ?_
        refine g_iload_n C 1 dX1_forget_61 rfl rfl ?_
        refine g_iconst C (v := 0) dX1_forget_62 (by decide) ?_
        refine h_iast C K hb_405474L hb_405474k (v_405484.toNatClampNeg) (rfl) (ix_0 r_405506 (by decide)) (ix_lt r_405506 (by decide) hb_405474n (by decide)) dX1_forget_63 (fun I_405510 hI_405510 => ?_)
        have hU_405511 := uv_put hU_405508 hI_405510 (ro_a hb_405474k (by decide) hb_405474o hkx rfl) (lo := (-2147483648)) (hi := 2147483647) (rfl) (rg_all _)
        have hF_405512 := fq_puta hF_405509 hI_405510 (ro_a hb_405474k (by decide) hb_405474o hkx rfl) (by decide) (by decide)
        refine g_aload_n C 0 dX1_forget_64 rfl rfl ?_
        refine g_getR C K hLx hkx f_1_24 hb_405473 dX1_forget_65 ?_
        refine g_iload_n C 1 dX1_forget_68 rfl rfl ?_
        refine g_iconst C (v := 0) dX1_forget_69 (by decide) ?_
        refine h_iast C K hb_405473L hb_405473k (v_405484.toNatClampNeg) (rfl) (ix_0 r_405506 (by decide)) (ix_lt r_405506 (by decide) hb_405473n (by decide)) dX1_forget_70 (fun I_405513 hI_405513 => ?_)
        have hU_405514 := uv_put hU_405511 hI_405513 (ro_a hb_405473k (by decide) hb_405473o hkx rfl) (lo := (-2147483648)) (hi := 2147483647) (rfl) (rg_all _)
        have hF_405515 := fq_puta hF_405512 hI_405513 (ro_a hb_405473k (by decide) hb_405473o hkx rfl) (by decide) (by decide)
        refine g_aload_n C 0 dX1_forget_71 rfl rfl ?_
        refine g_getR C K hLx hkx f_1_27 hb_405477 dX1_forget_72 ?_
        refine g_iload_n C 1 dX1_forget_75 rfl rfl ?_
        refine g_iconst C (v := 0) dX1_forget_76 (by decide) ?_
        refine h_iast C K hb_405477L hb_405477k (v_405484.toNatClampNeg) (rfl) (ix_0 r_405506 (by decide)) (ix_lt r_405506 (by decide) hb_405477n (by decide)) dX1_forget_77 (fun I_405516 hI_405516 => ?_)
        have hU_405517 := uv_put hU_405514 hI_405516 (ro_a hb_405477k (by decide) hb_405477o hkx rfl) (lo := (-2147483648)) (hi := 2147483647) (rfl) (rg_all _)
        have hF_405518 := fq_puta hF_405515 hI_405516 (ro_a hb_405477k (by decide) hb_405477o hkx rfl) (by decide) (by decide)
        obtain ⟨x_405519, hx_405519, rx_405519, tx_405519⟩ := ex_add (y := 1) 1 7 r_405506 rc_1 (by decide) (by decide) (by decide) (by decide)
        refine g_iinc C dX1_forget_78 (k := 1) (v := x_405519) rfl hx_405519 (by decide) (lo2 := [(1, .int x_405519), (0, .ref x)]) rfl ?_
        refine g_goto C (tgt := 44) dX1_forget_81 (by decide) ?_
        refine g_lo (is := [1, 0]) (lo2 := [(0, .ref x), (1, .int x_405519)]) rfl ?_
        exact ih_44 I_405516 J_405480 hU_405517 hF_405518 hG_405483 x_405519 (rg_w rx_405519 (by decide) (by decide)) (ms_1 hm_405485 (ti_k tx_405519 rc_1) (by decide))
  have l_23 : ∀ (n_23 : Nat) (I_405520 : Nat → Nat → Int32) (J_405521 : Nat → Nat → Int64) (hU_405522 : Uv L κ ow I_405520) (hF_405523 : Fq L κ ow [107, 108, 109, 110, 111, 112, 16100, 16200, 16300, 16400, 16500, 16600] I I_405520) (hG_405524 : Fq L κ ow [] J J_405521) (v_405525 : Int32) (rv_405525 : Rg 0 42 v_405525) (hm_405526 : 42 < (v_405525 : Int32).toInt + (n_23 : Int)), WG p l e { frames := 0, cells := 0, slots := 0, locals := 0 } s m ([.ref x] : List Value).toArray below meth c 2 0 0 (MQ below (Qv_ D cy L κ ln R (fun I2 J2 => Uv L κ ow I2 ∧ Fq L κ ow [107, 108, 109, 110, 111, 112, 16100, 16200, 16300, 16400, 16500, 16600] I I2 ∧ Fq L κ ow [] J J2)) ([.ref x] : List Value).toArray s 0 0 (Al_ L)) D cy (Al_ L) s.heap L κ ln R I_405520 J_405521 23 [(0, .ref x), (1, .int v_405525)] [] := by
    intro n_23
    induction n_23 with
    | zero =>
      intro I_405520 J_405521 hU_405522 hF_405523 hG_405524 v_405525 rv_405525 hm_405526
      exact ms_0 rv_405525 hm_405526
    | succ n_23 ih_23 =>
      intro I_405520 J_405521 hU_405522 hF_405523 hG_405524 v_405525 rv_405525 hm_405526
      refine g_iload_n C 1 dX1_forget_23 rfl rfl ?_
      refine g_bipush C (v := 42) dX1_forget_24 (by decide) ?_
      refine g_icmp_ge C (tgt := 42) dX1_forget_26 (by decide) (fun h_405527 => ?_) (fun h_405527 => ?_)
      · skip
        have r_405528 := le_r (h_405527) rc_42 rv_405525
        refine g_iconst C (v := 0) dX1_forget_42 (by decide) ?_
        refine g_istore_n C dX1_forget_43 rfl (by decide) (lo2 := [(1, .int 0), (0, .ref x)]) rfl ?_
        refine g_lo (is := [1, 0]) (lo2 := [(0, .ref x), (1, .int 0)]) rfl ?_
        exact l_44 8 I_405520 J_405521 hU_405522 hF_405523 hG_405524 0 (rg_w rc_0 (by decide) (by decide)) (ms_s (a := 0) (b := 7) (N := 8) (rg_w rc_0 (by decide) (by decide)) (by decide))
      · skip
        have r_405529 := lt_l (hi := 41) (nle h_405527) rv_405525 rc_42 (by decide)
        refine g_aload_n C 0 dX1_forget_29 rfl rfl ?_
        refine g_getR C K hLx hkx f_1_15 hb_405476 dX1_forget_30 ?_
        refine g_iload_n C 1 dX1_forget_33 rfl rfl ?_
        refine g_iconst C (v := 0) dX1_forget_34 (by decide) ?_
        refine h_iast C K hb_405476L hb_405476k (v_405525.toNatClampNeg) (rfl) (ix_0 r_405529 (by decide)) (ix_lt r_405529 (by decide) hb_405476n (by decide)) dX1_forget_35 (fun I_405530 hI_405530 => ?_)
        have hU_405531 := uv_put hU_405522 hI_405530 (ro_a hb_405476k (by decide) hb_405476o hkx rfl) (lo := (-2147483648)) (hi := 2147483647) (rfl) (rg_all _)
        have hF_405532 := fq_puta hF_405523 hI_405530 (ro_a hb_405476k (by decide) hb_405476o hkx rfl) (by decide) (by decide)
        obtain ⟨x_405533, hx_405533, rx_405533, tx_405533⟩ := ex_add (y := 1) 1 42 r_405529 rc_1 (by decide) (by decide) (by decide) (by decide)
        refine g_iinc C dX1_forget_36 (k := 1) (v := x_405533) rfl hx_405533 (by decide) (lo2 := [(1, .int x_405533), (0, .ref x)]) rfl ?_
        refine g_goto C (tgt := 23) dX1_forget_39 (by decide) ?_
        refine g_lo (is := [1, 0]) (lo2 := [(0, .ref x), (1, .int x_405533)]) rfl ?_
        exact ih_23 I_405530 J_405521 hU_405531 hF_405532 hG_405524 x_405533 (rg_w rx_405533 (by decide) (by decide)) (ms_1 hm_405526 (ti_k tx_405533 rc_1) (by decide))
  have l_2 : ∀ (n_2 : Nat) (I_405534 : Nat → Nat → Int32) (J_405535 : Nat → Nat → Int64) (hU_405536 : Uv L κ ow I_405534) (hF_405537 : Fq L κ ow [107, 108, 109, 110, 111, 112, 16100, 16200, 16300, 16400, 16500, 16600] I I_405534) (hG_405538 : Fq L κ ow [] J J_405535) (v_405539 : Int32) (rv_405539 : Rg 0 6 v_405539) (hm_405540 : 6 < (v_405539 : Int32).toInt + (n_2 : Int)), WG p l e { frames := 0, cells := 0, slots := 0, locals := 0 } s m ([.ref x] : List Value).toArray below meth c 2 0 0 (MQ below (Qv_ D cy L κ ln R (fun I2 J2 => Uv L κ ow I2 ∧ Fq L κ ow [107, 108, 109, 110, 111, 112, 16100, 16200, 16300, 16400, 16500, 16600] I I2 ∧ Fq L κ ow [] J J2)) ([.ref x] : List Value).toArray s 0 0 (Al_ L)) D cy (Al_ L) s.heap L κ ln R I_405534 J_405535 2 [(0, .ref x), (1, .int v_405539)] [] := by
    intro n_2
    induction n_2 with
    | zero =>
      intro I_405534 J_405535 hU_405536 hF_405537 hG_405538 v_405539 rv_405539 hm_405540
      exact ms_0 rv_405539 hm_405540
    | succ n_2 ih_2 =>
      intro I_405534 J_405535 hU_405536 hF_405537 hG_405538 v_405539 rv_405539 hm_405540
      refine g_iload_n C 1 dX1_forget_2 rfl rfl ?_
      refine g_bipush C (v := 6) dX1_forget_3 (by decide) ?_
      refine g_icmp_ge C (tgt := 21) dX1_forget_5 (by decide) (fun h_405541 => ?_) (fun h_405541 => ?_)
      · skip
        have r_405542 := le_r (h_405541) rc_6 rv_405539
        refine g_iconst C (v := 0) dX1_forget_21 (by decide) ?_
        refine g_istore_n C dX1_forget_22 rfl (by decide) (lo2 := [(1, .int 0), (0, .ref x)]) rfl ?_
        refine g_lo (is := [1, 0]) (lo2 := [(0, .ref x), (1, .int 0)]) rfl ?_
        exact l_23 43 I_405534 J_405535 hU_405536 hF_405537 hG_405538 0 (rg_w rc_0 (by decide) (by decide)) (ms_s (a := 0) (b := 42) (N := 43) (rg_w rc_0 (by decide) (by decide)) (by decide))
      · skip
        have r_405543 := lt_l (hi := 5) (nle h_405541) rv_405539 rc_6 (by decide)
        refine g_aload_n C 0 dX1_forget_8 rfl rfl ?_
        refine g_getR C K hLx hkx f_1_9 hb_405478 dX1_forget_9 ?_
        refine g_iload_n C 1 dX1_forget_12 rfl rfl ?_
        refine g_iconst C (v := 0) dX1_forget_13 (by decide) ?_
        refine h_iast C K hb_405478L hb_405478k (v_405539.toNatClampNeg) (rfl) (ix_0 r_405543 (by decide)) (ix_lt r_405543 (by decide) hb_405478n (by decide)) dX1_forget_14 (fun I_405544 hI_405544 => ?_)
        have hU_405545 := uv_put hU_405536 hI_405544 (ro_a hb_405478k (by decide) hb_405478o hkx rfl) (lo := (-2147483648)) (hi := 2147483647) (rfl) (rg_all _)
        have hF_405546 := fq_puta hF_405537 hI_405544 (ro_a hb_405478k (by decide) hb_405478o hkx rfl) (by decide) (by decide)
        obtain ⟨x_405547, hx_405547, rx_405547, tx_405547⟩ := ex_add (y := 1) 1 6 r_405543 rc_1 (by decide) (by decide) (by decide) (by decide)
        refine g_iinc C dX1_forget_15 (k := 1) (v := x_405547) rfl hx_405547 (by decide) (lo2 := [(1, .int x_405547), (0, .ref x)]) rfl ?_
        refine g_goto C (tgt := 2) dX1_forget_18 (by decide) ?_
        refine g_lo (is := [1, 0]) (lo2 := [(0, .ref x), (1, .int x_405547)]) rfl ?_
        exact ih_2 I_405544 J_405535 hU_405545 hF_405546 hG_405538 x_405547 (rg_w rx_405547 (by decide) (by decide)) (ms_1 hm_405540 (ti_k tx_405547 rc_1) (by decide))
  refine g_iconst C (v := 0) dX1_forget_0 (by decide) ?_
  refine g_istore_n C dX1_forget_1 rfl (by decide) (lo2 := [(1, .int 0), (0, .ref x)]) rfl ?_
  refine g_lo (is := [1, 0]) (lo2 := [(0, .ref x), (1, .int 0)]) rfl ?_
  exact l_2 7 I J hU hF hG 0 (rg_w rc_0 (by decide) (by decide)) (ms_s (a := 0) (b := 6) (N := 7) (rg_w rc_0 (by decide) (by decide)) (by decide))
set_option maxRecDepth 100000 in
set_option maxHeartbeats 8000000 in
theorem c_X8_forget {l : Launch} {D : va_G} {cy : Nat → ClassId} {L : List Nat} {κ ln : Nat → Nat} {R : Nat → Nat → Option Nat} {I : Nat → Nat → Int32} {J : Nat → Nat → Int64} {ow : Nat → Nat × Nat} (W9 : ∀ a ∈ L, Shp L κ ln R ow a) {x : Nat} (hLx : x ∈ L) (hkx : κ x = 8) (hU : Uv L κ ow I) : CtV l yX8_forget cX8_forget 1 none { frames := 0, cells := 0, slots := 0, locals := 0 } D cy L κ ln R I J [.ref x] (fun I2 J2 => Uv L κ ow I2 ∧ Fq L κ ow [805, 806, 807, 808] I I2 ∧ Fq L κ ow [] J J2) := by
  refine CtV.of (by decide +kernel) (Nat.le_of_ble_eq_true rfl) ?_
  intro p e s m below meth c B K
  have C := B.1
  have hF : Fq L κ ow [805, 806, 807, 808] I I := fq_rf
  have hG : Fq L κ ow [] J J := fq_rf
  refine g_lo (is := [0]) (lo2 := [(0, .ref x)]) rfl ?_
  refine g_aload_n C 0 dX8_forget_0 rfl rfl ?_
  refine g_iconst C (v := 0) dX8_forget_1 (by decide) ?_
  refine h_putI C K hLx hkx f_8_28 p_8_5 dX8_forget_2 (fun I_405572 hI_405572 => ?_)
  have hU_405573 := uv_put hU hI_405572 (ro_o hkx (by decide)) (lo := 0) (hi := 7) rfl (rg_w rc_0 (by decide) (by decide))
  have hF_405574 := fq_puto hF hI_405572 hkx (by decide) (by decide)
  refine g_aload_n C 0 dX8_forget_5 rfl rfl ?_
  refine g_iconst C (v := 0) dX8_forget_6 (by decide) ?_
  refine h_putI C K hLx hkx f_8_32 p_8_6 dX8_forget_7 (fun I_405575 hI_405575 => ?_)
  have hU_405576 := uv_put hU_405573 hI_405575 (ro_o hkx (by decide)) (lo := 0) (hi := 6) rfl (rg_w rc_0 (by decide) (by decide))
  have hF_405577 := fq_puto hF_405574 hI_405575 hkx (by decide) (by decide)
  refine g_aload_n C 0 dX8_forget_10 rfl rfl ?_
  refine g_iconst C (v := 0) dX8_forget_11 (by decide) ?_
  refine h_putI C K hLx hkx f_8_35 p_8_7 dX8_forget_12 (fun I_405578 hI_405578 => ?_)
  have hU_405579 := uv_put hU_405576 hI_405578 (ro_o hkx (by decide)) (lo := (-2147483648)) (hi := 2147483647) rfl (rg_all _)
  have hF_405580 := fq_puto hF_405577 hI_405578 hkx (by decide) (by decide)
  refine g_aload_n C 0 dX8_forget_15 rfl rfl ?_
  refine g_iconst C (v := 0) dX8_forget_16 (by decide) ?_
  refine h_putI C K hLx hkx f_8_38 p_8_8 dX8_forget_17 (fun I_405581 hI_405581 => ?_)
  have hU_405582 := uv_put hU_405579 hI_405581 (ro_o hkx (by decide)) (lo := (-2147483648)) (hi := 2147483647) rfl (rg_all _)
  have hF_405583 := fq_puto hF_405580 hI_405581 hkx (by decide) (by decide)
  exact g_vret B K rfl ⟨hU_405582, hF_405583, hG⟩ dX8_forget_20
set_option maxRecDepth 100000 in
set_option maxHeartbeats 8000000 in
theorem c_X10_fail {l : Launch} {D : va_G} {cy : Nat → ClassId} {L : List Nat} {κ ln : Nat → Nat} {R : Nat → Nat → Option Nat} {I : Nat → Nat → Int32} {J : Nat → Nat → Int64} {ow : Nat → Nat × Nat} (W9 : ∀ a ∈ L, Shp L κ ln R ow a) {x : Nat} (hLx : x ∈ L) (hkx : κ x = 10) (a0 : Int32) (ra0 : Rg 1 4 a0) (hU : Uv L κ ow I) : CtI l yX10_fail cX10_fail 2 (some .boolean) { frames := 0, cells := 0, slots := 0, locals := 0 } D cy L κ ln R I J [.ref x, .int a0] (fun r I2 J2 => Uv L κ ow I2 ∧ Fq L κ ow [1011, 1012] I I2 ∧ Fq L κ ow [] J J2 ∧ Rg 0 0 r) := by
  refine CtI.of (by decide +kernel) (Nat.le_of_ble_eq_true rfl) ?_
  intro p e s m below meth c B K
  have C := B.1
  have hF : Fq L κ ow [1011, 1012] I I := fq_rf
  have hG : Fq L κ ow [] J J := fq_rf
  refine g_lo (is := [0, 1]) (lo2 := [(0, .ref x), (1, .int a0)]) rfl ?_
  refine g_aload_n C 0 dX10_fail_0 rfl rfl ?_
  obtain ⟨x_405606, hx_405606, rx_405606⟩ := ex_get (I := I) (a := x) (j := 11) (lo := (-2147483648)) (hi := 2147483647) hU hLx (ro_o hkx (by decide)) rfl
  refine g_getI C K hLx hkx f_10_49 (v := x_405606) hx_405606 dX10_fail_1 ?_
  refine g_if_ne C (tgt := 20) dX10_fail_4 (by decide) (fun h_405607 => ?_) (fun h_405607 => ?_)
  · skip
    have n_405608 : ¬ x_405606 = 0 := h_405607
    refine g_iconst C (v := 0) dX10_fail_20 (by decide) ?_
    exact g_zret (ty := .boolean) (r := 0) B K rfl (rfl) ⟨hU, hF, hG, rc_0⟩ dX10_fail_21
  · skip
    have r_405609 := (⟨(eq_rg (h_405607) rc_0).1, (eq_rg (h_405607) rc_0).2⟩ : Rg 0 0 x_405606)
    refine g_aload_n C 0 dX10_fail_7 rfl rfl ?_
    refine g_iload_n C 1 dX10_fail_8 rfl rfl ?_
    refine h_putI C K hLx hkx f_10_49 p_10_11 dX10_fail_9 (fun I_405610 hI_405610 => ?_)
    have hU_405611 := uv_put hU hI_405610 (ro_o hkx (by decide)) (lo := (-2147483648)) (hi := 2147483647) rfl (rg_all _)
    have hF_405612 := fq_puto hF hI_405610 hkx (by decide) (by decide)
    refine g_aload_n C 0 dX10_fail_12 rfl rfl ?_
    refine g_aload_n C 0 dX10_fail_13 rfl rfl ?_
    obtain ⟨x_405613, hx_405613, rx_405613⟩ := ex_get (I := I_405610) (a := x) (j := 9) (lo := (-2147483648)) (hi := 2147483647) hU_405611 hLx (ro_o hkx (by decide)) rfl
    refine g_getI C K hLx hkx f_10_42 (v := x_405613) hx_405613 dX10_fail_14 ?_
    refine h_putI C K hLx hkx f_10_52 p_10_12 dX10_fail_17 (fun I_405614 hI_405614 => ?_)
    have hU_405615 := uv_put hU_405611 hI_405614 (ro_o hkx (by decide)) (lo := (-2147483648)) (hi := 2147483647) rfl (rx_405613)
    have hF_405616 := fq_puto hF_405612 hI_405614 hkx (by decide) (by decide)
    refine g_iconst C (v := 0) dX10_fail_20 (by decide) ?_
    exact g_zret (ty := .boolean) (r := 0) B K rfl (rfl) ⟨hU_405615, hF_405616, hG, rc_0⟩ dX10_fail_21
set_option maxRecDepth 100000 in
set_option maxHeartbeats 8000000 in
theorem c_X10_take {l : Launch} {D : va_G} {cy : Nat → ClassId} {L : List Nat} {κ ln : Nat → Nat} {R : Nat → Nat → Option Nat} {I : Nat → Nat → Int32} {J : Nat → Nat → Int64} {ow : Nat → Nat × Nat} (W9 : ∀ a ∈ L, Shp L κ ln R ow a) {x : Nat} (hLx : x ∈ L) (hkx : κ x = 10) (a0 : Int32) (ra0 : Rg 41 102 a0) (hU : Uv L κ ow I) : CtI l yX10_take cX10_take 2 (some .boolean) { frames := 1, cells := 0, slots := 0, locals := 21 } D cy L κ ln R I J [.ref x, .int a0] (fun r I2 J2 => Uv L κ ow I2 ∧ Fq L κ ow [1007, 1008, 1009, 1011, 1012] I I2 ∧ Fq L κ ow [1010] J J2 ∧ Rg 0 1 r) := by
  refine CtI.of (by decide +kernel) (Nat.le_of_ble_eq_true rfl) ?_
  intro p e s m below meth c B K
  have C := B.1
  have hF : Fq L κ ow [1007, 1008, 1009, 1011, 1012] I I := fq_rf
  have hG : Fq L κ ow [1010] J J := fq_rf
  refine g_lo (is := [0, 1]) (lo2 := [(0, .ref x), (1, .int a0)]) rfl ?_
  refine g_aload_n C 0 dX10_take_0 rfl rfl ?_
  obtain ⟨x_405647, hx_405647, rx_405647⟩ := ex_get (I := I) (a := x) (j := 8) (lo := (-2147483648)) (hi := 2147483647) hU hLx (ro_o hkx (by decide)) rfl
  refine g_getI C K hLx hkx f_10_39 (v := x_405647) hx_405647 dX10_take_1 ?_
  refine g_iload_n C 1 dX10_take_4 rfl rfl ?_
  refine g_icmp_eq C (tgt := 14) dX10_take_5 (by decide) (fun h_405648 => ?_) (fun h_405648 => ?_)
  · skip
    have r_405649 := (⟨(eq_rg (h_405648) ra0).1, (eq_rg (h_405648) ra0).2⟩ : Rg 41 102 x_405647)
    refine g_aload_n C 0 dX10_take_14 rfl rfl ?_
    refine g_callVV C K (c_X10_advance W9 hLx hkx   hU) hLx hkx (by decide) rfl v_10_84 rfl ⟨rfl, rfl⟩ ⟨Nat.le_of_ble_eq_true rfl, Nat.le_of_ble_eq_true rfl⟩ (Nat.le_of_ble_eq_true rfl) ⟨Nat.le_of_ble_eq_true rfl, Nat.le_of_ble_eq_true rfl⟩ dX10_take_15 rfl (st := []) (fun I_405651 J_405652 h_405653 => ?_)
    obtain ⟨hUI_405651, hFI_405651, hGJ_405652⟩ := h_405653
    have hF_405654 := fq_tr hF hFI_405651 (by decide)
    have hG_405655 := fq_tr hG hGJ_405652 (by decide)
    refine g_iconst C (v := 1) dX10_take_18 (by decide) ?_
    exact g_zret (ty := .boolean) (r := 1) B K rfl (rfl) ⟨hUI_405651, hF_405654, hG_405655, rg_w rc_1 (by decide) (by decide)⟩ dX10_take_19
  · skip
    refine g_aload_n C 0 dX10_take_8 rfl rfl ?_
    refine g_iconst C (v := 1) dX10_take_9 (by decide) ?_
    refine g_callVI C K (c_X10_fail W9 hLx hkx 1 (rg_w rc_1 (by decide) (by decide)) hU) hLx hkx (by decide) rfl v_10_101 rfl ⟨rfl, rfl⟩ ⟨Nat.le_of_ble_eq_true rfl, Nat.le_of_ble_eq_true rfl⟩ (Nat.le_of_ble_eq_true rfl) ⟨Nat.le_of_ble_eq_true rfl, Nat.le_of_ble_eq_true rfl⟩ dX10_take_10 rfl (st := []) (fun x_405656 I_405657 J_405658 h_405659 => ?_)
    obtain ⟨hUI_405657, hFI_405657, hGJ_405658, rx_405656⟩ := h_405659
    have hF_405660 := fq_tr hF hFI_405657 (by decide)
    have hG_405661 := fq_tr hG hGJ_405658 (by decide)
    exact g_zret (ty := .boolean) (r := x_405656) B K rfl (nar_z (rg_w rx_405656 (by decide) (by decide))) ⟨hUI_405657, hF_405660, hG_405661, rg_w rx_405656 (by decide) (by decide)⟩ dX10_take_13
set_option maxRecDepth 100000 in
set_option maxHeartbeats 8000000 in
theorem c_X10_takeNumber {l : Launch} {D : va_G} {cy : Nat → ClassId} {L : List Nat} {κ ln : Nat → Nat} {R : Nat → Nat → Option Nat} {I : Nat → Nat → Int32} {J : Nat → Nat → Int64} {ow : Nat → Nat × Nat} (W9 : ∀ a ∈ L, Shp L κ ln R ow a) {x : Nat} (hLx : x ∈ L) (hkx : κ x = 10) (a0 : Int32) (a1 : Int32) (ra0 : Rg 0 1 a0) (ra1 : Rg 9 999 a1) (hU : Uv L κ ow I) : CtI l yX10_takeNumber cX10_takeNumber 4 (some .int) { frames := 1, cells := 0, slots := 0, locals := 21 } D cy L κ ln R I J [.ref x, .int a0, .int a1] (fun r I2 J2 => Uv L κ ow I2 ∧ Fq L κ ow [1007, 1008, 1009, 1011, 1012] I I2 ∧ Fq L κ ow [1010] J J2 ∧ Rg (-2147483648) 2147483647 r) := by
  refine CtI.of (by decide +kernel) (Nat.le_of_ble_eq_true rfl) ?_
  intro p e s m below meth c B K
  have C := B.1
  have hF : Fq L κ ow [1007, 1008, 1009, 1011, 1012] I I := fq_rf
  have hG : Fq L κ ow [1010] J J := fq_rf
  refine g_lo (is := [0, 1, 2]) (lo2 := [(0, .ref x), (1, .int a0), (2, .int a1)]) rfl ?_
  have j_37 : ∀ (I_405734 : Nat → Nat → Int32) (J_405735 : Nat → Nat → Int64) (hU_405736 : Uv L κ ow I_405734) (hF_405737 : Fq L κ ow [1007, 1008, 1009, 1011, 1012] I I_405734) (hG_405738 : Fq L κ ow [1010] J J_405735) (v_405739 : Int32) (rv_405739 : Rg 0 1 v_405739) (v_405740 : Int32) (rv_405740 : Rg 9 999 v_405740) (v_405741 : Int32) (rv_405741 : Rg 101 101 v_405741) (q_405742 : I_405734 x 8 = v_405741), WG p l e { frames := 1, cells := 0, slots := 0, locals := 21 } s m ([.ref x, .int a0, .int a1] : List Value).toArray below meth c 4 0 0 (MQ below (Qi_ D cy L κ ln R (fun r I2 J2 => Uv L κ ow I2 ∧ Fq L κ ow [1007, 1008, 1009, 1011, 1012] I I2 ∧ Fq L κ ow [1010] J J2 ∧ Rg (-2147483648) 2147483647 r)) ([.ref x, .int a0, .int a1] : List Value).toArray s 0 0 (Al_ L)) D cy (Al_ L) s.heap L κ ln R I_405734 J_405735 37 [(0, .ref x), (1, .int v_405739), (2, .int v_405740)] [] := by
    intro I_405734 J_405735 hU_405736 hF_405737 hG_405738 v_405739 rv_405739 v_405740 rv_405740 v_405741 rv_405741 q_405742
    refine g_aload_n C 0 dX10_takeNumber_37 rfl rfl ?_
    refine g_iconst C (v := 2) dX10_takeNumber_38 (by decide) ?_
    refine g_callVI C K (c_X10_fail W9 hLx hkx 2 (rg_w rc_2 (by decide) (by decide)) hU_405736) hLx hkx (by decide) rfl v_10_101 rfl ⟨rfl, rfl⟩ ⟨Nat.le_of_ble_eq_true rfl, Nat.le_of_ble_eq_true rfl⟩ (Nat.le_of_ble_eq_true rfl) ⟨Nat.le_of_ble_eq_true rfl, Nat.le_of_ble_eq_true rfl⟩ dX10_takeNumber_39 rfl (st := []) (fun x_405743 I_405744 J_405745 h_405746 => ?_)
    obtain ⟨hUI_405744, hFI_405744, hGJ_405745, rx_405743⟩ := h_405746
    have hF_405747 := fq_tr hF_405737 hFI_405744 (by decide)
    have hG_405748 := fq_tr hG_405738 hGJ_405745 (by decide)
    refine g_pop C dX10_takeNumber_42 rfl ?_
    refine g_iconst C (v := (-1)) dX10_takeNumber_43 (by decide) ?_
    exact g_zret (ty := .int) (r := (-1)) B K rfl (rfl) ⟨hUI_405744, hF_405747, hG_405748, rg_all _⟩ dX10_takeNumber_44
  refine g_aload_n C 0 dX10_takeNumber_0 rfl rfl ?_
  obtain ⟨x_405749, hx_405749, rx_405749⟩ := ex_get (I := I) (a := x) (j := 8) (lo := (-2147483648)) (hi := 2147483647) hU hLx (ro_o hkx (by decide)) rfl
  refine g_getI C K hLx hkx f_10_39 (v := x_405749) hx_405749 dX10_takeNumber_1 ?_
  refine g_bipush C (v := 101) dX10_takeNumber_4 (by decide) ?_
  refine g_icmp_eq C (tgt := 17) dX10_takeNumber_6 (by decide) (fun h_405750 => ?_) (fun h_405750 => ?_)
  · skip
    have r_405751 := (⟨(eq_rg (h_405750) rc_101).1, (eq_rg (h_405750) rc_101).2⟩ : Rg 101 101 x_405749)
    refine g_aload_n C 0 dX10_takeNumber_17 rfl rfl ?_
    obtain ⟨y_405752, hy_405752⟩ : ∃ z, J x 10 = z := ⟨_, rfl⟩
    refine g_getJ C K hLx hkx f_10_45 (v := y_405752) hy_405752 dX10_takeNumber_18 ?_
    refine g_iload_n C 1 dX10_takeNumber_21 rfl rfl ?_
    obtain ⟨y_405753, hy_405753⟩ : ∃ z, Int32.toInt64 a0 = z := ⟨_, rfl⟩
    refine g_i2l C (v := y_405753) dX10_takeNumber_22 hy_405753 ?_
    refine g_lcmp C dX10_takeNumber_23 (fun x_405754 rx_405754 => ?_)
    refine g_if_lt C (tgt := 37) dX10_takeNumber_24 (by decide) (fun h_405755 => ?_) (fun h_405755 => ?_)
    · skip
      have r_405756 := lt_l (hi := (-1)) (h_405755) rx_405754 rc_0 (by decide)
      refine g_lo (is := [0, 1, 2]) (lo2 := [(0, .ref x), (1, .int a0), (2, .int a1)]) rfl ?_
      exact j_37 I J hU hF hG a0 (ra0) a1 (ra1) x_405749 (r_405751) hx_405749
    · skip
      have r_405757 := le_r (nlt h_405755) rc_0 rx_405754
      refine g_aload_n C 0 dX10_takeNumber_27 rfl rfl ?_
      obtain ⟨y_405758, hy_405758⟩ : ∃ z, J x 10 = z := ⟨_, rfl⟩
      refine g_getJ C K hLx hkx f_10_45 (v := y_405758) hy_405758 dX10_takeNumber_28 ?_
      refine g_iload_n C 2 dX10_takeNumber_31 rfl rfl ?_
      obtain ⟨y_405759, hy_405759⟩ : ∃ z, Int32.toInt64 a1 = z := ⟨_, rfl⟩
      refine g_i2l C (v := y_405759) dX10_takeNumber_32 hy_405759 ?_
      refine g_lcmp C dX10_takeNumber_33 (fun x_405760 rx_405760 => ?_)
      refine g_if_le C (tgt := 45) dX10_takeNumber_34 (by decide) (fun h_405761 => ?_) (fun h_405761 => ?_)
      · skip
        have r_405762 := le_l (h_405761) rx_405760 rc_0
        refine g_aload_n C 0 dX10_takeNumber_45 rfl rfl ?_
        obtain ⟨y_405763, hy_405763⟩ : ∃ z, J x 10 = z := ⟨_, rfl⟩
        refine g_getJ C K hLx hkx f_10_45 (v := y_405763) hy_405763 dX10_takeNumber_46 ?_
        obtain ⟨x_405764, hx_405764, rx_405764⟩ := ex_any (z0 := Int64.toInt32 y_405763)
        refine g_l2i C (v := x_405764) dX10_takeNumber_49 hx_405764 ?_
        refine g_istore_n C dX10_takeNumber_50 rfl (by decide) (lo2 := [(3, .int x_405764), (0, .ref x), (1, .int a0), (2, .int a1)]) rfl ?_
        refine g_aload_n C 1 dX10_takeNumber_51 rfl rfl ?_
        refine g_callVV C K (c_X10_advance W9 hLx hkx   hU) hLx hkx (by decide) rfl v_10_84 rfl ⟨rfl, rfl⟩ ⟨Nat.le_of_ble_eq_true rfl, Nat.le_of_ble_eq_true rfl⟩ (Nat.le_of_ble_eq_true rfl) ⟨Nat.le_of_ble_eq_true rfl, Nat.le_of_ble_eq_true rfl⟩ dX10_takeNumber_52 rfl (st := []) (fun I_405766 J_405767 h_405768 => ?_)
        obtain ⟨hUI_405766, hFI_405766, hGJ_405767⟩ := h_405768
        have hF_405769 := fq_tr hF hFI_405766 (by decide)
        have hG_405770 := fq_tr hG hGJ_405767 (by decide)
        refine g_iload_n C 0 dX10_takeNumber_55 rfl rfl ?_
        exact g_zret (ty := .int) (r := x_405764) B K rfl (rfl) ⟨hUI_405766, hF_405769, hG_405770, rx_405764⟩ dX10_takeNumber_56
      · skip
        have r_405771 := lt_r (lo := 1) (nle h_405761) rc_0 rx_405760 (by decide)
        refine g_lo (is := [0, 1, 2]) (lo2 := [(0, .ref x), (1, .int a0), (2, .int a1)]) rfl ?_
        exact j_37 I J hU hF hG a0 (ra0) a1 (ra1) x_405749 (r_405751) hx_405749
  · skip
    have n_405772 : ¬ x_405749 = 101 := h_405750
    refine g_aload_n C 0 dX10_takeNumber_9 rfl rfl ?_
    refine g_iconst C (v := 1) dX10_takeNumber_10 (by decide) ?_
    refine g_callVI C K (c_X10_fail W9 hLx hkx 1 (rg_w rc_1 (by decide) (by decide)) hU) hLx hkx (by decide) rfl v_10_101 rfl ⟨rfl, rfl⟩ ⟨Nat.le_of_ble_eq_true rfl, Nat.le_of_ble_eq_true rfl⟩ (Nat.le_of_ble_eq_true rfl) ⟨Nat.le_of_ble_eq_true rfl, Nat.le_of_ble_eq_true rfl⟩ dX10_takeNumber_11 rfl (st := []) (fun x_405773 I_405774 J_405775 h_405776 => ?_)
    obtain ⟨hUI_405774, hFI_405774, hGJ_405775, rx_405773⟩ := h_405776
    have hF_405777 := fq_tr hF hFI_405774 (by decide)
    have hG_405778 := fq_tr hG hGJ_405775 (by decide)
    refine g_pop C dX10_takeNumber_14 rfl ?_
    refine g_iconst C (v := (-1)) dX10_takeNumber_15 (by decide) ?_
    exact g_zret (ty := .int) (r := (-1)) B K rfl (rfl) ⟨hUI_405774, hF_405777, hG_405778, rg_all _⟩ dX10_takeNumber_16
set_option maxRecDepth 100000 in
set_option maxHeartbeats 8000000 in
theorem c_X8_dishNamed {l : Launch} {D : va_G} {cy : Nat → ClassId} {L : List Nat} {κ ln : Nat → Nat} {R : Nat → Nat → Option Nat} {I : Nat → Nat → Int32} {J : Nat → Nat → Int64} {ow : Nat → Nat × Nat} (W9 : ∀ a ∈ L, Shp L κ ln R ow a) {x : Nat} (hLx : x ∈ L) (hkx : κ x = 8) (a0 : Int64) (hU : Uv L κ ow I) : CtI l yX8_dishNamed cX8_dishNamed 4 (some .int) { frames := 0, cells := 0, slots := 0, locals := 0 } D cy L κ ln R I J [.ref x, .long a0] (fun r I2 J2 => I = I2 ∧ J = J2 ∧ Rg (-1) 5 r) := by
  refine CtI.of (by decide +kernel) (Nat.le_of_ble_eq_true rfl) ?_
  intro p e s m below meth c B K
  have C := B.1
  obtain ⟨b_405859, hb_405859, hb_405859L, hb_405859k, hb_405859n, hb_405859o⟩ := shp_a (W9 x hLx) hkx 3 15 6 rfl (by decide)
  refine g_lo (is := [0, 1]) (lo2 := [(0, .ref x), (1, .long a0)]) rfl ?_
  have l_2 : ∀ (n_2 : Nat) (y_405860 : Int64) (v_405861 : Int32) (rv_405861 : Rg 0 6 v_405861) (hm_405862 : 6 < (v_405861 : Int32).toInt + (n_2 : Int)), WG p l e { frames := 0, cells := 0, slots := 0, locals := 0 } s m ([.ref x, .long a0] : List Value).toArray below meth c 4 0 0 (MQ below (Qi_ D cy L κ ln R (fun r I2 J2 => I = I2 ∧ J = J2 ∧ Rg (-1) 5 r)) ([.ref x, .long a0] : List Value).toArray s 0 0 (Al_ L)) D cy (Al_ L) s.heap L κ ln R I J 2 [(0, .ref x), (1, .long y_405860), (3, .int v_405861)] [] := by
    intro n_2
    induction n_2 with
    | zero =>
      intro y_405860 v_405861 rv_405861 hm_405862
      exact ms_0 rv_405861 hm_405862
    | succ n_2 ih_2 =>
      intro y_405860 v_405861 rv_405861 hm_405862
      refine g_iload_n C 2 dX8_dishNamed_2 rfl rfl ?_
      refine g_aload_n C 0 dX8_dishNamed_3 rfl rfl ?_
      obtain ⟨x_405863, hx_405863, rx_405863⟩ := ex_get (I := I) (a := x) (j := 6) (lo := 0) (hi := 6) hU hLx (ro_o hkx (by decide)) rfl
      refine g_getI C K hLx hkx f_8_32 (v := x_405863) hx_405863 dX8_dishNamed_4 ?_
      refine g_icmp_ge C (tgt := 29) dX8_dishNamed_7 (by decide) (fun h_405864 => ?_) (fun h_405864 => ?_)
      · skip
        refine g_iconst C (v := (-1)) dX8_dishNamed_29 (by decide) ?_
        exact g_zret (ty := .int) (r := (-1)) B K rfl (rfl) ⟨rfl, rfl, rg_w rc_m1 (by decide) (by decide)⟩ dX8_dishNamed_30
      · skip
        have r_405865 := lt_l (hi := 5) (nle h_405864) rv_405861 rx_405863 (by decide)
        have r_405866 := lt_r (lo := 1) (nle h_405864) rv_405861 rx_405863 (by decide)
        refine g_aload_n C 0 dX8_dishNamed_10 rfl rfl ?_
        refine g_getR C K hLx hkx f_8_22 hb_405859 dX8_dishNamed_11 ?_
        refine g_iload_n C 2 dX8_dishNamed_14 rfl rfl ?_
        obtain ⟨y_405867, hy_405867⟩ : ∃ z, J b_405859 (v_405861.toNatClampNeg) = z := ⟨_, rfl⟩
        refine h_lald C K hb_405859L hb_405859k (v := y_405867) (v_405861.toNatClampNeg) (rfl) (ix_0 r_405865 (by decide)) (ix_lt r_405865 (by decide) hb_405859n (by decide)) hy_405867 dX8_dishNamed_15 ?_
        refine g_lload_n C 1 dX8_dishNamed_16 rfl rfl ?_
        refine g_lcmp C dX8_dishNamed_17 (fun x_405868 rx_405868 => ?_)
        refine g_if_ne C (tgt := 23) dX8_dishNamed_18 (by decide) (fun h_405869 => ?_) (fun h_405869 => ?_)
        · skip
          have n_405870 : ¬ x_405868 = 0 := h_405869
          obtain ⟨x_405871, hx_405871, rx_405871, tx_405871⟩ := ex_add (y := 1) 1 6 r_405865 rc_1 (by decide) (by decide) (by decide) (by decide)
          refine g_iinc C dX8_dishNamed_23 (k := 2) (v := x_405871) rfl hx_405871 (by decide) (lo2 := [(3, .int x_405871), (0, .ref x), (1, .long y_405860)]) rfl ?_
          refine g_goto C (tgt := 2) dX8_dishNamed_26 (by decide) ?_
          refine g_lo (is := [1, 2, 0]) (lo2 := [(0, .ref x), (1, .long y_405860), (3, .int x_405871)]) rfl ?_
          exact ih_2 y_405860 x_405871 (rg_w rx_405871 (by decide) (by decide)) (ms_1 hm_405862 (ti_k tx_405871 rc_1) (by decide))
        · skip
          have r_405872 := (⟨(eq_rg (h_405869) rc_0).1, (eq_rg (h_405869) rc_0).2⟩ : Rg 0 0 x_405868)
          refine g_iload_n C 2 dX8_dishNamed_21 rfl rfl ?_
          exact g_zret (ty := .int) (r := v_405861) B K rfl (rfl) ⟨rfl, rfl, rg_w r_405865 (by decide) (by decide)⟩ dX8_dishNamed_22
  refine g_iconst C (v := 0) dX8_dishNamed_0 (by decide) ?_
  refine g_istore_n C dX8_dishNamed_1 rfl (by decide) (lo2 := [(3, .int 0), (0, .ref x), (1, .long a0)]) rfl ?_
  refine g_lo (is := [1, 2, 0]) (lo2 := [(0, .ref x), (1, .long a0), (3, .int 0)]) rfl ?_
  exact l_2 7 a0 0 (rg_w rc_0 (by decide) (by decide)) (ms_s (a := 0) (b := 6) (N := 7) (rg_w rc_0 (by decide) (by decide)) (by decide))
set_option maxRecDepth 100000 in
set_option maxHeartbeats 8000000 in
theorem c_X8_personNamed {l : Launch} {D : va_G} {cy : Nat → ClassId} {L : List Nat} {κ ln : Nat → Nat} {R : Nat → Nat → Option Nat} {I : Nat → Nat → Int32} {J : Nat → Nat → Int64} {ow : Nat → Nat × Nat} (W9 : ∀ a ∈ L, Shp L κ ln R ow a) {x : Nat} (hLx : x ∈ L) (hkx : κ x = 8) (a0 : Int64) (hU : Uv L κ ow I) : CtI l yX8_personNamed cX8_personNamed 4 (some .int) { frames := 0, cells := 0, slots := 0, locals := 0 } D cy L κ ln R I J [.ref x, .long a0] (fun r I2 J2 => I = I2 ∧ J = J2 ∧ Rg (-1) 6 r) := by
  refine CtI.of (by decide +kernel) (Nat.le_of_ble_eq_true rfl) ?_
  intro p e s m below meth c B K
  have C := B.1
  obtain ⟨b_405963, hb_405963, hb_405963L, hb_405963k, hb_405963n, hb_405963o⟩ := shp_a (W9 x hLx) hkx 0 15 7 rfl (by decide)
  refine g_lo (is := [0, 1]) (lo2 := [(0, .ref x), (1, .long a0)]) rfl ?_
  have l_2 : ∀ (n_2 : Nat) (y_405964 : Int64) (v_405965 : Int32) (rv_405965 : Rg 0 7 v_405965) (hm_405966 : 7 < (v_405965 : Int32).toInt + (n_2 : Int)), WG p l e { frames := 0, cells := 0, slots := 0, locals := 0 } s m ([.ref x, .long a0] : List Value).toArray below meth c 4 0 0 (MQ below (Qi_ D cy L κ ln R (fun r I2 J2 => I = I2 ∧ J = J2 ∧ Rg (-1) 6 r)) ([.ref x, .long a0] : List Value).toArray s 0 0 (Al_ L)) D cy (Al_ L) s.heap L κ ln R I J 2 [(0, .ref x), (1, .long y_405964), (3, .int v_405965)] [] := by
    intro n_2
    induction n_2 with
    | zero =>
      intro y_405964 v_405965 rv_405965 hm_405966
      exact ms_0 rv_405965 hm_405966
    | succ n_2 ih_2 =>
      intro y_405964 v_405965 rv_405965 hm_405966
      refine g_iload_n C 2 dX8_personNamed_2 rfl rfl ?_
      refine g_aload_n C 0 dX8_personNamed_3 rfl rfl ?_
      obtain ⟨x_405967, hx_405967, rx_405967⟩ := ex_get (I := I) (a := x) (j := 5) (lo := 0) (hi := 7) hU hLx (ro_o hkx (by decide)) rfl
      refine g_getI C K hLx hkx f_8_28 (v := x_405967) hx_405967 dX8_personNamed_4 ?_
      refine g_icmp_ge C (tgt := 29) dX8_personNamed_7 (by decide) (fun h_405968 => ?_) (fun h_405968 => ?_)
      · skip
        refine g_iconst C (v := (-1)) dX8_personNamed_29 (by decide) ?_
        exact g_zret (ty := .int) (r := (-1)) B K rfl (rfl) ⟨rfl, rfl, rg_w rc_m1 (by decide) (by decide)⟩ dX8_personNamed_30
      · skip
        have r_405969 := lt_l (hi := 6) (nle h_405968) rv_405965 rx_405967 (by decide)
        have r_405970 := lt_r (lo := 1) (nle h_405968) rv_405965 rx_405967 (by decide)
        refine g_aload_n C 0 dX8_personNamed_10 rfl rfl ?_
        refine g_getR C K hLx hkx f_8_9 hb_405963 dX8_personNamed_11 ?_
        refine g_iload_n C 2 dX8_personNamed_14 rfl rfl ?_
        obtain ⟨y_405971, hy_405971⟩ : ∃ z, J b_405963 (v_405965.toNatClampNeg) = z := ⟨_, rfl⟩
        refine h_lald C K hb_405963L hb_405963k (v := y_405971) (v_405965.toNatClampNeg) (rfl) (ix_0 r_405969 (by decide)) (ix_lt r_405969 (by decide) hb_405963n (by decide)) hy_405971 dX8_personNamed_15 ?_
        refine g_lload_n C 1 dX8_personNamed_16 rfl rfl ?_
        refine g_lcmp C dX8_personNamed_17 (fun x_405972 rx_405972 => ?_)
        refine g_if_ne C (tgt := 23) dX8_personNamed_18 (by decide) (fun h_405973 => ?_) (fun h_405973 => ?_)
        · skip
          have n_405974 : ¬ x_405972 = 0 := h_405973
          obtain ⟨x_405975, hx_405975, rx_405975, tx_405975⟩ := ex_add (y := 1) 1 7 r_405969 rc_1 (by decide) (by decide) (by decide) (by decide)
          refine g_iinc C dX8_personNamed_23 (k := 2) (v := x_405975) rfl hx_405975 (by decide) (lo2 := [(3, .int x_405975), (0, .ref x), (1, .long y_405964)]) rfl ?_
          refine g_goto C (tgt := 2) dX8_personNamed_26 (by decide) ?_
          refine g_lo (is := [1, 2, 0]) (lo2 := [(0, .ref x), (1, .long y_405964), (3, .int x_405975)]) rfl ?_
          exact ih_2 y_405964 x_405975 (rg_w rx_405975 (by decide) (by decide)) (ms_1 hm_405966 (ti_k tx_405975 rc_1) (by decide))
        · skip
          have r_405976 := (⟨(eq_rg (h_405973) rc_0).1, (eq_rg (h_405973) rc_0).2⟩ : Rg 0 0 x_405972)
          refine g_iload_n C 2 dX8_personNamed_21 rfl rfl ?_
          exact g_zret (ty := .int) (r := v_405965) B K rfl (rfl) ⟨rfl, rfl, rg_w r_405969 (by decide) (by decide)⟩ dX8_personNamed_22
  refine g_iconst C (v := 0) dX8_personNamed_0 (by decide) ?_
  refine g_istore_n C dX8_personNamed_1 rfl (by decide) (lo2 := [(3, .int 0), (0, .ref x), (1, .long a0)]) rfl ?_
  refine g_lo (is := [1, 2, 0]) (lo2 := [(0, .ref x), (1, .long a0), (3, .int 0)]) rfl ?_
  exact l_2 8 a0 0 (rg_w rc_0 (by decide) (by decide)) (ms_s (a := 0) (b := 7) (N := 8) (rg_w rc_0 (by decide) (by decide)) (by decide))
set_option maxRecDepth 100000 in
set_option maxHeartbeats 8000000 in
theorem c_X9_newName {l : Launch} {D : va_G} {cy : Nat → ClassId} {L : List Nat} {κ ln : Nat → Nat} {R : Nat → Nat → Option Nat} {I : Nat → Nat → Int32} {J : Nat → Nat → Int64} {ow : Nat → Nat × Nat} (W9 : ∀ a ∈ L, Shp L κ ln R ow a) {x : Nat} (hLx : x ∈ L) (hkx : κ x = 9) {a0 : Nat} (hLa0 : a0 ∈ L) (hka0 : κ a0 = 10) (hU : Uv L κ ow I) : CtI l yX9_newName cX9_newName 2 (some .boolean) { frames := 1, cells := 0, slots := 0, locals := 23 } D cy L κ ln R I J [.ref x, .ref a0] (fun r I2 J2 => Uv L κ ow I2 ∧ Fq L κ ow [1007, 1008, 1009, 1011, 1012] I I2 ∧ Fq L κ ow [1010] J J2 ∧ Rg 0 1 r) := by
  refine CtI.of (by decide +kernel) (Nat.le_of_ble_eq_true rfl) ?_
  intro p e s m below meth c B K
  have C := B.1
  have hF : Fq L κ ow [1007, 1008, 1009, 1011, 1012] I I := fq_rf
  have hG : Fq L κ ow [1010] J J := fq_rf
  obtain ⟨b_406059, hb_406059, hb_406059L, hb_406059k⟩ := shp_o (W9 x hLx) hkx 0 8 rfl (by decide)
  refine g_lo (is := [0, 1]) (lo2 := [(0, .ref x), (1, .ref a0)]) rfl ?_
  have j_45 : ∀ (I_406060 : Nat → Nat → Int32) (J_406061 : Nat → Nat → Int64) (hU_406062 : Uv L κ ow I_406060) (hF_406063 : Fq L κ ow [1007, 1008, 1009, 1011, 1012] I I_406060) (hG_406064 : Fq L κ ow [1010] J J_406061) (v_406065 : Int32) (rv_406065 : Rg 100 100 v_406065) (q_406066 : I_406060 a0 8 = v_406065), WG p l e { frames := 1, cells := 0, slots := 0, locals := 23 } s m ([.ref x, .ref a0] : List Value).toArray below meth c 2 0 0 (MQ below (Qi_ D cy L κ ln R (fun r I2 J2 => Uv L κ ow I2 ∧ Fq L κ ow [1007, 1008, 1009, 1011, 1012] I I2 ∧ Fq L κ ow [1010] J J2 ∧ Rg 0 1 r)) ([.ref x, .ref a0] : List Value).toArray s 0 0 (Al_ L)) D cy (Al_ L) s.heap L κ ln R I_406060 J_406061 45 [(0, .ref x), (1, .ref a0)] [] := by
    intro I_406060 J_406061 hU_406062 hF_406063 hG_406064 v_406065 rv_406065 q_406066
    refine g_aload_n C 1 dX9_newName_45 rfl rfl ?_
    refine g_iconst C (v := 3) dX9_newName_46 (by decide) ?_
    refine g_callVI C K (c_X10_fail W9 hLa0 hka0 3 (rg_w rc_3 (by decide) (by decide)) hU_406062) hLa0 hka0 (by decide) rfl v_9_67 rfl ⟨rfl, rfl⟩ ⟨Nat.le_of_ble_eq_true rfl, Nat.le_of_ble_eq_true rfl⟩ (Nat.le_of_ble_eq_true rfl) ⟨Nat.le_of_ble_eq_true rfl, Nat.le_of_ble_eq_true rfl⟩ dX9_newName_47 rfl (st := []) (fun x_406067 I_406068 J_406069 h_406070 => ?_)
    obtain ⟨hUI_406068, hFI_406068, hGJ_406069, rx_406067⟩ := h_406070
    have hF_406071 := fq_tr hF_406063 hFI_406068 (by decide)
    have hG_406072 := fq_tr hG_406064 hGJ_406069 (by decide)
    exact g_zret (ty := .boolean) (r := x_406067) B K rfl (nar_z (rg_w rx_406067 (by decide) (by decide))) ⟨hUI_406068, hF_406071, hG_406072, rg_w rx_406067 (by decide) (by decide)⟩ dX9_newName_50
  refine g_aload_n C 1 dX9_newName_0 rfl rfl ?_
  obtain ⟨x_406073, hx_406073, rx_406073⟩ := ex_get (I := I) (a := a0) (j := 8) (lo := (-2147483648)) (hi := 2147483647) hU hLa0 (ro_o hka0 (by decide)) rfl
  refine g_getI C K hLa0 hka0 f_9_44 (v := x_406073) hx_406073 dX9_newName_1 ?_
  refine g_bipush C (v := 100) dX9_newName_4 (by decide) ?_
  refine g_icmp_eq C (tgt := 15) dX9_newName_6 (by decide) (fun h_406074 => ?_) (fun h_406074 => ?_)
  · skip
    have r_406075 := (⟨(eq_rg (h_406074) rc_100).1, (eq_rg (h_406074) rc_100).2⟩ : Rg 100 100 x_406073)
    refine g_aload_n C 0 dX9_newName_15 rfl rfl ?_
    refine g_getR C K hLx hkx f_9_12 hb_406059 dX9_newName_16 ?_
    refine g_aload_n C 1 dX9_newName_19 rfl rfl ?_
    obtain ⟨y_406076, hy_406076⟩ : ∃ z, J a0 10 = z := ⟨_, rfl⟩
    refine g_getJ C K hLa0 hka0 f_9_71 (v := y_406076) hy_406076 dX9_newName_20 ?_
    refine g_callVI C K (c_X8_personNamed W9 hb_406059L hb_406059k y_406076  hU) hb_406059L hb_406059k (by decide) rfl v_9_75 rfl ⟨rfl, rfl⟩ ⟨Nat.le_of_ble_eq_true rfl, Nat.le_of_ble_eq_true rfl⟩ (Nat.le_of_ble_eq_true rfl) ⟨Nat.le_of_ble_eq_true rfl, Nat.le_of_ble_eq_true rfl⟩ dX9_newName_23 rfl (st := []) (fun x_406077 I_406078 J_406079 h_406080 => ?_)
    obtain ⟨rfl, rfl, rx_406077⟩ := h_406080
    refine g_iconst C (v := (-1)) dX9_newName_26 (by decide) ?_
    refine g_icmp_ne C (tgt := 45) dX9_newName_27 (by decide) (fun h_406081 => ?_) (fun h_406081 => ?_)
    · skip
      have n_406082 : ¬ x_406077 = (-1) := h_406081
      have r_406083 := ne_lo (lo := 0) n_406082 rx_406077 rc_m1 rfl (by decide)
      refine g_lo (is := [0, 1]) (lo2 := [(0, .ref x), (1, .ref a0)]) rfl ?_
      exact j_45 I J hU hF hG x_406073 (r_406075) hx_406073
    · skip
      have r_406084 := (⟨(rx_406077).1, (eq_rg (h_406081) rc_m1).2⟩ : Rg (-1) (-1) x_406077)
      refine g_aload_n C 0 dX9_newName_30 rfl rfl ?_
      refine g_getR C K hLx hkx f_9_12 hb_406059 dX9_newName_31 ?_
      refine g_aload_n C 1 dX9_newName_34 rfl rfl ?_
      obtain ⟨y_406085, hy_406085⟩ : ∃ z, J a0 10 = z := ⟨_, rfl⟩
      refine g_getJ C K hLa0 hka0 f_9_71 (v := y_406085) hy_406085 dX9_newName_35 ?_
      refine g_callVI C K (c_X8_dishNamed W9 hb_406059L hb_406059k y_406085  hU) hb_406059L hb_406059k (by decide) rfl v_9_79 rfl ⟨rfl, rfl⟩ ⟨Nat.le_of_ble_eq_true rfl, Nat.le_of_ble_eq_true rfl⟩ (Nat.le_of_ble_eq_true rfl) ⟨Nat.le_of_ble_eq_true rfl, Nat.le_of_ble_eq_true rfl⟩ dX9_newName_38 rfl (st := []) (fun x_406086 I_406087 J_406088 h_406089 => ?_)
      obtain ⟨rfl, rfl, rx_406086⟩ := h_406089
      refine g_iconst C (v := (-1)) dX9_newName_41 (by decide) ?_
      refine g_icmp_eq C (tgt := 51) dX9_newName_42 (by decide) (fun h_406090 => ?_) (fun h_406090 => ?_)
      · skip
        have r_406091 := (⟨(rx_406086).1, (eq_rg (h_406090) rc_m1).2⟩ : Rg (-1) (-1) x_406086)
        refine g_aload_n C 1 dX9_newName_51 rfl rfl ?_
        refine g_callVV C K (c_X10_advance W9 hLa0 hka0   hU) hLa0 hka0 (by decide) rfl v_9_82 rfl ⟨rfl, rfl⟩ ⟨Nat.le_of_ble_eq_true rfl, Nat.le_of_ble_eq_true rfl⟩ (Nat.le_of_ble_eq_true rfl) ⟨Nat.le_of_ble_eq_true rfl, Nat.le_of_ble_eq_true rfl⟩ dX9_newName_52 rfl (st := []) (fun I_406093 J_406094 h_406095 => ?_)
        obtain ⟨hUI_406093, hFI_406093, hGJ_406094⟩ := h_406095
        have hF_406096 := fq_tr hF hFI_406093 (by decide)
        have hG_406097 := fq_tr hG hGJ_406094 (by decide)
        refine g_iconst C (v := 1) dX9_newName_55 (by decide) ?_
        exact g_zret (ty := .boolean) (r := 1) B K rfl (rfl) ⟨hUI_406093, hF_406096, hG_406097, rg_w rc_1 (by decide) (by decide)⟩ dX9_newName_56
      · skip
        have n_406098 : ¬ x_406086 = (-1) := h_406090
        have r_406099 := ne_lo (lo := 0) n_406098 rx_406086 rc_m1 rfl (by decide)
        refine g_lo (is := [0, 1]) (lo2 := [(0, .ref x), (1, .ref a0)]) rfl ?_
        exact j_45 I J hU hF hG x_406073 (r_406075) hx_406073
  · skip
    have n_406100 : ¬ x_406073 = 100 := h_406074
    refine g_aload_n C 1 dX9_newName_9 rfl rfl ?_
    refine g_iconst C (v := 1) dX9_newName_10 (by decide) ?_
    refine g_callVI C K (c_X10_fail W9 hLa0 hka0 1 (rg_w rc_1 (by decide) (by decide)) hU) hLa0 hka0 (by decide) rfl v_9_67 rfl ⟨rfl, rfl⟩ ⟨Nat.le_of_ble_eq_true rfl, Nat.le_of_ble_eq_true rfl⟩ (Nat.le_of_ble_eq_true rfl) ⟨Nat.le_of_ble_eq_true rfl, Nat.le_of_ble_eq_true rfl⟩ dX9_newName_11 rfl (st := []) (fun x_406101 I_406102 J_406103 h_406104 => ?_)
    obtain ⟨hUI_406102, hFI_406102, hGJ_406103, rx_406101⟩ := h_406104
    have hF_406105 := fq_tr hF hFI_406102 (by decide)
    have hG_406106 := fq_tr hG hGJ_406103 (by decide)
    exact g_zret (ty := .boolean) (r := x_406101) B K rfl (nar_z (rg_w rx_406101 (by decide) (by decide))) ⟨hUI_406102, hF_406105, hG_406106, rg_w rx_406101 (by decide) (by decide)⟩ dX9_newName_14
set_option maxRecDepth 100000 in
set_option maxHeartbeats 8000000 in
theorem c_X9_readDish {l : Launch} {D : va_G} {cy : Nat → ClassId} {L : List Nat} {κ ln : Nat → Nat} {R : Nat → Nat → Option Nat} {I : Nat → Nat → Int32} {J : Nat → Nat → Int64} {ow : Nat → Nat × Nat} (W9 : ∀ a ∈ L, Shp L κ ln R ow a) {x : Nat} (hLx : x ∈ L) (hkx : κ x = 9) {a0 : Nat} (hLa0 : a0 ∈ L) (hka0 : κ a0 = 10) (hU : Uv L κ ow I) : CtI l yX9_readDish cX9_readDish 6 (some .boolean) { frames := 2, cells := 0, slots := 0, locals := 44 } D cy L κ ln R I J [.ref x, .ref a0] (fun r I2 J2 => Uv L κ ow I2 ∧ Fq L κ ow [806, 1007, 1008, 1009, 1011, 1012, 16100, 58400] I I2 ∧ Fq L κ ow [1010, 58300] J J2 ∧ Rg 0 1 r) := by
  refine CtI.of (by decide +kernel) (Nat.le_of_ble_eq_true rfl) ?_
  intro p e s m below meth c B K
  have C := B.1
  have hF : Fq L κ ow [806, 1007, 1008, 1009, 1011, 1012, 16100, 58400] I I := fq_rf
  have hG : Fq L κ ow [1010, 58300] J J := fq_rf
  obtain ⟨b_406263, hb_406263, hb_406263L, hb_406263k⟩ := shp_o (W9 x hLx) hkx 0 8 rfl (by decide)
  obtain ⟨b_406264, hb_406264, hb_406264L, hb_406264k⟩ := shp_o (W9 x hLx) hkx 1 1 rfl (by decide)
  obtain ⟨b_406265, hb_406265, hb_406265L, hb_406265k, hb_406265n, hb_406265o⟩ := shp_a (W9 b_406264 hb_406264L) hb_406264k 1 14 6 rfl (by decide)
  obtain ⟨b_406266, hb_406266, hb_406266L, hb_406266k, hb_406266n, hb_406266o⟩ := shp_a (W9 b_406263 hb_406263L) hb_406263k 3 15 6 rfl (by decide)
  obtain ⟨b_406267, hb_406267, hb_406267L, hb_406267k, hb_406267n, hb_406267o⟩ := shp_a (W9 b_406263 hb_406263L) hb_406263k 4 14 6 rfl (by decide)
  refine g_lo (is := [0, 1]) (lo2 := [(0, .ref x), (1, .ref a0)]) rfl ?_
  have j_87 : ∀ (I_406268 : Nat → Nat → Int32) (J_406269 : Nat → Nat → Int64) (hU_406270 : Uv L κ ow I_406268) (hF_406271 : Fq L κ ow [806, 1007, 1008, 1009, 1011, 1012, 16100, 58400] I I_406268) (hG_406272 : Fq L κ ow [1010, 58300] J J_406269) (y_406273 : Int64) (v_406274 : Int32) (nv_406274_m1 : ¬ v_406274 = (-1)) (v_406275 : Int32) (nv_406275_m1 : ¬ v_406275 = (-1)) (v_406276 : Int32) (rv_406276 : Rg 0 5 v_406276) (q_406277 : I_406268 b_406263 6 = v_406276), WG p l e { frames := 2, cells := 0, slots := 0, locals := 44 } s m ([.ref x, .ref a0] : List Value).toArray below meth c 6 0 0 (MQ below (Qi_ D cy L κ ln R (fun r I2 J2 => Uv L κ ow I2 ∧ Fq L κ ow [806, 1007, 1008, 1009, 1011, 1012, 16100, 58400] I I2 ∧ Fq L κ ow [1010, 58300] J J2 ∧ Rg 0 1 r)) ([.ref x, .ref a0] : List Value).toArray s 0 0 (Al_ L)) D cy (Al_ L) s.heap L κ ln R I_406268 J_406269 87 [(0, .ref x), (1, .ref a0), (2, .long y_406273), (4, .int v_406274), (5, .int v_406275)] [] := by
    intro I_406268 J_406269 hU_406270 hF_406271 hG_406272 y_406273 v_406274 nv_406274_m1 v_406275 nv_406275_m1 v_406276 rv_406276 q_406277
    refine g_aload_n C 0 dX9_readDish_87 rfl rfl ?_
    refine g_getR C K hLx hkx f_9_12 hb_406263 dX9_readDish_88 ?_
    refine g_getR C K hb_406263L hb_406263k f_9_116 hb_406266 dX9_readDish_91 ?_
    refine g_aload_n C 0 dX9_readDish_94 rfl rfl ?_
    refine g_getR C K hLx hkx f_9_12 hb_406263 dX9_readDish_95 ?_
    refine g_getI C K hb_406263L hb_406263k f_9_113 (v := v_406276) q_406277 dX9_readDish_98 ?_
    refine g_lload_n C 2 dX9_readDish_101 rfl rfl ?_
    refine h_last C K hb_406266L hb_406266k (v_406276.toNatClampNeg) (rfl) (ix_0 rv_406276 (by decide)) (ix_lt rv_406276 (by decide) hb_406266n (by decide)) dX9_readDish_102 (fun J_406278 hJ_406278 => ?_)
    have hG_406279 := fq_puta hG_406272 hJ_406278 (ro_a hb_406266k (by decide) hb_406266o hb_406263k rfl) (by decide) (by decide)
    refine g_aload_n C 0 dX9_readDish_103 rfl rfl ?_
    refine g_getR C K hLx hkx f_9_12 hb_406263 dX9_readDish_104 ?_
    refine g_getR C K hb_406263L hb_406263k f_9_119 hb_406267 dX9_readDish_107 ?_
    refine g_aload_n C 0 dX9_readDish_110 rfl rfl ?_
    refine g_getR C K hLx hkx f_9_12 hb_406263 dX9_readDish_111 ?_
    refine g_getI C K hb_406263L hb_406263k f_9_113 (v := v_406276) q_406277 dX9_readDish_114 ?_
    refine g_iload C 4 dX9_readDish_117 rfl ?_
    refine h_iast C K hb_406267L hb_406267k (v_406276.toNatClampNeg) (rfl) (ix_0 rv_406276 (by decide)) (ix_lt rv_406276 (by decide) hb_406267n (by decide)) dX9_readDish_119 (fun I_406280 hI_406280 => ?_)
    have hU_406281 := uv_put hU_406270 hI_406280 (ro_a hb_406267k (by decide) hb_406267o hb_406263k rfl) (lo := (-2147483648)) (hi := 2147483647) (rfl) ((rg_all v_406275))
    have hF_406282 := fq_puta hF_406271 hI_406280 (ro_a hb_406267k (by decide) hb_406267o hb_406263k rfl) (by decide) (by decide)
    refine g_aload_n C 0 dX9_readDish_120 rfl rfl ?_
    refine g_getR C K hLx hkx f_9_23 hb_406264 dX9_readDish_121 ?_
    refine g_getR C K hb_406264L hb_406264k f_9_122 hb_406265 dX9_readDish_124 ?_
    refine g_aload_n C 0 dX9_readDish_127 rfl rfl ?_
    refine g_getR C K hLx hkx f_9_12 hb_406263 dX9_readDish_128 ?_
    refine g_getI C K hb_406263L hb_406263k f_9_113 (v := v_406276) (kp_k (κ := κ) hI_406280 (by rw [hb_406263k, hb_406267k]; decide) q_406277) dX9_readDish_131 ?_
    refine g_iload C 3 dX9_readDish_134 rfl ?_
    refine h_iast C K hb_406265L hb_406265k (v_406276.toNatClampNeg) (rfl) (ix_0 rv_406276 (by decide)) (ix_lt rv_406276 (by decide) hb_406265n (by decide)) dX9_readDish_136 (fun I_406283 hI_406283 => ?_)
    have hU_406284 := uv_put hU_406281 hI_406283 (ro_a hb_406265k (by decide) hb_406265o hb_406264k rfl) (lo := (-2147483648)) (hi := 2147483647) (rfl) ((rg_all v_406274))
    have hF_406285 := fq_puta hF_406282 hI_406283 (ro_a hb_406265k (by decide) hb_406265o hb_406264k rfl) (by decide) (by decide)
    refine g_aload_n C 0 dX9_readDish_137 rfl rfl ?_
    refine g_getR C K hLx hkx f_9_12 hb_406263 dX9_readDish_138 ?_
    refine g_dup C dX9_readDish_141 rfl ?_
    refine g_getI C K hb_406263L hb_406263k f_9_113 (v := v_406276) (kp_k (κ := κ) hI_406283 (by rw [hb_406263k, hb_406265k]; decide) (kp_k (κ := κ) hI_406280 (by rw [hb_406263k, hb_406267k]; decide) q_406277)) dX9_readDish_142 ?_
    refine g_iconst C (v := 1) dX9_readDish_145 (by decide) ?_
    obtain ⟨x_406286, hx_406286, rx_406286, tx_406286⟩ := ex_add 1 6 rv_406276 rc_1 (by decide) (by decide) (by decide) (by decide)
    refine g_iadd C (v := x_406286) dX9_readDish_146 hx_406286 ?_
    refine h_putI C K hb_406263L hb_406263k f_9_113 p_8_6 dX9_readDish_147 (fun I_406287 hI_406287 => ?_)
    have hU_406288 := uv_put hU_406284 hI_406287 (ro_o hb_406263k (by decide)) (lo := 0) (hi := 6) rfl (rg_w rx_406286 (by decide) (by decide))
    have hF_406289 := fq_puto hF_406285 hI_406287 hb_406263k (by decide) (by decide)
    refine g_aload_n C 1 dX9_readDish_150 rfl rfl ?_
    refine g_bipush C (v := 59) dX9_readDish_151 (by decide) ?_
    refine g_callVI C K (c_X10_take W9 hLa0 hka0 59 (rg_w rc_59 (by decide) (by decide)) hU_406288) hLa0 hka0 (by decide) rfl v_9_110 rfl ⟨rfl, rfl⟩ ⟨Nat.le_of_ble_eq_true rfl, Nat.le_of_ble_eq_true rfl⟩ (Nat.le_of_ble_eq_true rfl) ⟨Nat.le_of_ble_eq_true rfl, Nat.le_of_ble_eq_true rfl⟩ dX9_readDish_153 rfl (st := []) (fun x_406290 I_406291 J_406292 h_406293 => ?_)
    obtain ⟨hUI_406291, hFI_406291, hGJ_406292, rx_406290⟩ := h_406293
    have hF_406294 := fq_tr hF_406289 hFI_406291 (by decide)
    have hG_406295 := fq_tr hG_406279 hGJ_406292 (by decide)
    exact g_zret (ty := .boolean) (r := x_406290) B K rfl (nar_z (rx_406290)) ⟨hUI_406291, hF_406294, hG_406295, rx_406290⟩ dX9_readDish_156
  refine g_aload_n C 0 dX9_readDish_0 rfl rfl ?_
  refine g_getR C K hLx hkx f_9_12 hb_406263 dX9_readDish_1 ?_
  obtain ⟨x_406296, hx_406296, rx_406296⟩ := ex_get (I := I) (a := b_406263) (j := 6) (lo := 0) (hi := 6) hU hb_406263L (ro_o hb_406263k (by decide)) rfl
  refine g_getI C K hb_406263L hb_406263k f_9_113 (v := x_406296) hx_406296 dX9_readDish_4 ?_
  refine g_bipush C (v := 6) dX9_readDish_7 (by decide) ?_
  refine g_icmp_lt C (tgt := 18) dX9_readDish_9 (by decide) (fun h_406297 => ?_) (fun h_406297 => ?_)
  · skip
    have r_406298 := lt_l (hi := 5) (h_406297) rx_406296 rc_6 (by decide)
    refine g_aload_n C 1 dX9_readDish_18 rfl rfl ?_
    refine g_callVV C K (c_X10_advance W9 hLa0 hka0   hU) hLa0 hka0 (by decide) rfl v_9_82 rfl ⟨rfl, rfl⟩ ⟨Nat.le_of_ble_eq_true rfl, Nat.le_of_ble_eq_true rfl⟩ (Nat.le_of_ble_eq_true rfl) ⟨Nat.le_of_ble_eq_true rfl, Nat.le_of_ble_eq_true rfl⟩ dX9_readDish_19 rfl (st := []) (fun I_406300 J_406301 h_406302 => ?_)
    obtain ⟨hUI_406300, hFI_406300, hGJ_406301⟩ := h_406302
    have hF_406303 := fq_tr hF hFI_406300 (by decide)
    have hG_406304 := fq_tr hG hGJ_406301 (by decide)
    refine g_aload_n C 1 dX9_readDish_22 rfl rfl ?_
    obtain ⟨y_406305, hy_406305⟩ : ∃ z, J_406301 a0 10 = z := ⟨_, rfl⟩
    refine g_getJ C K hLa0 hka0 f_9_71 (v := y_406305) hy_406305 dX9_readDish_23 ?_
    refine g_lstore_n C dX9_readDish_26 rfl (by decide) (lo2 := [(2, .long y_406305), (0, .ref x), (1, .ref a0)]) rfl ?_
    refine g_aload_n C 1 dX9_readDish_27 rfl rfl ?_
    refine g_aload_n C 2 dX9_readDish_28 rfl rfl ?_
    refine g_callVI C K (c_X9_newName W9 hLx hkx hLa0 hka0  hUI_406300) hLx hkx (by decide) rfl v_9_88 rfl ⟨rfl, rfl⟩ ⟨Nat.le_of_ble_eq_true rfl, Nat.le_of_ble_eq_true rfl⟩ (Nat.le_of_ble_eq_true rfl) ⟨Nat.le_of_ble_eq_true rfl, Nat.le_of_ble_eq_true rfl⟩ dX9_readDish_29 rfl (st := []) (fun x_406306 I_406307 J_406308 h_406309 => ?_)
    obtain ⟨hUI_406307, hFI_406307, hGJ_406308, rx_406306⟩ := h_406309
    have hF_406310 := fq_tr hF_406303 hFI_406307 (by decide)
    have hG_406311 := fq_tr hG_406304 hGJ_406308 (by decide)
    refine g_if_ne C (tgt := 37) dX9_readDish_32 (by decide) (fun h_406312 => ?_) (fun h_406312 => ?_)
    · skip
      have n_406313 : ¬ x_406306 = 0 := h_406312
      have r_406314 := ne_lo (lo := 1) n_406313 rx_406306 rc_0 rfl (by decide)
      refine g_aload_n C 2 dX9_readDish_37 rfl rfl ?_
      refine g_iconst C (v := 0) dX9_readDish_38 (by decide) ?_
      refine g_bipush C (v := 99) dX9_readDish_39 (by decide) ?_
      refine g_callVI C K (c_X10_takeNumber W9 hLa0 hka0 0 99 (rg_w rc_0 (by decide) (by decide)) (rg_w rc_99 (by decide) (by decide)) hUI_406307) hLa0 hka0 (by decide) rfl v_9_91 rfl ⟨rfl, rfl⟩ ⟨Nat.le_of_ble_eq_true rfl, Nat.le_of_ble_eq_true rfl⟩ (Nat.le_of_ble_eq_true rfl) ⟨Nat.le_of_ble_eq_true rfl, Nat.le_of_ble_eq_true rfl⟩ dX9_readDish_41 rfl (st := []) (fun x_406315 I_406316 J_406317 h_406318 => ?_)
      obtain ⟨hUI_406316, hFI_406316, hGJ_406317, rx_406315⟩ := h_406318
      have hF_406319 := fq_tr hF_406310 hFI_406316 (by decide)
      have hG_406320 := fq_tr hG_406311 hGJ_406317 (by decide)
      refine g_istore C dX9_readDish_44 (by decide) (lo2 := [(4, .int x_406315), (2, .long y_406305), (0, .ref x), (1, .ref a0)]) rfl ?_
      refine g_iload C 0 dX9_readDish_46 rfl ?_
      refine g_iconst C (v := (-1)) dX9_readDish_48 (by decide) ?_
      refine g_icmp_ne C (tgt := 54) dX9_readDish_49 (by decide) (fun h_406321 => ?_) (fun h_406321 => ?_)
      · skip
        have n_406322 : ¬ x_406315 = (-1) := h_406321
        refine g_iconst C (v := 0) dX9_readDish_54 (by decide) ?_
        refine g_istore C dX9_readDish_55 (by decide) (lo2 := [(5, .int 0), (4, .int x_406315), (2, .long y_406305), (0, .ref x), (1, .ref a0)]) rfl ?_
        refine g_aload_n C 4 dX9_readDish_57 rfl rfl ?_
        obtain ⟨x_406323, hx_406323, rx_406323⟩ := ex_get (I := I_406316) (a := a0) (j := 8) (lo := (-2147483648)) (hi := 2147483647) hUI_406316 hLa0 (ro_o hka0 (by decide)) rfl
        refine g_getI C K hLa0 hka0 f_9_44 (v := x_406323) hx_406323 dX9_readDish_58 ?_
        refine g_bipush C (v := 6) dX9_readDish_61 (by decide) ?_
        refine g_icmp_ne C (tgt := 87) dX9_readDish_63 (by decide) (fun h_406324 => ?_) (fun h_406324 => ?_)
        · skip
          have n_406325 : ¬ x_406323 = 6 := h_406324
          have q_406326 := (fq_at hFI_406316 hb_406263L hb_406263k (by decide) (by decide) (fq_at hFI_406307 hb_406263L hb_406263k (by decide) (by decide) (fq_at hFI_406300 hb_406263L hb_406263k (by decide) (by decide) hx_406296)))
          refine g_lo (is := [3, 4, 2, 1, 0]) (lo2 := [(0, .ref x), (1, .ref a0), (2, .long y_406305), (4, .int x_406315), (5, .int 0)]) rfl ?_
          exact j_87 I_406316 J_406317 hUI_406316 hF_406319 hG_406320 y_406305 x_406315 (n_406322) 0 (by decide) x_406296 (r_406298) q_406326
        · skip
          have r_406327 := (⟨(eq_rg (h_406324) rc_6).1, (eq_rg (h_406324) rc_6).2⟩ : Rg 6 6 x_406323)
          refine g_aload_n C 4 dX9_readDish_66 rfl rfl ?_
          refine g_callVV C K (c_X10_advance W9 hLa0 hka0   hUI_406316) hLa0 hka0 (by decide) rfl v_9_82 rfl ⟨rfl, rfl⟩ ⟨Nat.le_of_ble_eq_true rfl, Nat.le_of_ble_eq_true rfl⟩ (Nat.le_of_ble_eq_true rfl) ⟨Nat.le_of_ble_eq_true rfl, Nat.le_of_ble_eq_true rfl⟩ dX9_readDish_67 rfl (st := []) (fun I_406329 J_406330 h_406331 => ?_)
          obtain ⟨hUI_406329, hFI_406329, hGJ_406330⟩ := h_406331
          have hF_406332 := fq_tr hF_406319 hFI_406329 (by decide)
          have hG_406333 := fq_tr hG_406320 hGJ_406330 (by decide)
          refine g_aload_n C 4 dX9_readDish_70 rfl rfl ?_
          refine g_iconst C (v := 1) dX9_readDish_71 (by decide) ?_
          refine g_bipush C (v := 9) dX9_readDish_72 (by decide) ?_
          refine g_callVI C K (c_X10_takeNumber W9 hLa0 hka0 1 9 (rg_w rc_1 (by decide) (by decide)) (rg_w rc_9 (by decide) (by decide)) hUI_406329) hLa0 hka0 (by decide) rfl v_9_91 rfl ⟨rfl, rfl⟩ ⟨Nat.le_of_ble_eq_true rfl, Nat.le_of_ble_eq_true rfl⟩ (Nat.le_of_ble_eq_true rfl) ⟨Nat.le_of_ble_eq_true rfl, Nat.le_of_ble_eq_true rfl⟩ dX9_readDish_74 rfl (st := []) (fun x_406334 I_406335 J_406336 h_406337 => ?_)
          obtain ⟨hUI_406335, hFI_406335, hGJ_406336, rx_406334⟩ := h_406337
          have hF_406338 := fq_tr hF_406332 hFI_406335 (by decide)
          have hG_406339 := fq_tr hG_406333 hGJ_406336 (by decide)
          refine g_istore C dX9_readDish_77 (by decide) (lo2 := [(5, .int x_406334), (4, .int x_406315), (2, .long y_406305), (0, .ref x), (1, .ref a0)]) rfl ?_
          refine g_iload C 0 dX9_readDish_79 rfl ?_
          refine g_iconst C (v := (-1)) dX9_readDish_81 (by decide) ?_
          refine g_icmp_ne C (tgt := 87) dX9_readDish_82 (by decide) (fun h_406340 => ?_) (fun h_406340 => ?_)
          · skip
            have n_406341 : ¬ x_406334 = (-1) := h_406340
            have q_406342 := (fq_at hFI_406335 hb_406263L hb_406263k (by decide) (by decide) (fq_at hFI_406329 hb_406263L hb_406263k (by decide) (by decide) (fq_at hFI_406316 hb_406263L hb_406263k (by decide) (by decide) (fq_at hFI_406307 hb_406263L hb_406263k (by decide) (by decide) (fq_at hFI_406300 hb_406263L hb_406263k (by decide) (by decide) hx_406296)))))
            refine g_lo (is := [3, 4, 2, 1, 0]) (lo2 := [(0, .ref x), (1, .ref a0), (2, .long y_406305), (4, .int x_406315), (5, .int x_406334)]) rfl ?_
            exact j_87 I_406335 J_406336 hUI_406335 hF_406338 hG_406339 y_406305 x_406315 (n_406322) x_406334 (n_406341) x_406296 (r_406298) q_406342
          · skip
            have r_406343 := (⟨(eq_rg (h_406340) rc_m1).1, (eq_rg (h_406340) rc_m1).2⟩ : Rg (-1) (-1) x_406334)
            refine g_iconst C (v := 0) dX9_readDish_85 (by decide) ?_
            exact g_zret (ty := .boolean) (r := 0) B K rfl (rfl) ⟨hUI_406335, hF_406338, hG_406339, rg_w rc_0 (by decide) (by decide)⟩ dX9_readDish_86
      · skip
        have r_406344 := (⟨(eq_rg (h_406321) rc_m1).1, (eq_rg (h_406321) rc_m1).2⟩ : Rg (-1) (-1) x_406315)
        refine g_iconst C (v := 0) dX9_readDish_52 (by decide) ?_
        exact g_zret (ty := .boolean) (r := 0) B K rfl (rfl) ⟨hUI_406316, hF_406319, hG_406320, rg_w rc_0 (by decide) (by decide)⟩ dX9_readDish_53
    · skip
      have r_406345 := (⟨(rx_406306).1, (eq_rg (h_406312) rc_0).2⟩ : Rg 0 0 x_406306)
      refine g_iconst C (v := 0) dX9_readDish_35 (by decide) ?_
      exact g_zret (ty := .boolean) (r := 0) B K rfl (rfl) ⟨hUI_406307, hF_406310, hG_406311, rg_w rc_0 (by decide) (by decide)⟩ dX9_readDish_36
  · skip
    have r_406346 := le_r (nlt h_406297) rc_6 rx_406296
    refine g_aload_n C 1 dX9_readDish_12 rfl rfl ?_
    refine g_iconst C (v := 4) dX9_readDish_13 (by decide) ?_
    refine g_callVI C K (c_X10_fail W9 hLa0 hka0 4 (rg_w rc_4 (by decide) (by decide)) hU) hLa0 hka0 (by decide) rfl v_9_67 rfl ⟨rfl, rfl⟩ ⟨Nat.le_of_ble_eq_true rfl, Nat.le_of_ble_eq_true rfl⟩ (Nat.le_of_ble_eq_true rfl) ⟨Nat.le_of_ble_eq_true rfl, Nat.le_of_ble_eq_true rfl⟩ dX9_readDish_14 rfl (st := []) (fun x_406347 I_406348 J_406349 h_406350 => ?_)
    obtain ⟨hUI_406348, hFI_406348, hGJ_406349, rx_406347⟩ := h_406350
    have hF_406351 := fq_tr hF hFI_406348 (by decide)
    have hG_406352 := fq_tr hG hGJ_406349 (by decide)
    exact g_zret (ty := .boolean) (r := x_406347) B K rfl (nar_z (rg_w rx_406347 (by decide) (by decide))) ⟨hUI_406348, hF_406351, hG_406352, rg_w rx_406347 (by decide) (by decide)⟩ dX9_readDish_17
set_option maxRecDepth 100000 in
set_option maxHeartbeats 8000000 in
theorem c_X9_readDogs {l : Launch} {D : va_G} {cy : Nat → ClassId} {L : List Nat} {κ ln : Nat → Nat} {R : Nat → Nat → Option Nat} {I : Nat → Nat → Int32} {J : Nat → Nat → Int64} {ow : Nat → Nat × Nat} (W9 : ∀ a ∈ L, Shp L κ ln R ow a) {x : Nat} (hLx : x ∈ L) (hkx : κ x = 9) {a0 : Nat} (hLa0 : a0 ∈ L) (hka0 : κ a0 = 10) (hU : Uv L κ ow I) : CtI l yX9_readDogs cX9_readDogs 2 (some .boolean) { frames := 2, cells := 0, slots := 0, locals := 44 } D cy L κ ln R I J [.ref x, .ref a0] (fun r I2 J2 => Uv L κ ow I2 ∧ Fq L κ ow [808, 903, 1007, 1008, 1009, 1011, 1012] I I2 ∧ Fq L κ ow [1010] J J2 ∧ Rg 0 1 r) := by
  refine CtI.of (by decide +kernel) (Nat.le_of_ble_eq_true rfl) ?_
  intro p e s m below meth c B K
  have C := B.1
  have hF : Fq L κ ow [808, 903, 1007, 1008, 1009, 1011, 1012] I I := fq_rf
  have hG : Fq L κ ow [1010] J J := fq_rf
  obtain ⟨b_406439, hb_406439, hb_406439L, hb_406439k⟩ := shp_o (W9 x hLx) hkx 0 8 rfl (by decide)
  refine g_lo (is := [0, 1]) (lo2 := [(0, .ref x), (1, .ref a0)]) rfl ?_
  refine g_aload_n C 0 dX9_readDogs_0 rfl rfl ?_
  obtain ⟨x_406440, hx_406440, rx_406440⟩ := ex_get (I := I) (a := x) (j := 3) (lo := 0) (hi := 1) hU hLx (ro_o hkx (by decide)) rfl
  refine g_getI C K hLx hkx f_9_31 (v := x_406440) hx_406440 dX9_readDogs_1 ?_
  refine g_if_eq C (tgt := 13) dX9_readDogs_4 (by decide) (fun h_406441 => ?_) (fun h_406441 => ?_)
  · skip
    have r_406442 := (⟨(rx_406440).1, (eq_rg (h_406441) rc_0).2⟩ : Rg 0 0 x_406440)
    refine g_aload_n C 0 dX9_readDogs_13 rfl rfl ?_
    refine g_iconst C (v := 1) dX9_readDogs_14 (by decide) ?_
    refine h_putZ C K hLx hkx f_9_31 p_9_3 (rg_bool (rg_w rc_1 (by decide) (by decide))) dX9_readDogs_15 (fun I_406443 hI_406443 => ?_)
    have hU_406444 := uv_put hU hI_406443 (ro_o hkx (by decide)) (lo := 0) (hi := 1) rfl (rg_w rc_1 (by decide) (by decide))
    have hF_406445 := fq_puto hF hI_406443 hkx (by decide) (by decide)
    refine g_aload_n C 1 dX9_readDogs_18 rfl rfl ?_
    refine g_callVV C K (c_X10_advance W9 hLa0 hka0   hU_406444) hLa0 hka0 (by decide) rfl v_9_82 rfl ⟨rfl, rfl⟩ ⟨Nat.le_of_ble_eq_true rfl, Nat.le_of_ble_eq_true rfl⟩ (Nat.le_of_ble_eq_true rfl) ⟨Nat.le_of_ble_eq_true rfl, Nat.le_of_ble_eq_true rfl⟩ dX9_readDogs_19 rfl (st := []) (fun I_406447 J_406448 h_406449 => ?_)
    obtain ⟨hUI_406447, hFI_406447, hGJ_406448⟩ := h_406449
    have hF_406450 := fq_tr hF_406445 hFI_406447 (by decide)
    have hG_406451 := fq_tr hG hGJ_406448 (by decide)
    refine g_aload_n C 0 dX9_readDogs_22 rfl rfl ?_
    refine g_getR C K hLx hkx f_9_12 hb_406439 dX9_readDogs_23 ?_
    refine g_aload_n C 1 dX9_readDogs_26 rfl rfl ?_
    refine g_iconst C (v := 0) dX9_readDogs_27 (by decide) ?_
    refine g_bipush C (v := 9) dX9_readDogs_28 (by decide) ?_
    refine g_callVI C K (c_X10_takeNumber W9 hLa0 hka0 0 9 (rg_w rc_0 (by decide) (by decide)) (rg_w rc_9 (by decide) (by decide)) hUI_406447) hLa0 hka0 (by decide) rfl v_9_91 rfl ⟨rfl, rfl⟩ ⟨Nat.le_of_ble_eq_true rfl, Nat.le_of_ble_eq_true rfl⟩ (Nat.le_of_ble_eq_true rfl) ⟨Nat.le_of_ble_eq_true rfl, Nat.le_of_ble_eq_true rfl⟩ dX9_readDogs_30 rfl (st := [.ref b_406439]) (fun x_406452 I_406453 J_406454 h_406455 => ?_)
    obtain ⟨hUI_406453, hFI_406453, hGJ_406454, rx_406452⟩ := h_406455
    have hF_406456 := fq_tr hF_406450 hFI_406453 (by decide)
    have hG_406457 := fq_tr hG_406451 hGJ_406454 (by decide)
    refine h_putI C K hb_406439L hb_406439k f_9_135 p_8_8 dX9_readDogs_33 (fun I_406458 hI_406458 => ?_)
    have hU_406459 := uv_put hUI_406453 hI_406458 (ro_o hb_406439k (by decide)) (lo := (-2147483648)) (hi := 2147483647) rfl (rx_406452)
    have hF_406460 := fq_puto hF_406456 hI_406458 hb_406439k (by decide) (by decide)
    refine g_aload_n C 0 dX9_readDogs_36 rfl rfl ?_
    refine g_getR C K hLx hkx f_9_12 hb_406439 dX9_readDogs_37 ?_
    refine g_getI C K hb_406439L hb_406439k f_9_135 (v := x_406452) (kp_s hI_406458) dX9_readDogs_40 ?_
    refine g_iconst C (v := (-1)) dX9_readDogs_43 (by decide) ?_
    refine g_icmp_eq C (tgt := 60) dX9_readDogs_44 (by decide) (fun h_406461 => ?_) (fun h_406461 => ?_)
    · skip
      have r_406462 := (⟨(eq_rg (h_406461) rc_m1).1, (eq_rg (h_406461) rc_m1).2⟩ : Rg (-1) (-1) x_406452)
      refine g_iconst C (v := 0) dX9_readDogs_60 (by decide) ?_
      exact g_zret (ty := .boolean) (r := 0) B K rfl (rfl) ⟨hU_406459, hF_406460, hG_406457, rg_w rc_0 (by decide) (by decide)⟩ dX9_readDogs_61
    · skip
      have n_406463 : ¬ x_406452 = (-1) := h_406461
      refine g_aload_n C 1 dX9_readDogs_47 rfl rfl ?_
      refine g_bipush C (v := 59) dX9_readDogs_48 (by decide) ?_
      refine g_callVI C K (c_X10_take W9 hLa0 hka0 59 (rg_w rc_59 (by decide) (by decide)) hU_406459) hLa0 hka0 (by decide) rfl v_9_110 rfl ⟨rfl, rfl⟩ ⟨Nat.le_of_ble_eq_true rfl, Nat.le_of_ble_eq_true rfl⟩ (Nat.le_of_ble_eq_true rfl) ⟨Nat.le_of_ble_eq_true rfl, Nat.le_of_ble_eq_true rfl⟩ dX9_readDogs_50 rfl (st := []) (fun x_406464 I_406465 J_406466 h_406467 => ?_)
      obtain ⟨hUI_406465, hFI_406465, hGJ_406466, rx_406464⟩ := h_406467
      have hF_406468 := fq_tr hF_406460 hFI_406465 (by decide)
      have hG_406469 := fq_tr hG_406457 hGJ_406466 (by decide)
      refine g_if_eq C (tgt := 60) dX9_readDogs_53 (by decide) (fun h_406470 => ?_) (fun h_406470 => ?_)
      · skip
        have r_406471 := (⟨(rx_406464).1, (eq_rg (h_406470) rc_0).2⟩ : Rg 0 0 x_406464)
        refine g_iconst C (v := 0) dX9_readDogs_60 (by decide) ?_
        exact g_zret (ty := .boolean) (r := 0) B K rfl (rfl) ⟨hUI_406465, hF_406468, hG_406469, rg_w rc_0 (by decide) (by decide)⟩ dX9_readDogs_61
      · skip
        have n_406472 : ¬ x_406464 = 0 := h_406470
        have r_406473 := ne_lo (lo := 1) n_406472 rx_406464 rc_0 rfl (by decide)
        refine g_iconst C (v := 1) dX9_readDogs_56 (by decide) ?_
        refine g_goto C (tgt := 61) dX9_readDogs_57 (by decide) ?_
        exact g_zret (ty := .boolean) (r := 1) B K rfl (rfl) ⟨hUI_406465, hF_406468, hG_406469, rg_w rc_1 (by decide) (by decide)⟩ dX9_readDogs_61
  · skip
    have n_406474 : ¬ x_406440 = 0 := h_406441
    have r_406475 := ne_lo (lo := 1) n_406474 rx_406440 rc_0 rfl (by decide)
    refine g_aload_n C 1 dX9_readDogs_7 rfl rfl ?_
    refine g_iconst C (v := 3) dX9_readDogs_8 (by decide) ?_
    refine g_callVI C K (c_X10_fail W9 hLa0 hka0 3 (rg_w rc_3 (by decide) (by decide)) hU) hLa0 hka0 (by decide) rfl v_9_67 rfl ⟨rfl, rfl⟩ ⟨Nat.le_of_ble_eq_true rfl, Nat.le_of_ble_eq_true rfl⟩ (Nat.le_of_ble_eq_true rfl) ⟨Nat.le_of_ble_eq_true rfl, Nat.le_of_ble_eq_true rfl⟩ dX9_readDogs_9 rfl (st := []) (fun x_406476 I_406477 J_406478 h_406479 => ?_)
    obtain ⟨hUI_406477, hFI_406477, hGJ_406478, rx_406476⟩ := h_406479
    have hF_406480 := fq_tr hF hFI_406477 (by decide)
    have hG_406481 := fq_tr hG hGJ_406478 (by decide)
    exact g_zret (ty := .boolean) (r := x_406476) B K rfl (nar_z (rg_w rx_406476 (by decide) (by decide))) ⟨hUI_406477, hF_406480, hG_406481, rg_w rx_406476 (by decide) (by decide)⟩ dX9_readDogs_12
set_option maxRecDepth 100000 in
set_option maxHeartbeats 8000000 in
theorem c_X9_readLaw {l : Launch} {D : va_G} {cy : Nat → ClassId} {L : List Nat} {κ ln : Nat → Nat} {R : Nat → Nat → Option Nat} {I : Nat → Nat → Int32} {J : Nat → Nat → Int64} {ow : Nat → Nat × Nat} (W9 : ∀ a ∈ L, Shp L κ ln R ow a) {x : Nat} (hLx : x ∈ L) (hkx : κ x = 9) {a0 : Nat} (hLa0 : a0 ∈ L) (hka0 : κ a0 = 10) (hU : Uv L κ ow I) : CtI l yX9_readLaw cX9_readLaw 2 (some .boolean) { frames := 2, cells := 0, slots := 0, locals := 42 } D cy L κ ln R I J [.ref x, .ref a0] (fun r I2 J2 => Uv L κ ow I2 ∧ Fq L κ ow [807, 902, 1007, 1008, 1009, 1011, 1012] I I2 ∧ Fq L κ ow [1010] J J2 ∧ Rg 0 1 r) := by
  refine CtI.of (by decide +kernel) (Nat.le_of_ble_eq_true rfl) ?_
  intro p e s m below meth c B K
  have C := B.1
  have hF : Fq L κ ow [807, 902, 1007, 1008, 1009, 1011, 1012] I I := fq_rf
  have hG : Fq L κ ow [1010] J J := fq_rf
  obtain ⟨b_406602, hb_406602, hb_406602L, hb_406602k⟩ := shp_o (W9 x hLx) hkx 0 8 rfl (by decide)
  refine g_lo (is := [0, 1]) (lo2 := [(0, .ref x), (1, .ref a0)]) rfl ?_
  have j_88 : ∀ (I_406603 : Nat → Nat → Int32) (J_406604 : Nat → Nat → Int64) (hU_406605 : Uv L κ ow I_406603) (hF_406606 : Fq L κ ow [807, 902, 1007, 1008, 1009, 1011, 1012] I I_406603) (hG_406607 : Fq L κ ow [1010] J J_406604) (v_406608 : Int32) (rv_406608 : Rg 7 9 v_406608) (v_406609 : Int32) (rv_406609 : Rg 0 2 v_406609) (q_406610 : I_406603 a0 8 = v_406608) (q_406611 : I_406603 x 2 = 1) (q_406612 : I_406603 b_406602 7 = v_406609), WG p l e { frames := 2, cells := 0, slots := 0, locals := 42 } s m ([.ref x, .ref a0] : List Value).toArray below meth c 2 0 0 (MQ below (Qi_ D cy L κ ln R (fun r I2 J2 => Uv L κ ow I2 ∧ Fq L κ ow [807, 902, 1007, 1008, 1009, 1011, 1012] I I2 ∧ Fq L κ ow [1010] J J2 ∧ Rg 0 1 r)) ([.ref x, .ref a0] : List Value).toArray s 0 0 (Al_ L)) D cy (Al_ L) s.heap L κ ln R I_406603 J_406604 88 [(0, .ref x), (1, .ref a0)] [] := by
    intro I_406603 J_406604 hU_406605 hF_406606 hG_406607 v_406608 rv_406608 v_406609 rv_406609 q_406610 q_406611 q_406612
    refine g_aload_n C 1 dX9_readLaw_88 rfl rfl ?_
    refine g_callVV C K (c_X10_advance W9 hLa0 hka0   hU_406605) hLa0 hka0 (by decide) rfl v_9_82 rfl ⟨rfl, rfl⟩ ⟨Nat.le_of_ble_eq_true rfl, Nat.le_of_ble_eq_true rfl⟩ (Nat.le_of_ble_eq_true rfl) ⟨Nat.le_of_ble_eq_true rfl, Nat.le_of_ble_eq_true rfl⟩ dX9_readLaw_89 rfl (st := []) (fun I_406614 J_406615 h_406616 => ?_)
    obtain ⟨hUI_406614, hFI_406614, hGJ_406615⟩ := h_406616
    have hF_406617 := fq_tr hF_406606 hFI_406614 (by decide)
    have hG_406618 := fq_tr hG_406607 hGJ_406615 (by decide)
    refine g_aload_n C 1 dX9_readLaw_92 rfl rfl ?_
    refine g_bipush C (v := 59) dX9_readLaw_93 (by decide) ?_
    refine g_callVI C K (c_X10_take W9 hLa0 hka0 59 (rg_w rc_59 (by decide) (by decide)) hUI_406614) hLa0 hka0 (by decide) rfl v_9_110 rfl ⟨rfl, rfl⟩ ⟨Nat.le_of_ble_eq_true rfl, Nat.le_of_ble_eq_true rfl⟩ (Nat.le_of_ble_eq_true rfl) ⟨Nat.le_of_ble_eq_true rfl, Nat.le_of_ble_eq_true rfl⟩ dX9_readLaw_95 rfl (st := []) (fun x_406619 I_406620 J_406621 h_406622 => ?_)
    obtain ⟨hUI_406620, hFI_406620, hGJ_406621, rx_406619⟩ := h_406622
    have hF_406623 := fq_tr hF_406617 hFI_406620 (by decide)
    have hG_406624 := fq_tr hG_406618 hGJ_406621 (by decide)
    exact g_zret (ty := .boolean) (r := x_406619) B K rfl (nar_z (rx_406619)) ⟨hUI_406620, hF_406623, hG_406624, rx_406619⟩ dX9_readLaw_98
  refine g_aload_n C 0 dX9_readLaw_0 rfl rfl ?_
  obtain ⟨x_406625, hx_406625, rx_406625⟩ := ex_get (I := I) (a := x) (j := 2) (lo := 0) (hi := 1) hU hLx (ro_o hkx (by decide)) rfl
  refine g_getI C K hLx hkx f_9_27 (v := x_406625) hx_406625 dX9_readLaw_1 ?_
  refine g_if_eq C (tgt := 13) dX9_readLaw_4 (by decide) (fun h_406626 => ?_) (fun h_406626 => ?_)
  · skip
    have r_406627 := (⟨(rx_406625).1, (eq_rg (h_406626) rc_0).2⟩ : Rg 0 0 x_406625)
    refine g_aload_n C 0 dX9_readLaw_13 rfl rfl ?_
    refine g_iconst C (v := 1) dX9_readLaw_14 (by decide) ?_
    refine h_putZ C K hLx hkx f_9_27 p_9_2 (rg_bool (rg_w rc_1 (by decide) (by decide))) dX9_readLaw_15 (fun I_406628 hI_406628 => ?_)
    have hU_406629 := uv_put hU hI_406628 (ro_o hkx (by decide)) (lo := 0) (hi := 1) rfl (rg_w rc_1 (by decide) (by decide))
    have hF_406630 := fq_puto hF hI_406628 hkx (by decide) (by decide)
    refine g_aload_n C 1 dX9_readLaw_18 rfl rfl ?_
    refine g_callVV C K (c_X10_advance W9 hLa0 hka0   hU_406629) hLa0 hka0 (by decide) rfl v_9_82 rfl ⟨rfl, rfl⟩ ⟨Nat.le_of_ble_eq_true rfl, Nat.le_of_ble_eq_true rfl⟩ (Nat.le_of_ble_eq_true rfl) ⟨Nat.le_of_ble_eq_true rfl, Nat.le_of_ble_eq_true rfl⟩ dX9_readLaw_19 rfl (st := []) (fun I_406632 J_406633 h_406634 => ?_)
    obtain ⟨hUI_406632, hFI_406632, hGJ_406633⟩ := h_406634
    have hF_406635 := fq_tr hF_406630 hFI_406632 (by decide)
    have hG_406636 := fq_tr hG hGJ_406633 (by decide)
    refine g_aload_n C 1 dX9_readLaw_22 rfl rfl ?_
    obtain ⟨x_406637, hx_406637, rx_406637⟩ := ex_get (I := I_406632) (a := a0) (j := 8) (lo := (-2147483648)) (hi := 2147483647) hUI_406632 hLa0 (ro_o hka0 (by decide)) rfl
    refine g_getI C K hLa0 hka0 f_9_44 (v := x_406637) hx_406637 dX9_readLaw_23 ?_
    refine g_bipush C (v := 7) dX9_readLaw_26 (by decide) ?_
    refine g_icmp_ne C (tgt := 42) dX9_readLaw_28 (by decide) (fun h_406638 => ?_) (fun h_406638 => ?_)
    · skip
      have n_406639 : ¬ x_406637 = 7 := h_406638
      refine g_aload_n C 1 dX9_readLaw_42 rfl rfl ?_
      refine g_getI C K hLa0 hka0 f_9_44 (v := x_406637) hx_406637 dX9_readLaw_43 ?_
      refine g_bipush C (v := 8) dX9_readLaw_46 (by decide) ?_
      refine g_icmp_ne C (tgt := 62) dX9_readLaw_48 (by decide) (fun h_406640 => ?_) (fun h_406640 => ?_)
      · skip
        have n_406641 : ¬ x_406637 = 8 := h_406640
        refine g_aload_n C 1 dX9_readLaw_62 rfl rfl ?_
        refine g_getI C K hLa0 hka0 f_9_44 (v := x_406637) hx_406637 dX9_readLaw_63 ?_
        refine g_bipush C (v := 9) dX9_readLaw_66 (by decide) ?_
        refine g_icmp_ne C (tgt := 82) dX9_readLaw_68 (by decide) (fun h_406642 => ?_) (fun h_406642 => ?_)
        · skip
          have n_406643 : ¬ x_406637 = 9 := h_406642
          refine g_aload_n C 1 dX9_readLaw_82 rfl rfl ?_
          refine g_iconst C (v := 1) dX9_readLaw_83 (by decide) ?_
          refine g_callVI C K (c_X10_fail W9 hLa0 hka0 1 (rg_w rc_1 (by decide) (by decide)) hUI_406632) hLa0 hka0 (by decide) rfl v_9_67 rfl ⟨rfl, rfl⟩ ⟨Nat.le_of_ble_eq_true rfl, Nat.le_of_ble_eq_true rfl⟩ (Nat.le_of_ble_eq_true rfl) ⟨Nat.le_of_ble_eq_true rfl, Nat.le_of_ble_eq_true rfl⟩ dX9_readLaw_84 rfl (st := []) (fun x_406644 I_406645 J_406646 h_406647 => ?_)
          obtain ⟨hUI_406645, hFI_406645, hGJ_406646, rx_406644⟩ := h_406647
          have hF_406648 := fq_tr hF_406635 hFI_406645 (by decide)
          have hG_406649 := fq_tr hG_406636 hGJ_406646 (by decide)
          exact g_zret (ty := .boolean) (r := x_406644) B K rfl (nar_z (rg_w rx_406644 (by decide) (by decide))) ⟨hUI_406645, hF_406648, hG_406649, rg_w rx_406644 (by decide) (by decide)⟩ dX9_readLaw_87
        · skip
          have r_406650 := (⟨(eq_rg (h_406642) rc_9).1, (eq_rg (h_406642) rc_9).2⟩ : Rg 9 9 x_406637)
          refine g_aload_n C 0 dX9_readLaw_71 rfl rfl ?_
          refine g_getR C K hLx hkx f_9_12 hb_406602 dX9_readLaw_72 ?_
          refine g_iconst C (v := 2) dX9_readLaw_75 (by decide) ?_
          refine h_putI C K hb_406602L hb_406602k f_9_132 p_8_7 dX9_readLaw_76 (fun I_406651 hI_406651 => ?_)
          have hU_406652 := uv_put hUI_406632 hI_406651 (ro_o hb_406602k (by decide)) (lo := (-2147483648)) (hi := 2147483647) rfl (rg_all _)
          have hF_406653 := fq_puto hF_406635 hI_406651 hb_406602k (by decide) (by decide)
          refine g_goto C (tgt := 88) dX9_readLaw_79 (by decide) ?_
          refine g_lo (is := [0, 1]) (lo2 := [(0, .ref x), (1, .ref a0)]) rfl ?_
          exact j_88 I_406651 J_406633 hU_406652 hF_406653 hG_406636 x_406637 (rg_w r_406650 (by decide) (by decide)) 2 (rg_w rc_2 (by decide) (by decide)) (kp_k (κ := κ) hI_406651 (by rw [hka0, hb_406602k]; decide) hx_406637) (kp_k (κ := κ) hI_406651 (by rw [hkx, hb_406602k]; decide) (fq_at hFI_406632 hLx hkx (by decide) (by decide) (kp_s hI_406628))) (kp_s hI_406651)
      · skip
        have r_406654 := (⟨(eq_rg (h_406640) rc_8).1, (eq_rg (h_406640) rc_8).2⟩ : Rg 8 8 x_406637)
        refine g_aload_n C 0 dX9_readLaw_51 rfl rfl ?_
        refine g_getR C K hLx hkx f_9_12 hb_406602 dX9_readLaw_52 ?_
        refine g_iconst C (v := 1) dX9_readLaw_55 (by decide) ?_
        refine h_putI C K hb_406602L hb_406602k f_9_132 p_8_7 dX9_readLaw_56 (fun I_406655 hI_406655 => ?_)
        have hU_406656 := uv_put hUI_406632 hI_406655 (ro_o hb_406602k (by decide)) (lo := (-2147483648)) (hi := 2147483647) rfl (rg_all _)
        have hF_406657 := fq_puto hF_406635 hI_406655 hb_406602k (by decide) (by decide)
        refine g_goto C (tgt := 88) dX9_readLaw_59 (by decide) ?_
        refine g_lo (is := [0, 1]) (lo2 := [(0, .ref x), (1, .ref a0)]) rfl ?_
        exact j_88 I_406655 J_406633 hU_406656 hF_406657 hG_406636 x_406637 (rg_w r_406654 (by decide) (by decide)) 1 (rg_w rc_1 (by decide) (by decide)) (kp_k (κ := κ) hI_406655 (by rw [hka0, hb_406602k]; decide) hx_406637) (kp_k (κ := κ) hI_406655 (by rw [hkx, hb_406602k]; decide) (fq_at hFI_406632 hLx hkx (by decide) (by decide) (kp_s hI_406628))) (kp_s hI_406655)
    · skip
      have r_406658 := (⟨(eq_rg (h_406638) rc_7).1, (eq_rg (h_406638) rc_7).2⟩ : Rg 7 7 x_406637)
      refine g_aload_n C 0 dX9_readLaw_31 rfl rfl ?_
      refine g_getR C K hLx hkx f_9_12 hb_406602 dX9_readLaw_32 ?_
      refine g_iconst C (v := 0) dX9_readLaw_35 (by decide) ?_
      refine h_putI C K hb_406602L hb_406602k f_9_132 p_8_7 dX9_readLaw_36 (fun I_406659 hI_406659 => ?_)
      have hU_406660 := uv_put hUI_406632 hI_406659 (ro_o hb_406602k (by decide)) (lo := (-2147483648)) (hi := 2147483647) rfl (rg_all _)
      have hF_406661 := fq_puto hF_406635 hI_406659 hb_406602k (by decide) (by decide)
      refine g_goto C (tgt := 88) dX9_readLaw_39 (by decide) ?_
      refine g_lo (is := [0, 1]) (lo2 := [(0, .ref x), (1, .ref a0)]) rfl ?_
      exact j_88 I_406659 J_406633 hU_406660 hF_406661 hG_406636 x_406637 (rg_w r_406658 (by decide) (by decide)) 0 (rg_w rc_0 (by decide) (by decide)) (kp_k (κ := κ) hI_406659 (by rw [hka0, hb_406602k]; decide) hx_406637) (kp_k (κ := κ) hI_406659 (by rw [hkx, hb_406602k]; decide) (fq_at hFI_406632 hLx hkx (by decide) (by decide) (kp_s hI_406628))) (kp_s hI_406659)
  · skip
    have n_406662 : ¬ x_406625 = 0 := h_406626
    have r_406663 := ne_lo (lo := 1) n_406662 rx_406625 rc_0 rfl (by decide)
    refine g_aload_n C 1 dX9_readLaw_7 rfl rfl ?_
    refine g_iconst C (v := 3) dX9_readLaw_8 (by decide) ?_
    refine g_callVI C K (c_X10_fail W9 hLa0 hka0 3 (rg_w rc_3 (by decide) (by decide)) hU) hLa0 hka0 (by decide) rfl v_9_67 rfl ⟨rfl, rfl⟩ ⟨Nat.le_of_ble_eq_true rfl, Nat.le_of_ble_eq_true rfl⟩ (Nat.le_of_ble_eq_true rfl) ⟨Nat.le_of_ble_eq_true rfl, Nat.le_of_ble_eq_true rfl⟩ dX9_readLaw_9 rfl (st := []) (fun x_406664 I_406665 J_406666 h_406667 => ?_)
    obtain ⟨hUI_406665, hFI_406665, hGJ_406666, rx_406664⟩ := h_406667
    have hF_406668 := fq_tr hF hFI_406665 (by decide)
    have hG_406669 := fq_tr hG hGJ_406666 (by decide)
    exact g_zret (ty := .boolean) (r := x_406664) B K rfl (nar_z (rg_w rx_406664 (by decide) (by decide))) ⟨hUI_406665, hF_406668, hG_406669, rg_w rx_406664 (by decide) (by decide)⟩ dX9_readLaw_12
set_option maxRecDepth 100000 in
set_option maxHeartbeats 8000000 in
theorem c_X10_takeName {l : Launch} {D : va_G} {cy : Nat → ClassId} {L : List Nat} {κ ln : Nat → Nat} {R : Nat → Nat → Option Nat} {I : Nat → Nat → Int32} {J : Nat → Nat → Int64} {ow : Nat → Nat × Nat} (W9 : ∀ a ∈ L, Shp L κ ln R ow a) {x : Nat} (hLx : x ∈ L) (hkx : κ x = 10) (a0 : Int32) (ra0 : Rg (-1) 6 a0) (hU : Uv L κ ow I) : CtI l yX10_takeName cX10_takeName 2 (some .int) { frames := 1, cells := 0, slots := 0, locals := 21 } D cy L κ ln R I J [.ref x, .int a0] (fun r I2 J2 => Uv L κ ow I2 ∧ Fq L κ ow [1007, 1008, 1009, 1011, 1012] I I2 ∧ Fq L κ ow [1010] J J2 ∧ Rg (-1) 6 r) := by
  refine CtI.of (by decide +kernel) (Nat.le_of_ble_eq_true rfl) ?_
  intro p e s m below meth c B K
  have C := B.1
  have hF : Fq L κ ow [1007, 1008, 1009, 1011, 1012] I I := fq_rf
  have hG : Fq L κ ow [1010] J J := fq_rf
  refine g_lo (is := [0, 1]) (lo2 := [(0, .ref x), (1, .int a0)]) rfl ?_
  refine g_aload_n C 0 dX10_takeName_0 rfl rfl ?_
  obtain ⟨x_406722, hx_406722, rx_406722⟩ := ex_get (I := I) (a := x) (j := 8) (lo := (-2147483648)) (hi := 2147483647) hU hLx (ro_o hkx (by decide)) rfl
  refine g_getI C K hLx hkx f_10_39 (v := x_406722) hx_406722 dX10_takeName_1 ?_
  refine g_bipush C (v := 100) dX10_takeName_4 (by decide) ?_
  refine g_icmp_eq C (tgt := 17) dX10_takeName_6 (by decide) (fun h_406723 => ?_) (fun h_406723 => ?_)
  · skip
    have r_406724 := (⟨(eq_rg (h_406723) rc_100).1, (eq_rg (h_406723) rc_100).2⟩ : Rg 100 100 x_406722)
    refine g_iload_n C 1 dX10_takeName_17 rfl rfl ?_
    refine g_iconst C (v := (-1)) dX10_takeName_18 (by decide) ?_
    refine g_icmp_ne C (tgt := 30) dX10_takeName_19 (by decide) (fun h_406725 => ?_) (fun h_406725 => ?_)
    · skip
      have n_406726 : ¬ a0 = (-1) := h_406725
      have r_406727 := ne_lo (lo := 0) n_406726 ra0 rc_m1 rfl (by decide)
      refine g_aload_n C 0 dX10_takeName_30 rfl rfl ?_
      refine g_callVV C K (c_X10_advance W9 hLx hkx   hU) hLx hkx (by decide) rfl v_10_84 rfl ⟨rfl, rfl⟩ ⟨Nat.le_of_ble_eq_true rfl, Nat.le_of_ble_eq_true rfl⟩ (Nat.le_of_ble_eq_true rfl) ⟨Nat.le_of_ble_eq_true rfl, Nat.le_of_ble_eq_true rfl⟩ dX10_takeName_31 rfl (st := []) (fun I_406729 J_406730 h_406731 => ?_)
      obtain ⟨hUI_406729, hFI_406729, hGJ_406730⟩ := h_406731
      have hF_406732 := fq_tr hF hFI_406729 (by decide)
      have hG_406733 := fq_tr hG hGJ_406730 (by decide)
      refine g_iload_n C 1 dX10_takeName_34 rfl rfl ?_
      exact g_zret (ty := .int) (r := a0) B K rfl (rfl) ⟨hUI_406729, hF_406732, hG_406733, rg_w r_406727 (by decide) (by decide)⟩ dX10_takeName_35
    · skip
      have r_406734 := (⟨(ra0).1, (eq_rg (h_406725) rc_m1).2⟩ : Rg (-1) (-1) a0)
      refine g_aload_n C 0 dX10_takeName_22 rfl rfl ?_
      refine g_iconst C (v := 3) dX10_takeName_23 (by decide) ?_
      refine g_callVI C K (c_X10_fail W9 hLx hkx 3 (rg_w rc_3 (by decide) (by decide)) hU) hLx hkx (by decide) rfl v_10_101 rfl ⟨rfl, rfl⟩ ⟨Nat.le_of_ble_eq_true rfl, Nat.le_of_ble_eq_true rfl⟩ (Nat.le_of_ble_eq_true rfl) ⟨Nat.le_of_ble_eq_true rfl, Nat.le_of_ble_eq_true rfl⟩ dX10_takeName_24 rfl (st := []) (fun x_406735 I_406736 J_406737 h_406738 => ?_)
      obtain ⟨hUI_406736, hFI_406736, hGJ_406737, rx_406735⟩ := h_406738
      have hF_406739 := fq_tr hF hFI_406736 (by decide)
      have hG_406740 := fq_tr hG hGJ_406737 (by decide)
      refine g_pop C dX10_takeName_27 rfl ?_
      refine g_iconst C (v := (-1)) dX10_takeName_28 (by decide) ?_
      exact g_zret (ty := .int) (r := (-1)) B K rfl (rfl) ⟨hUI_406736, hF_406739, hG_406740, rg_w rc_m1 (by decide) (by decide)⟩ dX10_takeName_29
  · skip
    have n_406741 : ¬ x_406722 = 100 := h_406723
    refine g_aload_n C 0 dX10_takeName_9 rfl rfl ?_
    refine g_iconst C (v := 1) dX10_takeName_10 (by decide) ?_
    refine g_callVI C K (c_X10_fail W9 hLx hkx 1 (rg_w rc_1 (by decide) (by decide)) hU) hLx hkx (by decide) rfl v_10_101 rfl ⟨rfl, rfl⟩ ⟨Nat.le_of_ble_eq_true rfl, Nat.le_of_ble_eq_true rfl⟩ (Nat.le_of_ble_eq_true rfl) ⟨Nat.le_of_ble_eq_true rfl, Nat.le_of_ble_eq_true rfl⟩ dX10_takeName_11 rfl (st := []) (fun x_406742 I_406743 J_406744 h_406745 => ?_)
    obtain ⟨hUI_406743, hFI_406743, hGJ_406744, rx_406742⟩ := h_406745
    have hF_406746 := fq_tr hF hFI_406743 (by decide)
    have hG_406747 := fq_tr hG hGJ_406744 (by decide)
    refine g_pop C dX10_takeName_14 rfl ?_
    refine g_iconst C (v := (-1)) dX10_takeName_15 (by decide) ?_
    exact g_zret (ty := .int) (r := (-1)) B K rfl (rfl) ⟨hUI_406743, hF_406746, hG_406747, rg_w rc_m1 (by decide) (by decide)⟩ dX10_takeName_16
