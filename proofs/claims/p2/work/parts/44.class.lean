theorem dX10_begin_0 : decode cX10_begin 0 = .ok (.aload_n 0, 1) := by decide +kernel
theorem dX10_begin_1 : decode cX10_begin 1 = .ok (.getfield 29, 3) := by decide +kernel
theorem dX10_begin_4 : decode cX10_begin 4 = .ok (.iload_n 1, 1) := by decide +kernel
theorem dX10_begin_5 : decode cX10_begin 5 = .ok (.invokestatic 70, 3) := by decide +kernel
theorem dX10_begin_8 : decode cX10_begin 8 = .ok (.aload_n 0, 1) := by decide +kernel
theorem dX10_begin_9 : decode cX10_begin 9 = .ok (.getfield 9, 3) := by decide +kernel
theorem dX10_begin_12 : decode cX10_begin 12 = .ok (.arraylength, 1) := by decide +kernel
theorem dX10_begin_13 : decode cX10_begin 13 = .ok (.invokestatic 70, 3) := by decide +kernel
theorem dX10_begin_16 : decode cX10_begin 16 = .ok (.istore_n 2, 1) := by decide +kernel
theorem dX10_begin_17 : decode cX10_begin 17 = .ok (.iconst 0, 1) := by decide +kernel
theorem dX10_begin_18 : decode cX10_begin 18 = .ok (.istore_n 3, 1) := by decide +kernel
theorem dX10_begin_19 : decode cX10_begin 19 = .ok (.aload_n 0, 1) := by decide +kernel
theorem dX10_begin_20 : decode cX10_begin 20 = .ok (.iconst 0, 1) := by decide +kernel
theorem dX10_begin_21 : decode cX10_begin 21 = .ok (.putfield 33, 3) := by decide +kernel
theorem dX10_begin_24 : decode cX10_begin 24 = .ok (.iconst 0, 1) := by decide +kernel
theorem dX10_begin_25 : decode cX10_begin 25 = .ok (.istore 4, 2) := by decide +kernel
theorem dX10_begin_27 : decode cX10_begin 27 = .ok (.iload 4, 2) := by decide +kernel
theorem dX10_begin_29 : decode cX10_begin 29 = .ok (.iload_n 2, 1) := by decide +kernel
theorem dX10_begin_30 : decode cX10_begin 30 = .ok (.if_icmp .ge 46, 3) := by decide +kernel
theorem dX10_begin_33 : decode cX10_begin 33 = .ok (.iload 4, 2) := by decide +kernel
theorem dX10_begin_35 : decode cX10_begin 35 = .ok (.iload_n 3, 1) := by decide +kernel
theorem dX10_begin_36 : decode cX10_begin 36 = .ok (.if_icmp .lt 34, 3) := by decide +kernel
theorem dX10_begin_39 : decode cX10_begin 39 = .ok (.aload_n 0, 1) := by decide +kernel
theorem dX10_begin_40 : decode cX10_begin 40 = .ok (.getfield 9, 3) := by decide +kernel
theorem dX10_begin_43 : decode cX10_begin 43 = .ok (.iload 4, 2) := by decide +kernel
theorem dX10_begin_45 : decode cX10_begin 45 = .ok (.baload, 1) := by decide +kernel
theorem dX10_begin_46 : decode cX10_begin 46 = .ok (.bipush 32, 2) := by decide +kernel
theorem dX10_begin_48 : decode cX10_begin 48 = .ok (.if_icmp .eq 22, 3) := by decide +kernel
theorem dX10_begin_51 : decode cX10_begin 51 = .ok (.aload_n 0, 1) := by decide +kernel
theorem dX10_begin_52 : decode cX10_begin 52 = .ok (.getfield 9, 3) := by decide +kernel
theorem dX10_begin_55 : decode cX10_begin 55 = .ok (.iload 4, 2) := by decide +kernel
theorem dX10_begin_57 : decode cX10_begin 57 = .ok (.baload, 1) := by decide +kernel
theorem dX10_begin_58 : decode cX10_begin 58 = .ok (.bipush 10, 2) := by decide +kernel
theorem dX10_begin_60 : decode cX10_begin 60 = .ok (.if_icmp .eq 10, 3) := by decide +kernel
theorem dX10_begin_63 : decode cX10_begin 63 = .ok (.aload_n 0, 1) := by decide +kernel
theorem dX10_begin_64 : decode cX10_begin 64 = .ok (.iload 4, 2) := by decide +kernel
theorem dX10_begin_66 : decode cX10_begin 66 = .ok (.invokevirtual 76, 3) := by decide +kernel
theorem dX10_begin_69 : decode cX10_begin 69 = .ok (.istore_n 3, 1) := by decide +kernel
theorem dX10_begin_70 : decode cX10_begin 70 = .ok (.iinc 4 1, 3) := by decide +kernel
theorem dX10_begin_73 : decode cX10_begin 73 = .ok (.goto (-46), 3) := by decide +kernel
theorem dX10_begin_76 : decode cX10_begin 76 = .ok (.aload_n 0, 1) := by decide +kernel
theorem dX10_begin_77 : decode cX10_begin 77 = .ok (.aload_n 0, 1) := by decide +kernel
theorem dX10_begin_78 : decode cX10_begin 78 = .ok (.getfield 29, 3) := by decide +kernel
theorem dX10_begin_81 : decode cX10_begin 81 = .ok (.iload_n 1, 1) := by decide +kernel
theorem dX10_begin_82 : decode cX10_begin 82 = .ok (.if_icmp .le 8, 3) := by decide +kernel
theorem dX10_begin_85 : decode cX10_begin 85 = .ok (.bipush 103, 2) := by decide +kernel
theorem dX10_begin_87 : decode cX10_begin 87 = .ok (.goto 5, 3) := by decide +kernel
theorem dX10_begin_90 : decode cX10_begin 90 = .ok (.bipush 102, 2) := by decide +kernel
theorem dX10_begin_92 : decode cX10_begin 92 = .ok (.iload_n 2, 1) := by decide +kernel
theorem dX10_begin_93 : decode cX10_begin 93 = .ok (.lconst 0, 1) := by decide +kernel
theorem dX10_begin_94 : decode cX10_begin 94 = .ok (.invokevirtual 80, 3) := by decide +kernel
theorem dX10_begin_97 : decode cX10_begin 97 = .ok (.aload_n 0, 1) := by decide +kernel
theorem dX10_begin_98 : decode cX10_begin 98 = .ok (.iconst 0, 1) := by decide +kernel
theorem dX10_begin_99 : decode cX10_begin 99 = .ok (.putfield 49, 3) := by decide +kernel
theorem dX10_begin_102 : decode cX10_begin 102 = .ok (.aload_n 0, 1) := by decide +kernel
theorem dX10_begin_103 : decode cX10_begin 103 = .ok (.iconst 0, 1) := by decide +kernel
theorem dX10_begin_104 : decode cX10_begin 104 = .ok (.putfield 52, 3) := by decide +kernel
theorem dX10_begin_107 : decode cX10_begin 107 = .ok (.aload_n 0, 1) := by decide +kernel
theorem dX10_begin_108 : decode cX10_begin 108 = .ok (.iconst (-1), 1) := by decide +kernel
theorem dX10_begin_109 : decode cX10_begin 109 = .ok (.putfield 36, 3) := by decide +kernel
theorem dX10_begin_112 : decode cX10_begin 112 = .ok (.aload_n 0, 1) := by decide +kernel
theorem dX10_begin_113 : decode cX10_begin 113 = .ok (.invokevirtual 84, 3) := by decide +kernel
theorem dX10_begin_116 : decode cX10_begin 116 = .ok (.return_, 1) := by decide +kernel
theorem dX10_fail_0 : decode cX10_fail 0 = .ok (.aload_n 0, 1) := by decide +kernel
theorem dX10_fail_1 : decode cX10_fail 1 = .ok (.getfield 49, 3) := by decide +kernel
theorem dX10_fail_4 : decode cX10_fail 4 = .ok (.ifCond .ne 16, 3) := by decide +kernel
theorem dX10_fail_7 : decode cX10_fail 7 = .ok (.aload_n 0, 1) := by decide +kernel
theorem dX10_fail_8 : decode cX10_fail 8 = .ok (.iload_n 1, 1) := by decide +kernel
theorem dX10_fail_9 : decode cX10_fail 9 = .ok (.putfield 49, 3) := by decide +kernel
theorem dX10_fail_12 : decode cX10_fail 12 = .ok (.aload_n 0, 1) := by decide +kernel
theorem dX10_fail_13 : decode cX10_fail 13 = .ok (.aload_n 0, 1) := by decide +kernel
theorem dX10_fail_14 : decode cX10_fail 14 = .ok (.getfield 42, 3) := by decide +kernel
theorem dX10_fail_17 : decode cX10_fail 17 = .ok (.putfield 52, 3) := by decide +kernel
theorem dX10_fail_20 : decode cX10_fail 20 = .ok (.iconst 0, 1) := by decide +kernel
theorem dX10_fail_21 : decode cX10_fail 21 = .ok (.ireturn, 1) := by decide +kernel
theorem dX10_readToken_0 : decode cX10_readToken 0 = .ok (.iconst 0, 1) := by decide +kernel
theorem dX10_readToken_1 : decode cX10_readToken 1 = .ok (.istore_n 2, 1) := by decide +kernel
theorem dX10_readToken_2 : decode cX10_readToken 2 = .ok (.iconst 0, 1) := by decide +kernel
theorem dX10_readToken_3 : decode cX10_readToken 3 = .ok (.istore_n 3, 1) := by decide +kernel
theorem dX10_readToken_4 : decode cX10_readToken 4 = .ok (.lconst 0, 1) := by decide +kernel
theorem dX10_readToken_5 : decode cX10_readToken 5 = .ok (.lstore 4, 2) := by decide +kernel
theorem dX10_readToken_7 : decode cX10_readToken 7 = .ok (.iconst 0, 1) := by decide +kernel
theorem dX10_readToken_8 : decode cX10_readToken 8 = .ok (.istore 6, 2) := by decide +kernel
theorem dX10_readToken_10 : decode cX10_readToken 10 = .ok (.iload_n 1, 1) := by decide +kernel
theorem dX10_readToken_11 : decode cX10_readToken 11 = .ok (.istore 7, 2) := by decide +kernel
theorem dX10_readToken_13 : decode cX10_readToken 13 = .ok (.iload 7, 2) := by decide +kernel
theorem dX10_readToken_15 : decode cX10_readToken 15 = .ok (.aload_n 0, 1) := by decide +kernel
theorem dX10_readToken_16 : decode cX10_readToken 16 = .ok (.getfield 29, 3) := by decide +kernel
theorem dX10_readToken_19 : decode cX10_readToken 19 = .ok (.if_icmp .ge 99, 3) := by decide +kernel
theorem dX10_readToken_22 : decode cX10_readToken 22 = .ok (.iload 7, 2) := by decide +kernel
theorem dX10_readToken_24 : decode cX10_readToken 24 = .ok (.aload_n 0, 1) := by decide +kernel
theorem dX10_readToken_25 : decode cX10_readToken 25 = .ok (.getfield 9, 3) := by decide +kernel
theorem dX10_readToken_28 : decode cX10_readToken 28 = .ok (.arraylength, 1) := by decide +kernel
theorem dX10_readToken_29 : decode cX10_readToken 29 = .ok (.if_icmp .ge 89, 3) := by decide +kernel
theorem dX10_readToken_32 : decode cX10_readToken 32 = .ok (.aload_n 0, 1) := by decide +kernel
theorem dX10_readToken_33 : decode cX10_readToken 33 = .ok (.getfield 9, 3) := by decide +kernel
theorem dX10_readToken_36 : decode cX10_readToken 36 = .ok (.iload 7, 2) := by decide +kernel
theorem dX10_readToken_38 : decode cX10_readToken 38 = .ok (.baload, 1) := by decide +kernel
theorem dX10_readToken_39 : decode cX10_readToken 39 = .ok (.invokestatic 87, 3) := by decide +kernel
theorem dX10_readToken_42 : decode cX10_readToken 42 = .ok (.ifCond .ne 16, 3) := by decide +kernel
theorem dX10_readToken_45 : decode cX10_readToken 45 = .ok (.aload_n 0, 1) := by decide +kernel
theorem dX10_readToken_46 : decode cX10_readToken 46 = .ok (.getfield 9, 3) := by decide +kernel
theorem dX10_readToken_49 : decode cX10_readToken 49 = .ok (.iload 7, 2) := by decide +kernel
theorem dX10_readToken_51 : decode cX10_readToken 51 = .ok (.baload, 1) := by decide +kernel
theorem dX10_readToken_52 : decode cX10_readToken 52 = .ok (.invokestatic 91, 3) := by decide +kernel
theorem dX10_readToken_55 : decode cX10_readToken 55 = .ok (.ifCond .eq 63, 3) := by decide +kernel
theorem dX10_readToken_58 : decode cX10_readToken 58 = .ok (.aload_n 0, 1) := by decide +kernel
theorem dX10_readToken_59 : decode cX10_readToken 59 = .ok (.getfield 9, 3) := by decide +kernel
theorem dX10_readToken_62 : decode cX10_readToken 62 = .ok (.iload 7, 2) := by decide +kernel
theorem dX10_readToken_64 : decode cX10_readToken 64 = .ok (.baload, 1) := by decide +kernel
theorem dX10_readToken_65 : decode cX10_readToken 65 = .ok (.invokestatic 87, 3) := by decide +kernel
theorem dX10_readToken_68 : decode cX10_readToken 68 = .ok (.ifCond .eq 23, 3) := by decide +kernel
theorem dX10_readToken_71 : decode cX10_readToken 71 = .ok (.lload 4, 2) := by decide +kernel
theorem dX10_readToken_73 : decode cX10_readToken 73 = .ok (.aload_n 0, 1) := by decide +kernel
theorem dX10_readToken_74 : decode cX10_readToken 74 = .ok (.getfield 9, 3) := by decide +kernel
theorem dX10_readToken_77 : decode cX10_readToken 77 = .ok (.iload 7, 2) := by decide +kernel
theorem dX10_readToken_79 : decode cX10_readToken 79 = .ok (.baload, 1) := by decide +kernel
theorem dX10_readToken_80 : decode cX10_readToken 80 = .ok (.invokestatic 66, 3) := by decide +kernel
theorem dX10_readToken_83 : decode cX10_readToken 83 = .ok (.lstore 4, 2) := by decide +kernel
theorem dX10_readToken_85 : decode cX10_readToken 85 = .ok (.iinc 2 1, 3) := by decide +kernel
theorem dX10_readToken_88 : decode cX10_readToken 88 = .ok (.goto 24, 3) := by decide +kernel
theorem dX10_readToken_91 : decode cX10_readToken 91 = .ok (.iload 6, 2) := by decide +kernel
theorem dX10_readToken_93 : decode cX10_readToken 93 = .ok (.bipush 10, 2) := by decide +kernel
theorem dX10_readToken_95 : decode cX10_readToken 95 = .ok (.imul, 1) := by decide +kernel
theorem dX10_readToken_96 : decode cX10_readToken 96 = .ok (.aload_n 0, 1) := by decide +kernel
theorem dX10_readToken_97 : decode cX10_readToken 97 = .ok (.getfield 9, 3) := by decide +kernel
theorem dX10_readToken_100 : decode cX10_readToken 100 = .ok (.iload 7, 2) := by decide +kernel
theorem dX10_readToken_102 : decode cX10_readToken 102 = .ok (.baload, 1) := by decide +kernel
theorem dX10_readToken_103 : decode cX10_readToken 103 = .ok (.iadd, 1) := by decide +kernel
theorem dX10_readToken_104 : decode cX10_readToken 104 = .ok (.bipush 48, 2) := by decide +kernel
theorem dX10_readToken_106 : decode cX10_readToken 106 = .ok (.isub, 1) := by decide +kernel
theorem dX10_readToken_107 : decode cX10_readToken 107 = .ok (.istore 6, 2) := by decide +kernel
theorem dX10_readToken_109 : decode cX10_readToken 109 = .ok (.iinc 3 1, 3) := by decide +kernel
theorem dX10_readToken_112 : decode cX10_readToken 112 = .ok (.iinc 7 1, 3) := by decide +kernel
theorem dX10_readToken_115 : decode cX10_readToken 115 = .ok (.goto (-102), 3) := by decide +kernel
theorem dX10_readToken_118 : decode cX10_readToken 118 = .ok (.iload 7, 2) := by decide +kernel
theorem dX10_readToken_120 : decode cX10_readToken 120 = .ok (.iload_n 1, 1) := by decide +kernel
theorem dX10_readToken_121 : decode cX10_readToken 121 = .ok (.if_icmp .ne 36, 3) := by decide +kernel
theorem dX10_readToken_124 : decode cX10_readToken 124 = .ok (.aload_n 0, 1) := by decide +kernel
theorem dX10_readToken_125 : decode cX10_readToken 125 = .ok (.aload_n 0, 1) := by decide +kernel
theorem dX10_readToken_126 : decode cX10_readToken 126 = .ok (.getfield 9, 3) := by decide +kernel
theorem dX10_readToken_129 : decode cX10_readToken 129 = .ok (.iload_n 1, 1) := by decide +kernel
theorem dX10_readToken_130 : decode cX10_readToken 130 = .ok (.baload, 1) := by decide +kernel
theorem dX10_readToken_131 : decode cX10_readToken 131 = .ok (.invokestatic 94, 3) := by decide +kernel
theorem dX10_readToken_134 : decode cX10_readToken 134 = .ok (.ifCond .eq 12, 3) := by decide +kernel
theorem dX10_readToken_137 : decode cX10_readToken 137 = .ok (.aload_n 0, 1) := by decide +kernel
theorem dX10_readToken_138 : decode cX10_readToken 138 = .ok (.getfield 9, 3) := by decide +kernel
theorem dX10_readToken_141 : decode cX10_readToken 141 = .ok (.iload_n 1, 1) := by decide +kernel
theorem dX10_readToken_142 : decode cX10_readToken 142 = .ok (.baload, 1) := by decide +kernel
theorem dX10_readToken_143 : decode cX10_readToken 143 = .ok (.goto 5, 3) := by decide +kernel
theorem dX10_readToken_146 : decode cX10_readToken 146 = .ok (.bipush 103, 2) := by decide +kernel
theorem dX10_readToken_148 : decode cX10_readToken 148 = .ok (.iload_n 1, 1) := by decide +kernel
theorem dX10_readToken_149 : decode cX10_readToken 149 = .ok (.lconst 0, 1) := by decide +kernel
theorem dX10_readToken_150 : decode cX10_readToken 150 = .ok (.invokevirtual 80, 3) := by decide +kernel
theorem dX10_readToken_153 : decode cX10_readToken 153 = .ok (.iload_n 1, 1) := by decide +kernel
theorem dX10_readToken_154 : decode cX10_readToken 154 = .ok (.iconst 1, 1) := by decide +kernel
theorem dX10_readToken_155 : decode cX10_readToken 155 = .ok (.iadd, 1) := by decide +kernel
theorem dX10_readToken_156 : decode cX10_readToken 156 = .ok (.ireturn, 1) := by decide +kernel
theorem dX10_readToken_157 : decode cX10_readToken 157 = .ok (.iload_n 3, 1) := by decide +kernel
theorem dX10_readToken_158 : decode cX10_readToken 158 = .ok (.ifCond .ne 25, 3) := by decide +kernel
theorem dX10_readToken_161 : decode cX10_readToken 161 = .ok (.iload_n 2, 1) := by decide +kernel
theorem dX10_readToken_162 : decode cX10_readToken 162 = .ok (.bipush 7, 2) := by decide +kernel
theorem dX10_readToken_164 : decode cX10_readToken 164 = .ok (.if_icmp .gt 19, 3) := by decide +kernel
theorem dX10_readToken_167 : decode cX10_readToken 167 = .ok (.aload_n 0, 1) := by decide +kernel
theorem dX10_readToken_168 : decode cX10_readToken 168 = .ok (.aload_n 0, 1) := by decide +kernel
theorem dX10_readToken_169 : decode cX10_readToken 169 = .ok (.lload 4, 2) := by decide +kernel
theorem dX10_readToken_171 : decode cX10_readToken 171 = .ok (.invokevirtual 97, 3) := by decide +kernel
theorem dX10_readToken_174 : decode cX10_readToken 174 = .ok (.iload_n 1, 1) := by decide +kernel
theorem dX10_readToken_175 : decode cX10_readToken 175 = .ok (.lload 4, 2) := by decide +kernel
theorem dX10_readToken_177 : decode cX10_readToken 177 = .ok (.invokevirtual 80, 3) := by decide +kernel
theorem dX10_readToken_180 : decode cX10_readToken 180 = .ok (.goto 33, 3) := by decide +kernel
theorem dX10_readToken_183 : decode cX10_readToken 183 = .ok (.iload_n 2, 1) := by decide +kernel
theorem dX10_readToken_184 : decode cX10_readToken 184 = .ok (.ifCond .ne 21, 3) := by decide +kernel
theorem dX10_readToken_187 : decode cX10_readToken 187 = .ok (.iload_n 3, 1) := by decide +kernel
theorem dX10_readToken_188 : decode cX10_readToken 188 = .ok (.iconst 3, 1) := by decide +kernel
theorem dX10_readToken_189 : decode cX10_readToken 189 = .ok (.if_icmp .gt 16, 3) := by decide +kernel
theorem dX10_readToken_192 : decode cX10_readToken 192 = .ok (.aload_n 0, 1) := by decide +kernel
theorem dX10_readToken_193 : decode cX10_readToken 193 = .ok (.bipush 101, 2) := by decide +kernel
theorem dX10_readToken_195 : decode cX10_readToken 195 = .ok (.iload_n 1, 1) := by decide +kernel
theorem dX10_readToken_196 : decode cX10_readToken 196 = .ok (.iload 6, 2) := by decide +kernel
theorem dX10_readToken_198 : decode cX10_readToken 198 = .ok (.i2l, 1) := by decide +kernel
theorem dX10_readToken_199 : decode cX10_readToken 199 = .ok (.invokevirtual 80, 3) := by decide +kernel
theorem dX10_readToken_202 : decode cX10_readToken 202 = .ok (.goto 11, 3) := by decide +kernel
theorem dX10_readToken_205 : decode cX10_readToken 205 = .ok (.aload_n 0, 1) := by decide +kernel
theorem dX10_readToken_206 : decode cX10_readToken 206 = .ok (.bipush 103, 2) := by decide +kernel
theorem dX10_readToken_208 : decode cX10_readToken 208 = .ok (.iload_n 1, 1) := by decide +kernel
theorem dX10_readToken_209 : decode cX10_readToken 209 = .ok (.lconst 0, 1) := by decide +kernel
theorem dX10_readToken_210 : decode cX10_readToken 210 = .ok (.invokevirtual 80, 3) := by decide +kernel
theorem dX10_readToken_213 : decode cX10_readToken 213 = .ok (.iload 7, 2) := by decide +kernel
theorem dX10_readToken_215 : decode cX10_readToken 215 = .ok (.ireturn, 1) := by decide +kernel
theorem dX10_take_0 : decode cX10_take 0 = .ok (.aload_n 0, 1) := by decide +kernel
theorem dX10_take_1 : decode cX10_take 1 = .ok (.getfield 39, 3) := by decide +kernel
theorem dX10_take_4 : decode cX10_take 4 = .ok (.iload_n 1, 1) := by decide +kernel
theorem dX10_take_5 : decode cX10_take 5 = .ok (.if_icmp .eq 9, 3) := by decide +kernel
theorem dX10_take_8 : decode cX10_take 8 = .ok (.aload_n 0, 1) := by decide +kernel
theorem dX10_take_9 : decode cX10_take 9 = .ok (.iconst 1, 1) := by decide +kernel
theorem dX10_take_10 : decode cX10_take 10 = .ok (.invokevirtual 101, 3) := by decide +kernel
theorem dX10_take_13 : decode cX10_take 13 = .ok (.ireturn, 1) := by decide +kernel
theorem dX10_take_14 : decode cX10_take 14 = .ok (.aload_n 0, 1) := by decide +kernel
theorem dX10_take_15 : decode cX10_take 15 = .ok (.invokevirtual 84, 3) := by decide +kernel
theorem dX10_take_18 : decode cX10_take 18 = .ok (.iconst 1, 1) := by decide +kernel
theorem dX10_take_19 : decode cX10_take 19 = .ok (.ireturn, 1) := by decide +kernel
theorem dX10_takeName_0 : decode cX10_takeName 0 = .ok (.aload_n 0, 1) := by decide +kernel
theorem dX10_takeName_1 : decode cX10_takeName 1 = .ok (.getfield 39, 3) := by decide +kernel
theorem dX10_takeName_4 : decode cX10_takeName 4 = .ok (.bipush 100, 2) := by decide +kernel
theorem dX10_takeName_6 : decode cX10_takeName 6 = .ok (.if_icmp .eq 11, 3) := by decide +kernel
theorem dX10_takeName_9 : decode cX10_takeName 9 = .ok (.aload_n 0, 1) := by decide +kernel
theorem dX10_takeName_10 : decode cX10_takeName 10 = .ok (.iconst 1, 1) := by decide +kernel
theorem dX10_takeName_11 : decode cX10_takeName 11 = .ok (.invokevirtual 101, 3) := by decide +kernel
theorem dX10_takeName_14 : decode cX10_takeName 14 = .ok (.pop, 1) := by decide +kernel
theorem dX10_takeName_15 : decode cX10_takeName 15 = .ok (.iconst (-1), 1) := by decide +kernel
theorem dX10_takeName_16 : decode cX10_takeName 16 = .ok (.ireturn, 1) := by decide +kernel
theorem dX10_takeName_17 : decode cX10_takeName 17 = .ok (.iload_n 1, 1) := by decide +kernel
theorem dX10_takeName_18 : decode cX10_takeName 18 = .ok (.iconst (-1), 1) := by decide +kernel
theorem dX10_takeName_19 : decode cX10_takeName 19 = .ok (.if_icmp .ne 11, 3) := by decide +kernel
theorem dX10_takeName_22 : decode cX10_takeName 22 = .ok (.aload_n 0, 1) := by decide +kernel
theorem dX10_takeName_23 : decode cX10_takeName 23 = .ok (.iconst 3, 1) := by decide +kernel
theorem dX10_takeName_24 : decode cX10_takeName 24 = .ok (.invokevirtual 101, 3) := by decide +kernel
theorem dX10_takeName_27 : decode cX10_takeName 27 = .ok (.pop, 1) := by decide +kernel
theorem dX10_takeName_28 : decode cX10_takeName 28 = .ok (.iconst (-1), 1) := by decide +kernel
theorem dX10_takeName_29 : decode cX10_takeName 29 = .ok (.ireturn, 1) := by decide +kernel
theorem dX10_takeName_30 : decode cX10_takeName 30 = .ok (.aload_n 0, 1) := by decide +kernel
theorem dX10_takeName_31 : decode cX10_takeName 31 = .ok (.invokevirtual 84, 3) := by decide +kernel
theorem dX10_takeName_34 : decode cX10_takeName 34 = .ok (.iload_n 1, 1) := by decide +kernel
theorem dX10_takeName_35 : decode cX10_takeName 35 = .ok (.ireturn, 1) := by decide +kernel
theorem dX10_takeNumber_0 : decode cX10_takeNumber 0 = .ok (.aload_n 0, 1) := by decide +kernel
theorem dX10_takeNumber_1 : decode cX10_takeNumber 1 = .ok (.getfield 39, 3) := by decide +kernel
theorem dX10_takeNumber_4 : decode cX10_takeNumber 4 = .ok (.bipush 101, 2) := by decide +kernel
theorem dX10_takeNumber_6 : decode cX10_takeNumber 6 = .ok (.if_icmp .eq 11, 3) := by decide +kernel
theorem dX10_takeNumber_9 : decode cX10_takeNumber 9 = .ok (.aload_n 0, 1) := by decide +kernel
theorem dX10_takeNumber_10 : decode cX10_takeNumber 10 = .ok (.iconst 1, 1) := by decide +kernel
theorem dX10_takeNumber_11 : decode cX10_takeNumber 11 = .ok (.invokevirtual 101, 3) := by decide +kernel
theorem dX10_takeNumber_14 : decode cX10_takeNumber 14 = .ok (.pop, 1) := by decide +kernel
theorem dX10_takeNumber_15 : decode cX10_takeNumber 15 = .ok (.iconst (-1), 1) := by decide +kernel
theorem dX10_takeNumber_16 : decode cX10_takeNumber 16 = .ok (.ireturn, 1) := by decide +kernel
theorem dX10_takeNumber_17 : decode cX10_takeNumber 17 = .ok (.aload_n 0, 1) := by decide +kernel
theorem dX10_takeNumber_18 : decode cX10_takeNumber 18 = .ok (.getfield 45, 3) := by decide +kernel
theorem dX10_takeNumber_21 : decode cX10_takeNumber 21 = .ok (.iload_n 1, 1) := by decide +kernel
theorem dX10_takeNumber_22 : decode cX10_takeNumber 22 = .ok (.i2l, 1) := by decide +kernel
theorem dX10_takeNumber_23 : decode cX10_takeNumber 23 = .ok (.lcmp, 1) := by decide +kernel
theorem dX10_takeNumber_24 : decode cX10_takeNumber 24 = .ok (.ifCond .lt 13, 3) := by decide +kernel
theorem dX10_takeNumber_27 : decode cX10_takeNumber 27 = .ok (.aload_n 0, 1) := by decide +kernel
theorem dX10_takeNumber_28 : decode cX10_takeNumber 28 = .ok (.getfield 45, 3) := by decide +kernel
theorem dX10_takeNumber_31 : decode cX10_takeNumber 31 = .ok (.iload_n 2, 1) := by decide +kernel
theorem dX10_takeNumber_32 : decode cX10_takeNumber 32 = .ok (.i2l, 1) := by decide +kernel
theorem dX10_takeNumber_33 : decode cX10_takeNumber 33 = .ok (.lcmp, 1) := by decide +kernel
theorem dX10_takeNumber_34 : decode cX10_takeNumber 34 = .ok (.ifCond .le 11, 3) := by decide +kernel
theorem dX10_takeNumber_37 : decode cX10_takeNumber 37 = .ok (.aload_n 0, 1) := by decide +kernel
theorem dX10_takeNumber_38 : decode cX10_takeNumber 38 = .ok (.iconst 2, 1) := by decide +kernel
theorem dX10_takeNumber_39 : decode cX10_takeNumber 39 = .ok (.invokevirtual 101, 3) := by decide +kernel
theorem dX10_takeNumber_42 : decode cX10_takeNumber 42 = .ok (.pop, 1) := by decide +kernel
theorem dX10_takeNumber_43 : decode cX10_takeNumber 43 = .ok (.iconst (-1), 1) := by decide +kernel
theorem dX10_takeNumber_44 : decode cX10_takeNumber 44 = .ok (.ireturn, 1) := by decide +kernel
theorem dX10_takeNumber_45 : decode cX10_takeNumber 45 = .ok (.aload_n 0, 1) := by decide +kernel
theorem dX10_takeNumber_46 : decode cX10_takeNumber 46 = .ok (.getfield 45, 3) := by decide +kernel
theorem dX10_takeNumber_49 : decode cX10_takeNumber 49 = .ok (.l2i, 1) := by decide +kernel
theorem dX10_takeNumber_50 : decode cX10_takeNumber 50 = .ok (.istore_n 3, 1) := by decide +kernel
theorem dX10_takeNumber_51 : decode cX10_takeNumber 51 = .ok (.aload_n 0, 1) := by decide +kernel
theorem dX10_takeNumber_52 : decode cX10_takeNumber 52 = .ok (.invokevirtual 84, 3) := by decide +kernel
theorem dX10_takeNumber_55 : decode cX10_takeNumber 55 = .ok (.iload_n 3, 1) := by decide +kernel
theorem dX10_takeNumber_56 : decode cX10_takeNumber 56 = .ok (.ireturn, 1) := by decide +kernel
theorem dX1_forget_0 : decode cX1_forget 0 = .ok (.iconst 0, 1) := by decide +kernel
theorem dX1_forget_1 : decode cX1_forget 1 = .ok (.istore_n 1, 1) := by decide +kernel
theorem dX1_forget_2 : decode cX1_forget 2 = .ok (.iload_n 1, 1) := by decide +kernel
theorem dX1_forget_3 : decode cX1_forget 3 = .ok (.bipush 6, 2) := by decide +kernel
theorem dX1_forget_5 : decode cX1_forget 5 = .ok (.if_icmp .ge 16, 3) := by decide +kernel
theorem dX1_forget_8 : decode cX1_forget 8 = .ok (.aload_n 0, 1) := by decide +kernel
theorem dX1_forget_9 : decode cX1_forget 9 = .ok (.getfield 9, 3) := by decide +kernel
theorem dX1_forget_12 : decode cX1_forget 12 = .ok (.iload_n 1, 1) := by decide +kernel
theorem dX1_forget_13 : decode cX1_forget 13 = .ok (.iconst 0, 1) := by decide +kernel
theorem dX1_forget_14 : decode cX1_forget 14 = .ok (.iastore, 1) := by decide +kernel
theorem dX1_forget_15 : decode cX1_forget 15 = .ok (.iinc 1 1, 3) := by decide +kernel
theorem dX1_forget_18 : decode cX1_forget 18 = .ok (.goto (-16), 3) := by decide +kernel
theorem dX1_forget_21 : decode cX1_forget 21 = .ok (.iconst 0, 1) := by decide +kernel
theorem dX1_forget_22 : decode cX1_forget 22 = .ok (.istore_n 1, 1) := by decide +kernel
theorem dX1_forget_23 : decode cX1_forget 23 = .ok (.iload_n 1, 1) := by decide +kernel
theorem dX1_forget_24 : decode cX1_forget 24 = .ok (.bipush 42, 2) := by decide +kernel
theorem dX1_forget_26 : decode cX1_forget 26 = .ok (.if_icmp .ge 16, 3) := by decide +kernel
theorem dX1_forget_29 : decode cX1_forget 29 = .ok (.aload_n 0, 1) := by decide +kernel
theorem dX1_forget_30 : decode cX1_forget 30 = .ok (.getfield 15, 3) := by decide +kernel
theorem dX1_forget_33 : decode cX1_forget 33 = .ok (.iload_n 1, 1) := by decide +kernel
theorem dX1_forget_34 : decode cX1_forget 34 = .ok (.iconst 0, 1) := by decide +kernel
theorem dX1_forget_35 : decode cX1_forget 35 = .ok (.iastore, 1) := by decide +kernel
theorem dX1_forget_36 : decode cX1_forget 36 = .ok (.iinc 1 1, 3) := by decide +kernel
theorem dX1_forget_39 : decode cX1_forget 39 = .ok (.goto (-16), 3) := by decide +kernel
theorem dX1_forget_42 : decode cX1_forget 42 = .ok (.iconst 0, 1) := by decide +kernel
theorem dX1_forget_43 : decode cX1_forget 43 = .ok (.istore_n 1, 1) := by decide +kernel
theorem dX1_forget_44 : decode cX1_forget 44 = .ok (.iload_n 1, 1) := by decide +kernel
theorem dX1_forget_45 : decode cX1_forget 45 = .ok (.bipush 7, 2) := by decide +kernel
theorem dX1_forget_47 : decode cX1_forget 47 = .ok (.if_icmp .ge 37, 3) := by decide +kernel
theorem dX1_forget_50 : decode cX1_forget 50 = .ok (.aload_n 0, 1) := by decide +kernel
theorem dX1_forget_51 : decode cX1_forget 51 = .ok (.getfield 18, 3) := by decide +kernel
theorem dX1_forget_54 : decode cX1_forget 54 = .ok (.iload_n 1, 1) := by decide +kernel
theorem dX1_forget_55 : decode cX1_forget 55 = .ok (.iconst 0, 1) := by decide +kernel
theorem dX1_forget_56 : decode cX1_forget 56 = .ok (.iastore, 1) := by decide +kernel
theorem dX1_forget_57 : decode cX1_forget 57 = .ok (.aload_n 0, 1) := by decide +kernel
theorem dX1_forget_58 : decode cX1_forget 58 = .ok (.getfield 21, 3) := by decide +kernel
theorem dX1_forget_61 : decode cX1_forget 61 = .ok (.iload_n 1, 1) := by decide +kernel
theorem dX1_forget_62 : decode cX1_forget 62 = .ok (.iconst 0, 1) := by decide +kernel
theorem dX1_forget_63 : decode cX1_forget 63 = .ok (.iastore, 1) := by decide +kernel
theorem dX1_forget_64 : decode cX1_forget 64 = .ok (.aload_n 0, 1) := by decide +kernel
theorem dX1_forget_65 : decode cX1_forget 65 = .ok (.getfield 24, 3) := by decide +kernel
theorem dX1_forget_68 : decode cX1_forget 68 = .ok (.iload_n 1, 1) := by decide +kernel
theorem dX1_forget_69 : decode cX1_forget 69 = .ok (.iconst 0, 1) := by decide +kernel
theorem dX1_forget_70 : decode cX1_forget 70 = .ok (.iastore, 1) := by decide +kernel
theorem dX1_forget_71 : decode cX1_forget 71 = .ok (.aload_n 0, 1) := by decide +kernel
theorem dX1_forget_72 : decode cX1_forget 72 = .ok (.getfield 27, 3) := by decide +kernel
theorem dX1_forget_75 : decode cX1_forget 75 = .ok (.iload_n 1, 1) := by decide +kernel
theorem dX1_forget_76 : decode cX1_forget 76 = .ok (.iconst 0, 1) := by decide +kernel
theorem dX1_forget_77 : decode cX1_forget 77 = .ok (.iastore, 1) := by decide +kernel
theorem dX1_forget_78 : decode cX1_forget 78 = .ok (.iinc 1 1, 3) := by decide +kernel
theorem dX1_forget_81 : decode cX1_forget 81 = .ok (.goto (-37), 3) := by decide +kernel
theorem dX1_forget_84 : decode cX1_forget 84 = .ok (.aload_n 0, 1) := by decide +kernel
theorem dX1_forget_85 : decode cX1_forget 85 = .ok (.iconst 0, 1) := by decide +kernel
theorem dX1_forget_86 : decode cX1_forget 86 = .ok (.putfield 30, 3) := by decide +kernel
theorem dX1_forget_89 : decode cX1_forget 89 = .ok (.aload_n 0, 1) := by decide +kernel
theorem dX1_forget_90 : decode cX1_forget 90 = .ok (.iconst 0, 1) := by decide +kernel
theorem dX1_forget_91 : decode cX1_forget 91 = .ok (.putfield 34, 3) := by decide +kernel
theorem dX1_forget_94 : decode cX1_forget 94 = .ok (.aload_n 0, 1) := by decide +kernel
theorem dX1_forget_95 : decode cX1_forget 95 = .ok (.iconst 0, 1) := by decide +kernel
theorem dX1_forget_96 : decode cX1_forget 96 = .ok (.putfield 37, 3) := by decide +kernel
theorem dX1_forget_99 : decode cX1_forget 99 = .ok (.aload_n 0, 1) := by decide +kernel
theorem dX1_forget_100 : decode cX1_forget 100 = .ok (.iconst 0, 1) := by decide +kernel
theorem dX1_forget_101 : decode cX1_forget 101 = .ok (.putfield 40, 3) := by decide +kernel
theorem dX1_forget_104 : decode cX1_forget 104 = .ok (.aload_n 0, 1) := by decide +kernel
theorem dX1_forget_105 : decode cX1_forget 105 = .ok (.iconst 0, 1) := by decide +kernel
theorem dX1_forget_106 : decode cX1_forget 106 = .ok (.putfield 43, 3) := by decide +kernel
theorem dX1_forget_109 : decode cX1_forget 109 = .ok (.aload_n 0, 1) := by decide +kernel
theorem dX1_forget_110 : decode cX1_forget 110 = .ok (.iconst 0, 1) := by decide +kernel
theorem dX1_forget_111 : decode cX1_forget 111 = .ok (.putfield 46, 3) := by decide +kernel
theorem dX1_forget_114 : decode cX1_forget 114 = .ok (.return_, 1) := by decide +kernel
theorem dX8_dishNamed_0 : decode cX8_dishNamed 0 = .ok (.iconst 0, 1) := by decide +kernel
theorem dX8_dishNamed_1 : decode cX8_dishNamed 1 = .ok (.istore_n 3, 1) := by decide +kernel
theorem dX8_dishNamed_2 : decode cX8_dishNamed 2 = .ok (.iload_n 3, 1) := by decide +kernel
theorem dX8_dishNamed_3 : decode cX8_dishNamed 3 = .ok (.aload_n 0, 1) := by decide +kernel
theorem dX8_dishNamed_4 : decode cX8_dishNamed 4 = .ok (.getfield 32, 3) := by decide +kernel
theorem dX8_dishNamed_7 : decode cX8_dishNamed 7 = .ok (.if_icmp .ge 22, 3) := by decide +kernel
theorem dX8_dishNamed_10 : decode cX8_dishNamed 10 = .ok (.aload_n 0, 1) := by decide +kernel
theorem dX8_dishNamed_11 : decode cX8_dishNamed 11 = .ok (.getfield 22, 3) := by decide +kernel
theorem dX8_dishNamed_14 : decode cX8_dishNamed 14 = .ok (.iload_n 3, 1) := by decide +kernel
theorem dX8_dishNamed_15 : decode cX8_dishNamed 15 = .ok (.laload, 1) := by decide +kernel
theorem dX8_dishNamed_16 : decode cX8_dishNamed 16 = .ok (.lload_n 1, 1) := by decide +kernel
theorem dX8_dishNamed_17 : decode cX8_dishNamed 17 = .ok (.lcmp, 1) := by decide +kernel
theorem dX8_dishNamed_18 : decode cX8_dishNamed 18 = .ok (.ifCond .ne 5, 3) := by decide +kernel
theorem dX8_dishNamed_21 : decode cX8_dishNamed 21 = .ok (.iload_n 3, 1) := by decide +kernel
theorem dX8_dishNamed_22 : decode cX8_dishNamed 22 = .ok (.ireturn, 1) := by decide +kernel
theorem dX8_dishNamed_23 : decode cX8_dishNamed 23 = .ok (.iinc 3 1, 3) := by decide +kernel
theorem dX8_dishNamed_26 : decode cX8_dishNamed 26 = .ok (.goto (-24), 3) := by decide +kernel
theorem dX8_dishNamed_29 : decode cX8_dishNamed 29 = .ok (.iconst (-1), 1) := by decide +kernel
theorem dX8_dishNamed_30 : decode cX8_dishNamed 30 = .ok (.ireturn, 1) := by decide +kernel
theorem dX8_forget_0 : decode cX8_forget 0 = .ok (.aload_n 0, 1) := by decide +kernel
theorem dX8_forget_1 : decode cX8_forget 1 = .ok (.iconst 0, 1) := by decide +kernel
theorem dX8_forget_2 : decode cX8_forget 2 = .ok (.putfield 28, 3) := by decide +kernel
theorem dX8_forget_5 : decode cX8_forget 5 = .ok (.aload_n 0, 1) := by decide +kernel
theorem dX8_forget_6 : decode cX8_forget 6 = .ok (.iconst 0, 1) := by decide +kernel
theorem dX8_forget_7 : decode cX8_forget 7 = .ok (.putfield 32, 3) := by decide +kernel
theorem dX8_forget_10 : decode cX8_forget 10 = .ok (.aload_n 0, 1) := by decide +kernel
theorem dX8_forget_11 : decode cX8_forget 11 = .ok (.iconst 0, 1) := by decide +kernel
theorem dX8_forget_12 : decode cX8_forget 12 = .ok (.putfield 35, 3) := by decide +kernel
theorem dX8_forget_15 : decode cX8_forget 15 = .ok (.aload_n 0, 1) := by decide +kernel
theorem dX8_forget_16 : decode cX8_forget 16 = .ok (.iconst 0, 1) := by decide +kernel
theorem dX8_forget_17 : decode cX8_forget 17 = .ok (.putfield 38, 3) := by decide +kernel
theorem dX8_forget_20 : decode cX8_forget 20 = .ok (.return_, 1) := by decide +kernel
theorem dX8_personNamed_0 : decode cX8_personNamed 0 = .ok (.iconst 0, 1) := by decide +kernel
theorem dX8_personNamed_1 : decode cX8_personNamed 1 = .ok (.istore_n 3, 1) := by decide +kernel
theorem dX8_personNamed_2 : decode cX8_personNamed 2 = .ok (.iload_n 3, 1) := by decide +kernel
theorem dX8_personNamed_3 : decode cX8_personNamed 3 = .ok (.aload_n 0, 1) := by decide +kernel
theorem dX8_personNamed_4 : decode cX8_personNamed 4 = .ok (.getfield 28, 3) := by decide +kernel
theorem dX8_personNamed_7 : decode cX8_personNamed 7 = .ok (.if_icmp .ge 22, 3) := by decide +kernel
theorem dX8_personNamed_10 : decode cX8_personNamed 10 = .ok (.aload_n 0, 1) := by decide +kernel
theorem dX8_personNamed_11 : decode cX8_personNamed 11 = .ok (.getfield 9, 3) := by decide +kernel
theorem dX8_personNamed_14 : decode cX8_personNamed 14 = .ok (.iload_n 3, 1) := by decide +kernel
theorem dX8_personNamed_15 : decode cX8_personNamed 15 = .ok (.laload, 1) := by decide +kernel
theorem dX8_personNamed_16 : decode cX8_personNamed 16 = .ok (.lload_n 1, 1) := by decide +kernel
theorem dX8_personNamed_17 : decode cX8_personNamed 17 = .ok (.lcmp, 1) := by decide +kernel
theorem dX8_personNamed_18 : decode cX8_personNamed 18 = .ok (.ifCond .ne 5, 3) := by decide +kernel
theorem dX8_personNamed_21 : decode cX8_personNamed 21 = .ok (.iload_n 3, 1) := by decide +kernel
theorem dX8_personNamed_22 : decode cX8_personNamed 22 = .ok (.ireturn, 1) := by decide +kernel
theorem dX8_personNamed_23 : decode cX8_personNamed 23 = .ok (.iinc 3 1, 3) := by decide +kernel
theorem dX8_personNamed_26 : decode cX8_personNamed 26 = .ok (.goto (-24), 3) := by decide +kernel
theorem dX8_personNamed_29 : decode cX8_personNamed 29 = .ok (.iconst (-1), 1) := by decide +kernel
theorem dX8_personNamed_30 : decode cX8_personNamed 30 = .ok (.ireturn, 1) := by decide +kernel
theorem dX9_newName_0 : decode cX9_newName 0 = .ok (.aload_n 1, 1) := by decide +kernel
theorem dX9_newName_1 : decode cX9_newName 1 = .ok (.getfield 44, 3) := by decide +kernel
theorem dX9_newName_4 : decode cX9_newName 4 = .ok (.bipush 100, 2) := by decide +kernel
theorem dX9_newName_6 : decode cX9_newName 6 = .ok (.if_icmp .eq 9, 3) := by decide +kernel
theorem dX9_newName_9 : decode cX9_newName 9 = .ok (.aload_n 1, 1) := by decide +kernel
theorem dX9_newName_10 : decode cX9_newName 10 = .ok (.iconst 1, 1) := by decide +kernel
theorem dX9_newName_11 : decode cX9_newName 11 = .ok (.invokevirtual 67, 3) := by decide +kernel
theorem dX9_newName_14 : decode cX9_newName 14 = .ok (.ireturn, 1) := by decide +kernel
theorem dX9_newName_15 : decode cX9_newName 15 = .ok (.aload_n 0, 1) := by decide +kernel
theorem dX9_newName_16 : decode cX9_newName 16 = .ok (.getfield 12, 3) := by decide +kernel
theorem dX9_newName_19 : decode cX9_newName 19 = .ok (.aload_n 1, 1) := by decide +kernel
theorem dX9_newName_20 : decode cX9_newName 20 = .ok (.getfield 71, 3) := by decide +kernel
theorem dX9_newName_23 : decode cX9_newName 23 = .ok (.invokevirtual 75, 3) := by decide +kernel
theorem dX9_newName_26 : decode cX9_newName 26 = .ok (.iconst (-1), 1) := by decide +kernel
theorem dX9_newName_27 : decode cX9_newName 27 = .ok (.if_icmp .ne 18, 3) := by decide +kernel
theorem dX9_newName_30 : decode cX9_newName 30 = .ok (.aload_n 0, 1) := by decide +kernel
theorem dX9_newName_31 : decode cX9_newName 31 = .ok (.getfield 12, 3) := by decide +kernel
theorem dX9_newName_34 : decode cX9_newName 34 = .ok (.aload_n 1, 1) := by decide +kernel
theorem dX9_newName_35 : decode cX9_newName 35 = .ok (.getfield 71, 3) := by decide +kernel
theorem dX9_newName_38 : decode cX9_newName 38 = .ok (.invokevirtual 79, 3) := by decide +kernel
theorem dX9_newName_41 : decode cX9_newName 41 = .ok (.iconst (-1), 1) := by decide +kernel
theorem dX9_newName_42 : decode cX9_newName 42 = .ok (.if_icmp .eq 9, 3) := by decide +kernel
theorem dX9_newName_45 : decode cX9_newName 45 = .ok (.aload_n 1, 1) := by decide +kernel
theorem dX9_newName_46 : decode cX9_newName 46 = .ok (.iconst 3, 1) := by decide +kernel
theorem dX9_newName_47 : decode cX9_newName 47 = .ok (.invokevirtual 67, 3) := by decide +kernel
theorem dX9_newName_50 : decode cX9_newName 50 = .ok (.ireturn, 1) := by decide +kernel
theorem dX9_newName_51 : decode cX9_newName 51 = .ok (.aload_n 1, 1) := by decide +kernel
theorem dX9_newName_52 : decode cX9_newName 52 = .ok (.invokevirtual 82, 3) := by decide +kernel
theorem dX9_newName_55 : decode cX9_newName 55 = .ok (.iconst 1, 1) := by decide +kernel
theorem dX9_newName_56 : decode cX9_newName 56 = .ok (.ireturn, 1) := by decide +kernel
theorem dX9_readDish_0 : decode cX9_readDish 0 = .ok (.aload_n 0, 1) := by decide +kernel
theorem dX9_readDish_1 : decode cX9_readDish 1 = .ok (.getfield 12, 3) := by decide +kernel
theorem dX9_readDish_4 : decode cX9_readDish 4 = .ok (.getfield 113, 3) := by decide +kernel
theorem dX9_readDish_7 : decode cX9_readDish 7 = .ok (.bipush 6, 2) := by decide +kernel
theorem dX9_readDish_9 : decode cX9_readDish 9 = .ok (.if_icmp .lt 9, 3) := by decide +kernel
theorem dX9_readDish_12 : decode cX9_readDish 12 = .ok (.aload_n 1, 1) := by decide +kernel
theorem dX9_readDish_13 : decode cX9_readDish 13 = .ok (.iconst 4, 1) := by decide +kernel
theorem dX9_readDish_14 : decode cX9_readDish 14 = .ok (.invokevirtual 67, 3) := by decide +kernel
theorem dX9_readDish_17 : decode cX9_readDish 17 = .ok (.ireturn, 1) := by decide +kernel
theorem dX9_readDish_18 : decode cX9_readDish 18 = .ok (.aload_n 1, 1) := by decide +kernel
theorem dX9_readDish_19 : decode cX9_readDish 19 = .ok (.invokevirtual 82, 3) := by decide +kernel
theorem dX9_readDish_22 : decode cX9_readDish 22 = .ok (.aload_n 1, 1) := by decide +kernel
theorem dX9_readDish_23 : decode cX9_readDish 23 = .ok (.getfield 71, 3) := by decide +kernel
theorem dX9_readDish_26 : decode cX9_readDish 26 = .ok (.lstore_n 2, 1) := by decide +kernel
theorem dX9_readDish_27 : decode cX9_readDish 27 = .ok (.aload_n 0, 1) := by decide +kernel
theorem dX9_readDish_28 : decode cX9_readDish 28 = .ok (.aload_n 1, 1) := by decide +kernel
theorem dX9_readDish_29 : decode cX9_readDish 29 = .ok (.invokevirtual 88, 3) := by decide +kernel
theorem dX9_readDish_32 : decode cX9_readDish 32 = .ok (.ifCond .ne 5, 3) := by decide +kernel
theorem dX9_readDish_35 : decode cX9_readDish 35 = .ok (.iconst 0, 1) := by decide +kernel
theorem dX9_readDish_36 : decode cX9_readDish 36 = .ok (.ireturn, 1) := by decide +kernel
theorem dX9_readDish_37 : decode cX9_readDish 37 = .ok (.aload_n 1, 1) := by decide +kernel
theorem dX9_readDish_38 : decode cX9_readDish 38 = .ok (.iconst 0, 1) := by decide +kernel
theorem dX9_readDish_39 : decode cX9_readDish 39 = .ok (.bipush 99, 2) := by decide +kernel
theorem dX9_readDish_41 : decode cX9_readDish 41 = .ok (.invokevirtual 91, 3) := by decide +kernel
theorem dX9_readDish_44 : decode cX9_readDish 44 = .ok (.istore 4, 2) := by decide +kernel
theorem dX9_readDish_46 : decode cX9_readDish 46 = .ok (.iload 4, 2) := by decide +kernel
theorem dX9_readDish_48 : decode cX9_readDish 48 = .ok (.iconst (-1), 1) := by decide +kernel
theorem dX9_readDish_49 : decode cX9_readDish 49 = .ok (.if_icmp .ne 5, 3) := by decide +kernel
theorem dX9_readDish_52 : decode cX9_readDish 52 = .ok (.iconst 0, 1) := by decide +kernel
theorem dX9_readDish_53 : decode cX9_readDish 53 = .ok (.ireturn, 1) := by decide +kernel
theorem dX9_readDish_54 : decode cX9_readDish 54 = .ok (.iconst 0, 1) := by decide +kernel
theorem dX9_readDish_55 : decode cX9_readDish 55 = .ok (.istore 5, 2) := by decide +kernel
theorem dX9_readDish_57 : decode cX9_readDish 57 = .ok (.aload_n 1, 1) := by decide +kernel
theorem dX9_readDish_58 : decode cX9_readDish 58 = .ok (.getfield 44, 3) := by decide +kernel
theorem dX9_readDish_61 : decode cX9_readDish 61 = .ok (.bipush 6, 2) := by decide +kernel
theorem dX9_readDish_63 : decode cX9_readDish 63 = .ok (.if_icmp .ne 24, 3) := by decide +kernel
theorem dX9_readDish_66 : decode cX9_readDish 66 = .ok (.aload_n 1, 1) := by decide +kernel
theorem dX9_readDish_67 : decode cX9_readDish 67 = .ok (.invokevirtual 82, 3) := by decide +kernel
theorem dX9_readDish_70 : decode cX9_readDish 70 = .ok (.aload_n 1, 1) := by decide +kernel
theorem dX9_readDish_71 : decode cX9_readDish 71 = .ok (.iconst 1, 1) := by decide +kernel
theorem dX9_readDish_72 : decode cX9_readDish 72 = .ok (.bipush 9, 2) := by decide +kernel
theorem dX9_readDish_74 : decode cX9_readDish 74 = .ok (.invokevirtual 91, 3) := by decide +kernel
theorem dX9_readDish_77 : decode cX9_readDish 77 = .ok (.istore 5, 2) := by decide +kernel
theorem dX9_readDish_79 : decode cX9_readDish 79 = .ok (.iload 5, 2) := by decide +kernel
theorem dX9_readDish_81 : decode cX9_readDish 81 = .ok (.iconst (-1), 1) := by decide +kernel
theorem dX9_readDish_82 : decode cX9_readDish 82 = .ok (.if_icmp .ne 5, 3) := by decide +kernel
theorem dX9_readDish_85 : decode cX9_readDish 85 = .ok (.iconst 0, 1) := by decide +kernel
theorem dX9_readDish_86 : decode cX9_readDish 86 = .ok (.ireturn, 1) := by decide +kernel
theorem dX9_readDish_87 : decode cX9_readDish 87 = .ok (.aload_n 0, 1) := by decide +kernel
theorem dX9_readDish_88 : decode cX9_readDish 88 = .ok (.getfield 12, 3) := by decide +kernel
theorem dX9_readDish_91 : decode cX9_readDish 91 = .ok (.getfield 116, 3) := by decide +kernel
theorem dX9_readDish_94 : decode cX9_readDish 94 = .ok (.aload_n 0, 1) := by decide +kernel
theorem dX9_readDish_95 : decode cX9_readDish 95 = .ok (.getfield 12, 3) := by decide +kernel
theorem dX9_readDish_98 : decode cX9_readDish 98 = .ok (.getfield 113, 3) := by decide +kernel
theorem dX9_readDish_101 : decode cX9_readDish 101 = .ok (.lload_n 2, 1) := by decide +kernel
theorem dX9_readDish_102 : decode cX9_readDish 102 = .ok (.lastore, 1) := by decide +kernel
theorem dX9_readDish_103 : decode cX9_readDish 103 = .ok (.aload_n 0, 1) := by decide +kernel
theorem dX9_readDish_104 : decode cX9_readDish 104 = .ok (.getfield 12, 3) := by decide +kernel
theorem dX9_readDish_107 : decode cX9_readDish 107 = .ok (.getfield 119, 3) := by decide +kernel
theorem dX9_readDish_110 : decode cX9_readDish 110 = .ok (.aload_n 0, 1) := by decide +kernel
theorem dX9_readDish_111 : decode cX9_readDish 111 = .ok (.getfield 12, 3) := by decide +kernel
theorem dX9_readDish_114 : decode cX9_readDish 114 = .ok (.getfield 113, 3) := by decide +kernel
theorem dX9_readDish_117 : decode cX9_readDish 117 = .ok (.iload 5, 2) := by decide +kernel
theorem dX9_readDish_119 : decode cX9_readDish 119 = .ok (.iastore, 1) := by decide +kernel
theorem dX9_readDish_120 : decode cX9_readDish 120 = .ok (.aload_n 0, 1) := by decide +kernel
theorem dX9_readDish_121 : decode cX9_readDish 121 = .ok (.getfield 23, 3) := by decide +kernel
theorem dX9_readDish_124 : decode cX9_readDish 124 = .ok (.getfield 122, 3) := by decide +kernel
theorem dX9_readDish_127 : decode cX9_readDish 127 = .ok (.aload_n 0, 1) := by decide +kernel
theorem dX9_readDish_128 : decode cX9_readDish 128 = .ok (.getfield 12, 3) := by decide +kernel
theorem dX9_readDish_131 : decode cX9_readDish 131 = .ok (.getfield 113, 3) := by decide +kernel
theorem dX9_readDish_134 : decode cX9_readDish 134 = .ok (.iload 4, 2) := by decide +kernel
theorem dX9_readDish_136 : decode cX9_readDish 136 = .ok (.iastore, 1) := by decide +kernel
theorem dX9_readDish_137 : decode cX9_readDish 137 = .ok (.aload_n 0, 1) := by decide +kernel
theorem dX9_readDish_138 : decode cX9_readDish 138 = .ok (.getfield 12, 3) := by decide +kernel
theorem dX9_readDish_141 : decode cX9_readDish 141 = .ok (.dup, 1) := by decide +kernel
theorem dX9_readDish_142 : decode cX9_readDish 142 = .ok (.getfield 113, 3) := by decide +kernel
theorem dX9_readDish_145 : decode cX9_readDish 145 = .ok (.iconst 1, 1) := by decide +kernel
theorem dX9_readDish_146 : decode cX9_readDish 146 = .ok (.iadd, 1) := by decide +kernel
theorem dX9_readDish_147 : decode cX9_readDish 147 = .ok (.putfield 113, 3) := by decide +kernel
theorem dX9_readDish_150 : decode cX9_readDish 150 = .ok (.aload_n 1, 1) := by decide +kernel
theorem dX9_readDish_151 : decode cX9_readDish 151 = .ok (.bipush 59, 2) := by decide +kernel
theorem dX9_readDish_153 : decode cX9_readDish 153 = .ok (.invokevirtual 110, 3) := by decide +kernel
theorem dX9_readDish_156 : decode cX9_readDish 156 = .ok (.ireturn, 1) := by decide +kernel
theorem dX9_readDogs_0 : decode cX9_readDogs 0 = .ok (.aload_n 0, 1) := by decide +kernel
theorem dX9_readDogs_1 : decode cX9_readDogs 1 = .ok (.getfield 31, 3) := by decide +kernel
theorem dX9_readDogs_4 : decode cX9_readDogs 4 = .ok (.ifCond .eq 9, 3) := by decide +kernel
theorem dX9_readDogs_7 : decode cX9_readDogs 7 = .ok (.aload_n 1, 1) := by decide +kernel
theorem dX9_readDogs_8 : decode cX9_readDogs 8 = .ok (.iconst 3, 1) := by decide +kernel
theorem dX9_readDogs_9 : decode cX9_readDogs 9 = .ok (.invokevirtual 67, 3) := by decide +kernel
theorem dX9_readDogs_12 : decode cX9_readDogs 12 = .ok (.ireturn, 1) := by decide +kernel
theorem dX9_readDogs_13 : decode cX9_readDogs 13 = .ok (.aload_n 0, 1) := by decide +kernel
theorem dX9_readDogs_14 : decode cX9_readDogs 14 = .ok (.iconst 1, 1) := by decide +kernel
theorem dX9_readDogs_15 : decode cX9_readDogs 15 = .ok (.putfield 31, 3) := by decide +kernel
theorem dX9_readDogs_18 : decode cX9_readDogs 18 = .ok (.aload_n 1, 1) := by decide +kernel
theorem dX9_readDogs_19 : decode cX9_readDogs 19 = .ok (.invokevirtual 82, 3) := by decide +kernel
theorem dX9_readDogs_22 : decode cX9_readDogs 22 = .ok (.aload_n 0, 1) := by decide +kernel
theorem dX9_readDogs_23 : decode cX9_readDogs 23 = .ok (.getfield 12, 3) := by decide +kernel
theorem dX9_readDogs_26 : decode cX9_readDogs 26 = .ok (.aload_n 1, 1) := by decide +kernel
theorem dX9_readDogs_27 : decode cX9_readDogs 27 = .ok (.iconst 0, 1) := by decide +kernel
theorem dX9_readDogs_28 : decode cX9_readDogs 28 = .ok (.bipush 9, 2) := by decide +kernel
theorem dX9_readDogs_30 : decode cX9_readDogs 30 = .ok (.invokevirtual 91, 3) := by decide +kernel
theorem dX9_readDogs_33 : decode cX9_readDogs 33 = .ok (.putfield 135, 3) := by decide +kernel
theorem dX9_readDogs_36 : decode cX9_readDogs 36 = .ok (.aload_n 0, 1) := by decide +kernel
theorem dX9_readDogs_37 : decode cX9_readDogs 37 = .ok (.getfield 12, 3) := by decide +kernel
theorem dX9_readDogs_40 : decode cX9_readDogs 40 = .ok (.getfield 135, 3) := by decide +kernel
theorem dX9_readDogs_43 : decode cX9_readDogs 43 = .ok (.iconst (-1), 1) := by decide +kernel
theorem dX9_readDogs_44 : decode cX9_readDogs 44 = .ok (.if_icmp .eq 16, 3) := by decide +kernel
theorem dX9_readDogs_47 : decode cX9_readDogs 47 = .ok (.aload_n 1, 1) := by decide +kernel
theorem dX9_readDogs_48 : decode cX9_readDogs 48 = .ok (.bipush 59, 2) := by decide +kernel
theorem dX9_readDogs_50 : decode cX9_readDogs 50 = .ok (.invokevirtual 110, 3) := by decide +kernel
theorem dX9_readDogs_53 : decode cX9_readDogs 53 = .ok (.ifCond .eq 7, 3) := by decide +kernel
theorem dX9_readDogs_56 : decode cX9_readDogs 56 = .ok (.iconst 1, 1) := by decide +kernel
theorem dX9_readDogs_57 : decode cX9_readDogs 57 = .ok (.goto 4, 3) := by decide +kernel
theorem dX9_readDogs_60 : decode cX9_readDogs 60 = .ok (.iconst 0, 1) := by decide +kernel
theorem dX9_readDogs_61 : decode cX9_readDogs 61 = .ok (.ireturn, 1) := by decide +kernel
theorem dX9_readLaw_0 : decode cX9_readLaw 0 = .ok (.aload_n 0, 1) := by decide +kernel
theorem dX9_readLaw_1 : decode cX9_readLaw 1 = .ok (.getfield 27, 3) := by decide +kernel
theorem dX9_readLaw_4 : decode cX9_readLaw 4 = .ok (.ifCond .eq 9, 3) := by decide +kernel
theorem dX9_readLaw_7 : decode cX9_readLaw 7 = .ok (.aload_n 1, 1) := by decide +kernel
theorem dX9_readLaw_8 : decode cX9_readLaw 8 = .ok (.iconst 3, 1) := by decide +kernel
theorem dX9_readLaw_9 : decode cX9_readLaw 9 = .ok (.invokevirtual 67, 3) := by decide +kernel
theorem dX9_readLaw_12 : decode cX9_readLaw 12 = .ok (.ireturn, 1) := by decide +kernel
theorem dX9_readLaw_13 : decode cX9_readLaw 13 = .ok (.aload_n 0, 1) := by decide +kernel
theorem dX9_readLaw_14 : decode cX9_readLaw 14 = .ok (.iconst 1, 1) := by decide +kernel
theorem dX9_readLaw_15 : decode cX9_readLaw 15 = .ok (.putfield 27, 3) := by decide +kernel
theorem dX9_readLaw_18 : decode cX9_readLaw 18 = .ok (.aload_n 1, 1) := by decide +kernel
theorem dX9_readLaw_19 : decode cX9_readLaw 19 = .ok (.invokevirtual 82, 3) := by decide +kernel
theorem dX9_readLaw_22 : decode cX9_readLaw 22 = .ok (.aload_n 1, 1) := by decide +kernel
theorem dX9_readLaw_23 : decode cX9_readLaw 23 = .ok (.getfield 44, 3) := by decide +kernel
theorem dX9_readLaw_26 : decode cX9_readLaw 26 = .ok (.bipush 7, 2) := by decide +kernel
theorem dX9_readLaw_28 : decode cX9_readLaw 28 = .ok (.if_icmp .ne 14, 3) := by decide +kernel
theorem dX9_readLaw_31 : decode cX9_readLaw 31 = .ok (.aload_n 0, 1) := by decide +kernel
theorem dX9_readLaw_32 : decode cX9_readLaw 32 = .ok (.getfield 12, 3) := by decide +kernel
theorem dX9_readLaw_35 : decode cX9_readLaw 35 = .ok (.iconst 0, 1) := by decide +kernel
theorem dX9_readLaw_36 : decode cX9_readLaw 36 = .ok (.putfield 132, 3) := by decide +kernel
theorem dX9_readLaw_39 : decode cX9_readLaw 39 = .ok (.goto 49, 3) := by decide +kernel
theorem dX9_readLaw_42 : decode cX9_readLaw 42 = .ok (.aload_n 1, 1) := by decide +kernel
theorem dX9_readLaw_43 : decode cX9_readLaw 43 = .ok (.getfield 44, 3) := by decide +kernel
theorem dX9_readLaw_46 : decode cX9_readLaw 46 = .ok (.bipush 8, 2) := by decide +kernel
theorem dX9_readLaw_48 : decode cX9_readLaw 48 = .ok (.if_icmp .ne 14, 3) := by decide +kernel
theorem dX9_readLaw_51 : decode cX9_readLaw 51 = .ok (.aload_n 0, 1) := by decide +kernel
theorem dX9_readLaw_52 : decode cX9_readLaw 52 = .ok (.getfield 12, 3) := by decide +kernel
theorem dX9_readLaw_55 : decode cX9_readLaw 55 = .ok (.iconst 1, 1) := by decide +kernel
theorem dX9_readLaw_56 : decode cX9_readLaw 56 = .ok (.putfield 132, 3) := by decide +kernel
theorem dX9_readLaw_59 : decode cX9_readLaw 59 = .ok (.goto 29, 3) := by decide +kernel
theorem dX9_readLaw_62 : decode cX9_readLaw 62 = .ok (.aload_n 1, 1) := by decide +kernel
theorem dX9_readLaw_63 : decode cX9_readLaw 63 = .ok (.getfield 44, 3) := by decide +kernel
theorem dX9_readLaw_66 : decode cX9_readLaw 66 = .ok (.bipush 9, 2) := by decide +kernel
theorem dX9_readLaw_68 : decode cX9_readLaw 68 = .ok (.if_icmp .ne 14, 3) := by decide +kernel
theorem dX9_readLaw_71 : decode cX9_readLaw 71 = .ok (.aload_n 0, 1) := by decide +kernel
theorem dX9_readLaw_72 : decode cX9_readLaw 72 = .ok (.getfield 12, 3) := by decide +kernel
theorem dX9_readLaw_75 : decode cX9_readLaw 75 = .ok (.iconst 2, 1) := by decide +kernel
theorem dX9_readLaw_76 : decode cX9_readLaw 76 = .ok (.putfield 132, 3) := by decide +kernel
theorem dX9_readLaw_79 : decode cX9_readLaw 79 = .ok (.goto 9, 3) := by decide +kernel
theorem dX9_readLaw_82 : decode cX9_readLaw 82 = .ok (.aload_n 1, 1) := by decide +kernel
theorem dX9_readLaw_83 : decode cX9_readLaw 83 = .ok (.iconst 1, 1) := by decide +kernel
theorem dX9_readLaw_84 : decode cX9_readLaw 84 = .ok (.invokevirtual 67, 3) := by decide +kernel
theorem dX9_readLaw_87 : decode cX9_readLaw 87 = .ok (.ireturn, 1) := by decide +kernel
theorem dX9_readLaw_88 : decode cX9_readLaw 88 = .ok (.aload_n 1, 1) := by decide +kernel
theorem dX9_readLaw_89 : decode cX9_readLaw 89 = .ok (.invokevirtual 82, 3) := by decide +kernel
theorem dX9_readLaw_92 : decode cX9_readLaw 92 = .ok (.aload_n 1, 1) := by decide +kernel
theorem dX9_readLaw_93 : decode cX9_readLaw 93 = .ok (.bipush 59, 2) := by decide +kernel
theorem dX9_readLaw_95 : decode cX9_readLaw 95 = .ok (.invokevirtual 110, 3) := by decide +kernel
theorem dX9_readLaw_98 : decode cX9_readLaw 98 = .ok (.ireturn, 1) := by decide +kernel
theorem rc_2 : Rg 2 2 2 := ⟨by decide, by decide⟩
theorem rc_3 : Rg 3 3 3 := ⟨by decide, by decide⟩
theorem rc_4 : Rg 4 4 4 := ⟨by decide, by decide⟩
theorem rc_6 : Rg 6 6 6 := ⟨by decide, by decide⟩
theorem rc_7 : Rg 7 7 7 := ⟨by decide, by decide⟩
theorem rc_8 : Rg 8 8 8 := ⟨by decide, by decide⟩
theorem rc_9 : Rg 9 9 9 := ⟨by decide, by decide⟩
theorem rc_10 : Rg 10 10 10 := ⟨by decide, by decide⟩
theorem rc_32 : Rg 32 32 32 := ⟨by decide, by decide⟩
theorem rc_42 : Rg 42 42 42 := ⟨by decide, by decide⟩
theorem rc_99 : Rg 99 99 99 := ⟨by decide, by decide⟩
theorem rc_101 : Rg 101 101 101 := ⟨by decide, by decide⟩
theorem rc_102 : Rg 102 102 102 := ⟨by decide, by decide⟩
theorem rc_103 : Rg 103 103 103 := ⟨by decide, by decide⟩
set_option maxRecDepth 100000 in
set_option maxHeartbeats 8000000 in
theorem c_X10_readToken {l : Launch} {D : va_G} {cy : Nat → ClassId} {L : List Nat} {κ ln : Nat → Nat} {R : Nat → Nat → Option Nat} {I : Nat → Nat → Int32} {J : Nat → Nat → Int64} {ow : Nat → Nat × Nat} (W9 : ∀ a ∈ L, Shp L κ ln R ow a) {x : Nat} (hLx : x ∈ L) (hkx : κ x = 10) (a0 : Int32) (ra0 : Rg 0 899 a0) (hU : Uv L κ ow I) : CtI l yX10_readToken cX10_readToken 8 (some .int) { frames := 1, cells := 0, slots := 0, locals := 24 } D cy L κ ln R I J [.ref x, .int a0] (fun r I2 J2 => Uv L κ ow I2 ∧ Fq L κ ow [1006, 70200, 70300] I I2 ∧ Fq L κ ow [70400] J J2 ∧ Rg 0 940 r) := by
  refine CtI.of (by decide +kernel) (Nat.le_of_ble_eq_true rfl) ?_
  intro p e s m below meth c B K
  have C := B.1
  have hF : Fq L κ ow [1006, 70200, 70300] I I := fq_rf
  have hG : Fq L κ ow [70400] J J := fq_rf
  obtain ⟨b_401233, hb_401233, hb_401233L, hb_401233k, hb_401233n, hb_401233o⟩ := shp_a (W9 x hLx) hkx 0 13 940 rfl (by decide)
  refine g_lo (is := [0, 1]) (lo2 := [(0, .ref x), (1, .int a0)]) rfl ?_
  have j_205 : ∀ (I_401234 : Nat → Nat → Int32) (J_401235 : Nat → Nat → Int64) (hU_401236 : Uv L κ ow I_401234) (hF_401237 : Fq L κ ow [1006, 70200, 70300] I I_401234) (hG_401238 : Fq L κ ow [70400] J J_401235) (v_401239 : Int32) (rv_401239 : Rg 0 899 v_401239) (v_401240 : Int32) (v_401241 : Int32) (y_401242 : Int64) (v_401243 : Int32) (v_401244 : Int32) (rv_401244 : Rg 0 940 v_401244) (v_401245 : Int32) (rv_401245 : Rg 0 940 v_401245) (q_401246 : I_401234 x 5 = v_401245), WG p l e { frames := 1, cells := 0, slots := 0, locals := 24 } s m ([.ref x, .int a0] : List Value).toArray below meth c 8 0 0 (MQ below (Qi_ D cy L κ ln R (fun r I2 J2 => Uv L κ ow I2 ∧ Fq L κ ow [1006, 70200, 70300] I I2 ∧ Fq L κ ow [70400] J J2 ∧ Rg 0 940 r)) ([.ref x, .int a0] : List Value).toArray s 0 0 (Al_ L)) D cy (Al_ L) s.heap L κ ln R I_401234 J_401235 205 [(0, .ref x), (1, .int v_401239), (2, .int v_401240), (3, .int v_401241), (4, .long y_401242), (6, .int v_401243), (7, .int v_401244)] [] := by
    intro I_401234 J_401235 hU_401236 hF_401237 hG_401238 v_401239 rv_401239 v_401240 v_401241 y_401242 v_401243 v_401244 rv_401244 v_401245 rv_401245 q_401246
    refine g_aload_n C 0 dX10_readToken_205 rfl rfl ?_
    refine g_bipush C (v := 103) dX10_readToken_206 (by decide) ?_
    refine g_iload_n C 1 dX10_readToken_208 rfl rfl ?_
    refine g_lconst C (v := 0) dX10_readToken_209 (by decide) ?_
    refine g_callVV C K (c_X10_addToken W9 hLx hkx 103 v_401239 0 (rg_w rc_103 (by decide) (by decide)) (rg_w rv_401239 (by decide) (by decide)) hU_401236) hLx hkx (by decide) rfl v_10_80 rfl ⟨rfl, rfl⟩ ⟨Nat.le_of_ble_eq_true rfl, Nat.le_of_ble_eq_true rfl⟩ (Nat.le_of_ble_eq_true rfl) ⟨Nat.le_of_ble_eq_true rfl, Nat.le_of_ble_eq_true rfl⟩ dX10_readToken_210 rfl (st := []) (fun I_401248 J_401249 h_401250 => ?_)
    obtain ⟨hUI_401248, hFI_401248, hGJ_401249⟩ := h_401250
    have hF_401251 := fq_tr hF_401237 hFI_401248 (by decide)
    have hG_401252 := fq_tr hG_401238 hGJ_401249 (by decide)
    refine g_iload C 6 dX10_readToken_213 rfl ?_
    exact g_zret (ty := .int) (r := v_401244) B K rfl (rfl) ⟨hUI_401248, hF_401251, hG_401252, rv_401244⟩ dX10_readToken_215
  have j_183 : ∀ (I_401253 : Nat → Nat → Int32) (J_401254 : Nat → Nat → Int64) (hU_401255 : Uv L κ ow I_401253) (hF_401256 : Fq L κ ow [1006, 70200, 70300] I I_401253) (hG_401257 : Fq L κ ow [70400] J J_401254) (v_401258 : Int32) (rv_401258 : Rg 0 899 v_401258) (v_401259 : Int32) (v_401260 : Int32) (y_401261 : Int64) (v_401262 : Int32) (v_401263 : Int32) (rv_401263 : Rg 0 940 v_401263) (v_401264 : Int32) (rv_401264 : Rg 0 940 v_401264) (q_401265 : I_401253 x 5 = v_401264), WG p l e { frames := 1, cells := 0, slots := 0, locals := 24 } s m ([.ref x, .int a0] : List Value).toArray below meth c 8 0 0 (MQ below (Qi_ D cy L κ ln R (fun r I2 J2 => Uv L κ ow I2 ∧ Fq L κ ow [1006, 70200, 70300] I I2 ∧ Fq L κ ow [70400] J J2 ∧ Rg 0 940 r)) ([.ref x, .int a0] : List Value).toArray s 0 0 (Al_ L)) D cy (Al_ L) s.heap L κ ln R I_401253 J_401254 183 [(0, .ref x), (1, .int v_401258), (2, .int v_401259), (3, .int v_401260), (4, .long y_401261), (6, .int v_401262), (7, .int v_401263)] [] := by
    intro I_401253 J_401254 hU_401255 hF_401256 hG_401257 v_401258 rv_401258 v_401259 v_401260 y_401261 v_401262 v_401263 rv_401263 v_401264 rv_401264 q_401265
    refine g_iload_n C 2 dX10_readToken_183 rfl rfl ?_
    refine g_if_ne C (tgt := 205) dX10_readToken_184 (by decide) (fun h_401266 => ?_) (fun h_401266 => ?_)
    · skip
      have n_401267 : ¬ v_401259 = 0 := h_401266
      refine g_lo (is := [0, 1, 2, 3, 4, 5, 6]) (lo2 := [(0, .ref x), (1, .int v_401258), (2, .int v_401259), (3, .int v_401260), (4, .long y_401261), (6, .int v_401262), (7, .int v_401263)]) rfl ?_
      exact j_205 I_401253 J_401254 hU_401255 hF_401256 hG_401257 v_401258 (rv_401258) v_401259 v_401260 y_401261 v_401262 v_401263 (rv_401263) v_401264 (rv_401264) q_401265
    · skip
      have r_401268 := (⟨(eq_rg (h_401266) rc_0).1, (eq_rg (h_401266) rc_0).2⟩ : Rg 0 0 v_401259)
      refine g_iload_n C 3 dX10_readToken_187 rfl rfl ?_
      refine g_iconst C (v := 3) dX10_readToken_188 (by decide) ?_
      refine g_icmp_gt C (tgt := 205) dX10_readToken_189 (by decide) (fun h_401269 => ?_) (fun h_401269 => ?_)
      · skip
        have r_401270 := lt_r (lo := 4) (h_401269) rc_3 (rg_all v_401260) (by decide)
        refine g_lo (is := [0, 1, 2, 3, 4, 5, 6]) (lo2 := [(0, .ref x), (1, .int v_401258), (2, .int v_401259), (3, .int v_401260), (4, .long y_401261), (6, .int v_401262), (7, .int v_401263)]) rfl ?_
        exact j_205 I_401253 J_401254 hU_401255 hF_401256 hG_401257 v_401258 (rv_401258) v_401259 v_401260 y_401261 v_401262 v_401263 (rv_401263) v_401264 (rv_401264) q_401265
      · skip
        have r_401271 := le_l (nlt h_401269) (rg_all v_401260) rc_3
        refine g_aload_n C 0 dX10_readToken_192 rfl rfl ?_
        refine g_bipush C (v := 101) dX10_readToken_193 (by decide) ?_
        refine g_iload_n C 1 dX10_readToken_195 rfl rfl ?_
        refine g_iload C 5 dX10_readToken_196 rfl ?_
        obtain ⟨y_401272, hy_401272⟩ : ∃ z, Int32.toInt64 v_401262 = z := ⟨_, rfl⟩
        refine g_i2l C (v := y_401272) dX10_readToken_198 hy_401272 ?_
        refine g_callVV C K (c_X10_addToken W9 hLx hkx 101 v_401258 y_401272 (rg_w rc_101 (by decide) (by decide)) (rg_w rv_401258 (by decide) (by decide)) hU_401255) hLx hkx (by decide) rfl v_10_80 rfl ⟨rfl, rfl⟩ ⟨Nat.le_of_ble_eq_true rfl, Nat.le_of_ble_eq_true rfl⟩ (Nat.le_of_ble_eq_true rfl) ⟨Nat.le_of_ble_eq_true rfl, Nat.le_of_ble_eq_true rfl⟩ dX10_readToken_199 rfl (st := []) (fun I_401274 J_401275 h_401276 => ?_)
        obtain ⟨hUI_401274, hFI_401274, hGJ_401275⟩ := h_401276
        have hF_401277 := fq_tr hF_401256 hFI_401274 (by decide)
        have hG_401278 := fq_tr hG_401257 hGJ_401275 (by decide)
        refine g_goto C (tgt := 213) dX10_readToken_202 (by decide) ?_
        refine g_iload C 6 dX10_readToken_213 rfl ?_
        exact g_zret (ty := .int) (r := v_401263) B K rfl (rfl) ⟨hUI_401274, hF_401277, hG_401278, rv_401263⟩ dX10_readToken_215
  have j_118 : ∀ (I_401279 : Nat → Nat → Int32) (J_401280 : Nat → Nat → Int64) (hU_401281 : Uv L κ ow I_401279) (hF_401282 : Fq L κ ow [1006, 70200, 70300] I I_401279) (hG_401283 : Fq L κ ow [70400] J J_401280) (v_401284 : Int32) (rv_401284 : Rg 0 899 v_401284) (v_401285 : Int32) (v_401286 : Int32) (y_401287 : Int64) (v_401288 : Int32) (v_401289 : Int32) (rv_401289 : Rg 0 940 v_401289) (v_401290 : Int32) (rv_401290 : Rg 0 940 v_401290) (q_401291 : I_401279 x 5 = v_401290), WG p l e { frames := 1, cells := 0, slots := 0, locals := 24 } s m ([.ref x, .int a0] : List Value).toArray below meth c 8 0 0 (MQ below (Qi_ D cy L κ ln R (fun r I2 J2 => Uv L κ ow I2 ∧ Fq L κ ow [1006, 70200, 70300] I I2 ∧ Fq L κ ow [70400] J J2 ∧ Rg 0 940 r)) ([.ref x, .int a0] : List Value).toArray s 0 0 (Al_ L)) D cy (Al_ L) s.heap L κ ln R I_401279 J_401280 118 [(0, .ref x), (1, .int v_401284), (2, .int v_401285), (3, .int v_401286), (4, .long y_401287), (6, .int v_401288), (7, .int v_401289)] [] := by
    intro I_401279 J_401280 hU_401281 hF_401282 hG_401283 v_401284 rv_401284 v_401285 v_401286 y_401287 v_401288 v_401289 rv_401289 v_401290 rv_401290 q_401291
    refine g_iload C 6 dX10_readToken_118 rfl ?_
    refine g_iload_n C 1 dX10_readToken_120 rfl rfl ?_
    refine g_icmp_ne C (tgt := 157) dX10_readToken_121 (by decide) (fun h_401292 => ?_) (fun h_401292 => ?_)
    · skip
      refine g_iload_n C 3 dX10_readToken_157 rfl rfl ?_
      refine g_if_ne C (tgt := 183) dX10_readToken_158 (by decide) (fun h_401293 => ?_) (fun h_401293 => ?_)
      · skip
        have n_401294 : ¬ v_401286 = 0 := h_401293
        refine g_lo (is := [0, 1, 2, 3, 4, 5, 6]) (lo2 := [(0, .ref x), (1, .int v_401284), (2, .int v_401285), (3, .int v_401286), (4, .long y_401287), (6, .int v_401288), (7, .int v_401289)]) rfl ?_
        exact j_183 I_401279 J_401280 hU_401281 hF_401282 hG_401283 v_401284 (rv_401284) v_401285 v_401286 y_401287 v_401288 v_401289 (rv_401289) v_401290 (rv_401290) q_401291
      · skip
        have r_401295 := (⟨(eq_rg (h_401293) rc_0).1, (eq_rg (h_401293) rc_0).2⟩ : Rg 0 0 v_401286)
        refine g_iload_n C 2 dX10_readToken_161 rfl rfl ?_
        refine g_bipush C (v := 7) dX10_readToken_162 (by decide) ?_
        refine g_icmp_gt C (tgt := 183) dX10_readToken_164 (by decide) (fun h_401296 => ?_) (fun h_401296 => ?_)
        · skip
          have r_401297 := lt_r (lo := 8) (h_401296) rc_7 (rg_all v_401285) (by decide)
          refine g_lo (is := [0, 1, 2, 3, 4, 5, 6]) (lo2 := [(0, .ref x), (1, .int v_401284), (2, .int v_401285), (3, .int v_401286), (4, .long y_401287), (6, .int v_401288), (7, .int v_401289)]) rfl ?_
          exact j_183 I_401279 J_401280 hU_401281 hF_401282 hG_401283 v_401284 (rv_401284) v_401285 v_401286 y_401287 v_401288 v_401289 (rv_401289) v_401290 (rv_401290) q_401291
        · skip
          have r_401298 := le_l (nlt h_401296) (rg_all v_401285) rc_7
          refine g_aload_n C 0 dX10_readToken_167 rfl rfl ?_
          refine g_aload_n C 0 dX10_readToken_168 rfl rfl ?_
          refine g_lload C 4 dX10_readToken_169 rfl ?_
          refine g_callVI C K (c_X10_tokenOfWord W9 hLx hkx y_401287  hU_401281) hLx hkx (by decide) rfl v_10_97 rfl ⟨rfl, rfl⟩ ⟨Nat.le_of_ble_eq_true rfl, Nat.le_of_ble_eq_true rfl⟩ (Nat.le_of_ble_eq_true rfl) ⟨Nat.le_of_ble_eq_true rfl, Nat.le_of_ble_eq_true rfl⟩ dX10_readToken_171 rfl (st := [.ref x]) (fun x_401299 I_401300 J_401301 h_401302 => ?_)
          obtain ⟨rfl, rfl, rx_401299⟩ := h_401302
          refine g_iload_n C 1 dX10_readToken_174 rfl rfl ?_
          refine g_lload C 4 dX10_readToken_175 rfl ?_
          refine g_callVV C K (c_X10_addToken W9 hLx hkx x_401299 v_401284 y_401287 (rg_w rx_401299 (by decide) (by decide)) (rg_w rv_401284 (by decide) (by decide)) hU_401281) hLx hkx (by decide) rfl v_10_80 rfl ⟨rfl, rfl⟩ ⟨Nat.le_of_ble_eq_true rfl, Nat.le_of_ble_eq_true rfl⟩ (Nat.le_of_ble_eq_true rfl) ⟨Nat.le_of_ble_eq_true rfl, Nat.le_of_ble_eq_true rfl⟩ dX10_readToken_177 rfl (st := []) (fun I_401304 J_401305 h_401306 => ?_)
          obtain ⟨hUI_401304, hFI_401304, hGJ_401305⟩ := h_401306
          have hF_401307 := fq_tr hF_401282 hFI_401304 (by decide)
          have hG_401308 := fq_tr hG_401283 hGJ_401305 (by decide)
          refine g_goto C (tgt := 213) dX10_readToken_180 (by decide) ?_
          refine g_iload C 6 dX10_readToken_213 rfl ?_
          exact g_zret (ty := .int) (r := v_401289) B K rfl (rfl) ⟨hUI_401304, hF_401307, hG_401308, rv_401289⟩ dX10_readToken_215
    · skip
      have r_401309 := (⟨(rv_401289).1, (eq_rg (h_401292) rv_401284).2⟩ : Rg 0 899 v_401289)
      refine g_aload_n C 0 dX10_readToken_124 rfl rfl ?_
      refine g_aload_n C 0 dX10_readToken_125 rfl rfl ?_
      refine g_getR C K hLx hkx f_10_9 hb_401233 dX10_readToken_126 ?_
      refine g_iload_n C 1 dX10_readToken_129 rfl rfl ?_
      obtain ⟨x_401310, hx_401310, rx_401310⟩ := ex_get (I := I_401279) (a := b_401233) (j := v_401284.toNatClampNeg) (lo := (-128)) (hi := 127) hU_401281 hb_401233L (ro_a hb_401233k (by decide) hb_401233o hkx rfl) (rfl)
      refine h_bald C K hb_401233L hb_401233k (v := x_401310) (v_401284.toNatClampNeg) (rfl) (ix_0 rv_401284 (by decide)) (ix_lt rv_401284 (by decide) hb_401233n (by decide)) hx_401310 dX10_readToken_130 ?_
      refine g_callSI C K (c_X10_isSign W9 x_401310 (rx_401310) hU_401281) s_10_94 rfl ⟨rfl, rfl⟩ ⟨Nat.le_of_ble_eq_true rfl, Nat.le_of_ble_eq_true rfl⟩ (Nat.le_of_ble_eq_true rfl) ⟨Nat.le_of_ble_eq_true rfl, Nat.le_of_ble_eq_true rfl⟩ dX10_readToken_131 rfl (st := [.ref x]) (fun x_401311 I_401312 J_401313 h_401314 => ?_)
      obtain ⟨rfl, rfl, rx_401311⟩ := h_401314
      refine g_if_eq C (tgt := 146) dX10_readToken_134 (by decide) (fun h_401315 => ?_) (fun h_401315 => ?_)
      · skip
        have r_401316 := (⟨(rx_401311).1, (eq_rg (h_401315) rc_0).2⟩ : Rg 0 0 x_401311)
        refine g_bipush C (v := 103) dX10_readToken_146 (by decide) ?_
        refine g_iload_n C 1 dX10_readToken_148 rfl rfl ?_
        refine g_lconst C (v := 0) dX10_readToken_149 (by decide) ?_
        refine g_callVV C K (c_X10_addToken W9 hLx hkx 103 v_401284 0 (rg_w rc_103 (by decide) (by decide)) (rg_w rv_401284 (by decide) (by decide)) hU_401281) hLx hkx (by decide) rfl v_10_80 rfl ⟨rfl, rfl⟩ ⟨Nat.le_of_ble_eq_true rfl, Nat.le_of_ble_eq_true rfl⟩ (Nat.le_of_ble_eq_true rfl) ⟨Nat.le_of_ble_eq_true rfl, Nat.le_of_ble_eq_true rfl⟩ dX10_readToken_150 rfl (st := []) (fun I_401318 J_401319 h_401320 => ?_)
        obtain ⟨hUI_401318, hFI_401318, hGJ_401319⟩ := h_401320
        have hF_401321 := fq_tr hF_401282 hFI_401318 (by decide)
        have hG_401322 := fq_tr hG_401283 hGJ_401319 (by decide)
        refine g_iload_n C 1 dX10_readToken_153 rfl rfl ?_
        refine g_iconst C (v := 1) dX10_readToken_154 (by decide) ?_
        obtain ⟨x_401323, hx_401323, rx_401323, tx_401323⟩ := ex_add 1 900 rv_401284 rc_1 (by decide) (by decide) (by decide) (by decide)
        refine g_iadd C (v := x_401323) dX10_readToken_155 hx_401323 ?_
        exact g_zret (ty := .int) (r := x_401323) B K rfl (rfl) ⟨hUI_401318, hF_401321, hG_401322, rg_w rx_401323 (by decide) (by decide)⟩ dX10_readToken_156
      · skip
        have n_401324 : ¬ x_401311 = 0 := h_401315
        have r_401325 := ne_lo (lo := 1) n_401324 rx_401311 rc_0 rfl (by decide)
        refine g_aload_n C 0 dX10_readToken_137 rfl rfl ?_
        refine g_getR C K hLx hkx f_10_9 hb_401233 dX10_readToken_138 ?_
        refine g_iload_n C 1 dX10_readToken_141 rfl rfl ?_
        obtain ⟨x_401326, hx_401326, rx_401326⟩ := ex_get (I := I_401279) (a := b_401233) (j := v_401284.toNatClampNeg) (lo := (-128)) (hi := 127) hU_401281 hb_401233L (ro_a hb_401233k (by decide) hb_401233o hkx rfl) (rfl)
        refine h_bald C K hb_401233L hb_401233k (v := x_401326) (v_401284.toNatClampNeg) (rfl) (ix_0 rv_401284 (by decide)) (ix_lt rv_401284 (by decide) hb_401233n (by decide)) hx_401326 dX10_readToken_142 ?_
        refine g_goto C (tgt := 148) dX10_readToken_143 (by decide) ?_
        refine g_iload_n C 1 dX10_readToken_148 rfl rfl ?_
        refine g_lconst C (v := 0) dX10_readToken_149 (by decide) ?_
        refine g_callVV C K (c_X10_addToken W9 hLx hkx x_401326 v_401284 0 (rx_401326) (rg_w rv_401284 (by decide) (by decide)) hU_401281) hLx hkx (by decide) rfl v_10_80 rfl ⟨rfl, rfl⟩ ⟨Nat.le_of_ble_eq_true rfl, Nat.le_of_ble_eq_true rfl⟩ (Nat.le_of_ble_eq_true rfl) ⟨Nat.le_of_ble_eq_true rfl, Nat.le_of_ble_eq_true rfl⟩ dX10_readToken_150 rfl (st := []) (fun I_401328 J_401329 h_401330 => ?_)
        obtain ⟨hUI_401328, hFI_401328, hGJ_401329⟩ := h_401330
        have hF_401331 := fq_tr hF_401282 hFI_401328 (by decide)
        have hG_401332 := fq_tr hG_401283 hGJ_401329 (by decide)
        refine g_iload_n C 1 dX10_readToken_153 rfl rfl ?_
        refine g_iconst C (v := 1) dX10_readToken_154 (by decide) ?_
        obtain ⟨x_401333, hx_401333, rx_401333, tx_401333⟩ := ex_add 1 900 rv_401284 rc_1 (by decide) (by decide) (by decide) (by decide)
        refine g_iadd C (v := x_401333) dX10_readToken_155 hx_401333 ?_
        exact g_zret (ty := .int) (r := x_401333) B K rfl (rfl) ⟨hUI_401328, hF_401331, hG_401332, rg_w rx_401333 (by decide) (by decide)⟩ dX10_readToken_156
  have l_13 : ∀ (n_13 : Nat) (I_401334 : Nat → Nat → Int32) (J_401335 : Nat → Nat → Int64) (hU_401336 : Uv L κ ow I_401334) (hF_401337 : Fq L κ ow [1006, 70200, 70300] I I_401334) (hG_401338 : Fq L κ ow [70400] J J_401335) (v_401339 : Int32) (rv_401339 : Rg 0 899 v_401339) (v_401340 : Int32) (v_401341 : Int32) (y_401342 : Int64) (v_401343 : Int32) (v_401344 : Int32) (rv_401344 : Rg 0 940 v_401344) (hm_401345 : 940 < (v_401344 : Int32).toInt + (n_13 : Int)), WG p l e { frames := 1, cells := 0, slots := 0, locals := 24 } s m ([.ref x, .int a0] : List Value).toArray below meth c 8 0 0 (MQ below (Qi_ D cy L κ ln R (fun r I2 J2 => Uv L κ ow I2 ∧ Fq L κ ow [1006, 70200, 70300] I I2 ∧ Fq L κ ow [70400] J J2 ∧ Rg 0 940 r)) ([.ref x, .int a0] : List Value).toArray s 0 0 (Al_ L)) D cy (Al_ L) s.heap L κ ln R I_401334 J_401335 13 [(0, .ref x), (1, .int v_401339), (2, .int v_401340), (3, .int v_401341), (4, .long y_401342), (6, .int v_401343), (7, .int v_401344)] [] := by
    intro n_13
    induction n_13 with
    | zero =>
      intro I_401334 J_401335 hU_401336 hF_401337 hG_401338 v_401339 rv_401339 v_401340 v_401341 y_401342 v_401343 v_401344 rv_401344 hm_401345
      exact ms_0 rv_401344 hm_401345
    | succ n_13 ih_13 =>
      intro I_401334 J_401335 hU_401336 hF_401337 hG_401338 v_401339 rv_401339 v_401340 v_401341 y_401342 v_401343 v_401344 rv_401344 hm_401345
      have j_112 : ∀ (I_401346 : Nat → Nat → Int32) (J_401347 : Nat → Nat → Int64) (hU_401348 : Uv L κ ow I_401346) (hF_401349 : Fq L κ ow [1006, 70200, 70300] I I_401346) (hG_401350 : Fq L κ ow [70400] J J_401347) (v_401351 : Int32) (rv_401351 : Rg 0 899 v_401351) (v_401352 : Int32) (v_401353 : Int32) (y_401354 : Int64) (v_401355 : Int32) (v_401356 : Int32) (rv_401356 : Rg 0 939 v_401356) (v_401357 : Int32) (rv_401357 : Rg 1 940 v_401357) (q_401358 : I_401346 x 5 = v_401357) (hm_401359 : 940 < (v_401356 : Int32).toInt + ((n_13 + 1 : Nat) : Int)), WG p l e { frames := 1, cells := 0, slots := 0, locals := 24 } s m ([.ref x, .int a0] : List Value).toArray below meth c 8 0 0 (MQ below (Qi_ D cy L κ ln R (fun r I2 J2 => Uv L κ ow I2 ∧ Fq L κ ow [1006, 70200, 70300] I I2 ∧ Fq L κ ow [70400] J J2 ∧ Rg 0 940 r)) ([.ref x, .int a0] : List Value).toArray s 0 0 (Al_ L)) D cy (Al_ L) s.heap L κ ln R I_401346 J_401347 112 [(0, .ref x), (1, .int v_401351), (2, .int v_401352), (3, .int v_401353), (4, .long y_401354), (6, .int v_401355), (7, .int v_401356)] [] := by
        intro I_401346 J_401347 hU_401348 hF_401349 hG_401350 v_401351 rv_401351 v_401352 v_401353 y_401354 v_401355 v_401356 rv_401356 v_401357 rv_401357 q_401358 hm_401359
        obtain ⟨x_401360, hx_401360, rx_401360, tx_401360⟩ := ex_add (y := 1) 1 940 rv_401356 rc_1 (by decide) (by decide) (by decide) (by decide)
        refine g_iinc C dX10_readToken_112 (k := 6) (v := x_401360) rfl hx_401360 (by decide) (lo2 := [(7, .int x_401360), (0, .ref x), (1, .int v_401351), (2, .int v_401352), (3, .int v_401353), (4, .long y_401354), (6, .int v_401355)]) rfl ?_
        refine g_goto C (tgt := 13) dX10_readToken_115 (by decide) ?_
        refine g_lo (is := [1, 2, 3, 4, 5, 6, 0]) (lo2 := [(0, .ref x), (1, .int v_401351), (2, .int v_401352), (3, .int v_401353), (4, .long y_401354), (6, .int v_401355), (7, .int x_401360)]) rfl ?_
        exact ih_13 I_401346 J_401347 hU_401348 hF_401349 hG_401350 v_401351 (rv_401351) v_401352 v_401353 y_401354 v_401355 x_401360 (rg_w rx_401360 (by decide) (by decide)) (ms_1 hm_401359 (ti_k tx_401360 rc_1) (by decide))
      have j_58 : ∀ (I_401361 : Nat → Nat → Int32) (J_401362 : Nat → Nat → Int64) (hU_401363 : Uv L κ ow I_401361) (hF_401364 : Fq L κ ow [1006, 70200, 70300] I I_401361) (hG_401365 : Fq L κ ow [70400] J J_401362) (v_401366 : Int32) (rv_401366 : Rg 0 899 v_401366) (v_401367 : Int32) (v_401368 : Int32) (y_401369 : Int64) (v_401370 : Int32) (v_401371 : Int32) (rv_401371 : Rg 0 939 v_401371) (v_401372 : Int32) (rv_401372 : Rg 1 940 v_401372) (q_401373 : I_401361 x 5 = v_401372) (hm_401374 : 940 < (v_401371 : Int32).toInt + ((n_13 + 1 : Nat) : Int)), WG p l e { frames := 1, cells := 0, slots := 0, locals := 24 } s m ([.ref x, .int a0] : List Value).toArray below meth c 8 0 0 (MQ below (Qi_ D cy L κ ln R (fun r I2 J2 => Uv L κ ow I2 ∧ Fq L κ ow [1006, 70200, 70300] I I2 ∧ Fq L κ ow [70400] J J2 ∧ Rg 0 940 r)) ([.ref x, .int a0] : List Value).toArray s 0 0 (Al_ L)) D cy (Al_ L) s.heap L κ ln R I_401361 J_401362 58 [(0, .ref x), (1, .int v_401366), (2, .int v_401367), (3, .int v_401368), (4, .long y_401369), (6, .int v_401370), (7, .int v_401371)] [] := by
        intro I_401361 J_401362 hU_401363 hF_401364 hG_401365 v_401366 rv_401366 v_401367 v_401368 y_401369 v_401370 v_401371 rv_401371 v_401372 rv_401372 q_401373 hm_401374
        refine g_aload_n C 0 dX10_readToken_58 rfl rfl ?_
        refine g_getR C K hLx hkx f_10_9 hb_401233 dX10_readToken_59 ?_
        refine g_iload C 6 dX10_readToken_62 rfl ?_
        obtain ⟨x_401375, hx_401375, rx_401375⟩ := ex_get (I := I_401361) (a := b_401233) (j := v_401371.toNatClampNeg) (lo := (-128)) (hi := 127) hU_401363 hb_401233L (ro_a hb_401233k (by decide) hb_401233o hkx rfl) (rfl)
        refine h_bald C K hb_401233L hb_401233k (v := x_401375) (v_401371.toNatClampNeg) (rfl) (ix_0 rv_401371 (by decide)) (ix_lt rv_401371 (by decide) hb_401233n (by decide)) hx_401375 dX10_readToken_64 ?_
        refine g_callSI C K (c_X10_isLetter W9 x_401375 (rx_401375) hU_401363) s_10_87 rfl ⟨rfl, rfl⟩ ⟨Nat.le_of_ble_eq_true rfl, Nat.le_of_ble_eq_true rfl⟩ (Nat.le_of_ble_eq_true rfl) ⟨Nat.le_of_ble_eq_true rfl, Nat.le_of_ble_eq_true rfl⟩ dX10_readToken_65 rfl (st := []) (fun x_401376 I_401377 J_401378 h_401379 => ?_)
        obtain ⟨rfl, rfl, rx_401376⟩ := h_401379
        refine g_if_eq C (tgt := 91) dX10_readToken_68 (by decide) (fun h_401380 => ?_) (fun h_401380 => ?_)
        · skip
          have r_401381 := (⟨(rx_401376).1, (eq_rg (h_401380) rc_0).2⟩ : Rg 0 0 x_401376)
          refine g_iload C 5 dX10_readToken_91 rfl ?_
          refine g_bipush C (v := 10) dX10_readToken_93 (by decide) ?_
          obtain ⟨x_401382, hx_401382, rx_401382⟩ := ex_any (z0 := v_401370 * 10)
          refine g_imul C (v := x_401382) dX10_readToken_95 hx_401382 ?_
          refine g_aload_n C 0 dX10_readToken_96 rfl rfl ?_
          refine g_getR C K hLx hkx f_10_9 hb_401233 dX10_readToken_97 ?_
          refine g_iload C 6 dX10_readToken_100 rfl ?_
          obtain ⟨x_401383, hx_401383, rx_401383⟩ := ex_get (I := I_401361) (a := b_401233) (j := v_401371.toNatClampNeg) (lo := (-128)) (hi := 127) hU_401363 hb_401233L (ro_a hb_401233k (by decide) hb_401233o hkx rfl) (rfl)
          refine h_bald C K hb_401233L hb_401233k (v := x_401383) (v_401371.toNatClampNeg) (rfl) (ix_0 rv_401371 (by decide)) (ix_lt rv_401371 (by decide) hb_401233n (by decide)) hx_401383 dX10_readToken_102 ?_
          obtain ⟨x_401384, hx_401384, rx_401384⟩ := ex_any (z0 := x_401382 + x_401383)
          refine g_iadd C (v := x_401384) dX10_readToken_103 hx_401384 ?_
          refine g_bipush C (v := 48) dX10_readToken_104 (by decide) ?_
          obtain ⟨x_401385, hx_401385, rx_401385⟩ := ex_any (z0 := x_401384 - 48)
          refine g_isub C (v := x_401385) dX10_readToken_106 hx_401385 ?_
          refine g_istore C dX10_readToken_107 (by decide) (lo2 := [(6, .int x_401385), (0, .ref x), (1, .int v_401366), (2, .int v_401367), (3, .int v_401368), (4, .long y_401369), (7, .int v_401371)]) rfl ?_
          obtain ⟨x_401386, hx_401386, rx_401386⟩ := ex_any (z0 := v_401368 + 1)
          refine g_iinc C dX10_readToken_109 (k := 4) (v := x_401386) rfl hx_401386 (by decide) (lo2 := [(3, .int x_401386), (6, .int x_401385), (0, .ref x), (1, .int v_401366), (2, .int v_401367), (4, .long y_401369), (7, .int v_401371)]) rfl ?_
          refine g_lo (is := [2, 3, 4, 0, 5, 1, 6]) (lo2 := [(0, .ref x), (1, .int v_401366), (2, .int v_401367), (3, .int x_401386), (4, .long y_401369), (6, .int x_401385), (7, .int v_401371)]) rfl ?_
          exact j_112 I_401361 J_401362 hU_401363 hF_401364 hG_401365 v_401366 (rv_401366) v_401367 x_401386 y_401369 x_401385 v_401371 (rv_401371) v_401372 (rv_401372) q_401373 hm_401374
        · skip
          have n_401387 : ¬ x_401376 = 0 := h_401380
          have r_401388 := ne_lo (lo := 1) n_401387 rx_401376 rc_0 rfl (by decide)
          refine g_lload C 4 dX10_readToken_71 rfl ?_
          refine g_aload_n C 0 dX10_readToken_73 rfl rfl ?_
          refine g_getR C K hLx hkx f_10_9 hb_401233 dX10_readToken_74 ?_
          refine g_iload C 6 dX10_readToken_77 rfl ?_
          obtain ⟨x_401389, hx_401389, rx_401389⟩ := ex_get (I := I_401361) (a := b_401233) (j := v_401371.toNatClampNeg) (lo := (-128)) (hi := 127) hU_401363 hb_401233L (ro_a hb_401233k (by decide) hb_401233o hkx rfl) (rfl)
          refine h_bald C K hb_401233L hb_401233k (v := x_401389) (v_401371.toNatClampNeg) (rfl) (ix_0 rv_401371 (by decide)) (ix_lt rv_401371 (by decide) hb_401233n (by decide)) hx_401389 dX10_readToken_79 ?_
          refine g_callSL C K (c_X10_withLetter W9 y_401369 x_401389 (rx_401389) hU_401363) s_10_66 rfl ⟨rfl, rfl⟩ ⟨Nat.le_of_ble_eq_true rfl, Nat.le_of_ble_eq_true rfl⟩ (Nat.le_of_ble_eq_true rfl) ⟨Nat.le_of_ble_eq_true rfl, Nat.le_of_ble_eq_true rfl⟩ dX10_readToken_80 rfl (st := []) (fun x_401390 I_401391 J_401392 h_401393 => ?_)
          obtain ⟨rfl, rfl⟩ := h_401393
          refine g_lstore C dX10_readToken_83 (by decide) (lo2 := [(4, .long x_401390), (0, .ref x), (1, .int v_401366), (2, .int v_401367), (3, .int v_401368), (6, .int v_401370), (7, .int v_401371)]) rfl ?_
          obtain ⟨x_401394, hx_401394, rx_401394⟩ := ex_any (z0 := v_401367 + 1)
          refine g_iinc C dX10_readToken_85 (k := 3) (v := x_401394) rfl hx_401394 (by decide) (lo2 := [(2, .int x_401394), (4, .long x_401390), (0, .ref x), (1, .int v_401366), (3, .int v_401368), (6, .int v_401370), (7, .int v_401371)]) rfl ?_
          refine g_goto C (tgt := 112) dX10_readToken_88 (by decide) ?_
          refine g_lo (is := [2, 3, 0, 4, 1, 5, 6]) (lo2 := [(0, .ref x), (1, .int v_401366), (2, .int x_401394), (3, .int v_401368), (4, .long x_401390), (6, .int v_401370), (7, .int v_401371)]) rfl ?_
          exact j_112 I_401361 J_401362 hU_401363 hF_401364 hG_401365 v_401366 (rv_401366) x_401394 v_401368 x_401390 v_401370 v_401371 (rv_401371) v_401372 (rv_401372) q_401373 hm_401374
      refine g_iload C 6 dX10_readToken_13 rfl ?_
      refine g_aload_n C 0 dX10_readToken_15 rfl rfl ?_
      obtain ⟨x_401395, hx_401395, rx_401395⟩ := ex_get (I := I_401334) (a := x) (j := 5) (lo := 0) (hi := 940) hU_401336 hLx (ro_o hkx (by decide)) rfl
      refine g_getI C K hLx hkx f_10_29 (v := x_401395) hx_401395 dX10_readToken_16 ?_
      refine g_icmp_ge C (tgt := 118) dX10_readToken_19 (by decide) (fun h_401396 => ?_) (fun h_401396 => ?_)
      · skip
        refine g_lo (is := [0, 1, 2, 3, 4, 5, 6]) (lo2 := [(0, .ref x), (1, .int v_401339), (2, .int v_401340), (3, .int v_401341), (4, .long y_401342), (6, .int v_401343), (7, .int v_401344)]) rfl ?_
        exact j_118 I_401334 J_401335 hU_401336 hF_401337 hG_401338 v_401339 (rv_401339) v_401340 v_401341 y_401342 v_401343 v_401344 (rv_401344) x_401395 (rx_401395) hx_401395
      · skip
        have r_401397 := lt_l (hi := 939) (nle h_401396) rv_401344 rx_401395 (by decide)
        have r_401398 := lt_r (lo := 1) (nle h_401396) rv_401344 rx_401395 (by decide)
        refine g_iload C 6 dX10_readToken_22 rfl ?_
        refine g_aload_n C 0 dX10_readToken_24 rfl rfl ?_
        refine g_getR C K hLx hkx f_10_9 hb_401233 dX10_readToken_25 ?_
        refine g_alenB C K hb_401233L hb_401233k (v := 940) (by rw [hb_401233n]; rfl) dX10_readToken_28 ?_
        refine g_icmp_ge C (tgt := 118) dX10_readToken_29 (by decide) (fun h_401399 => ?_) (fun h_401399 => ?_)
        · skip
          have r_401400 := le_r (h_401399) rc_940 r_401397
          exact rg_no r_401400 (by decide)
        · skip
          refine g_aload_n C 0 dX10_readToken_32 rfl rfl ?_
          refine g_getR C K hLx hkx f_10_9 hb_401233 dX10_readToken_33 ?_
          refine g_iload C 6 dX10_readToken_36 rfl ?_
          obtain ⟨x_401401, hx_401401, rx_401401⟩ := ex_get (I := I_401334) (a := b_401233) (j := v_401344.toNatClampNeg) (lo := (-128)) (hi := 127) hU_401336 hb_401233L (ro_a hb_401233k (by decide) hb_401233o hkx rfl) (rfl)
          refine h_bald C K hb_401233L hb_401233k (v := x_401401) (v_401344.toNatClampNeg) (rfl) (ix_0 r_401397 (by decide)) (ix_lt r_401397 (by decide) hb_401233n (by decide)) hx_401401 dX10_readToken_38 ?_
          refine g_callSI C K (c_X10_isLetter W9 x_401401 (rx_401401) hU_401336) s_10_87 rfl ⟨rfl, rfl⟩ ⟨Nat.le_of_ble_eq_true rfl, Nat.le_of_ble_eq_true rfl⟩ (Nat.le_of_ble_eq_true rfl) ⟨Nat.le_of_ble_eq_true rfl, Nat.le_of_ble_eq_true rfl⟩ dX10_readToken_39 rfl (st := []) (fun x_401402 I_401403 J_401404 h_401405 => ?_)
          obtain ⟨rfl, rfl, rx_401402⟩ := h_401405
          refine g_if_ne C (tgt := 58) dX10_readToken_42 (by decide) (fun h_401406 => ?_) (fun h_401406 => ?_)
          · skip
            have n_401407 : ¬ x_401402 = 0 := h_401406
            have r_401408 := ne_lo (lo := 1) n_401407 rx_401402 rc_0 rfl (by decide)
            refine g_lo (is := [0, 1, 2, 3, 4, 5, 6]) (lo2 := [(0, .ref x), (1, .int v_401339), (2, .int v_401340), (3, .int v_401341), (4, .long y_401342), (6, .int v_401343), (7, .int v_401344)]) rfl ?_
            exact j_58 I_401334 J_401335 hU_401336 hF_401337 hG_401338 v_401339 (rv_401339) v_401340 v_401341 y_401342 v_401343 v_401344 (r_401397) x_401395 (r_401398) hx_401395 hm_401345
          · skip
            have r_401409 := (⟨(rx_401402).1, (eq_rg (h_401406) rc_0).2⟩ : Rg 0 0 x_401402)
            refine g_aload_n C 0 dX10_readToken_45 rfl rfl ?_
            refine g_getR C K hLx hkx f_10_9 hb_401233 dX10_readToken_46 ?_
            refine g_iload C 6 dX10_readToken_49 rfl ?_
            obtain ⟨x_401410, hx_401410, rx_401410⟩ := ex_get (I := I_401334) (a := b_401233) (j := v_401344.toNatClampNeg) (lo := (-128)) (hi := 127) hU_401336 hb_401233L (ro_a hb_401233k (by decide) hb_401233o hkx rfl) (rfl)
            refine h_bald C K hb_401233L hb_401233k (v := x_401410) (v_401344.toNatClampNeg) (rfl) (ix_0 r_401397 (by decide)) (ix_lt r_401397 (by decide) hb_401233n (by decide)) hx_401410 dX10_readToken_51 ?_
            refine g_callSI C K (c_X10_isDigit W9 x_401410 (rx_401410) hU_401336) s_10_91 rfl ⟨rfl, rfl⟩ ⟨Nat.le_of_ble_eq_true rfl, Nat.le_of_ble_eq_true rfl⟩ (Nat.le_of_ble_eq_true rfl) ⟨Nat.le_of_ble_eq_true rfl, Nat.le_of_ble_eq_true rfl⟩ dX10_readToken_52 rfl (st := []) (fun x_401411 I_401412 J_401413 h_401414 => ?_)
            obtain ⟨rfl, rfl, rx_401411⟩ := h_401414
            refine g_if_eq C (tgt := 118) dX10_readToken_55 (by decide) (fun h_401415 => ?_) (fun h_401415 => ?_)
            · skip
              have r_401416 := (⟨(rx_401411).1, (eq_rg (h_401415) rc_0).2⟩ : Rg 0 0 x_401411)
              refine g_lo (is := [0, 1, 2, 3, 4, 5, 6]) (lo2 := [(0, .ref x), (1, .int v_401339), (2, .int v_401340), (3, .int v_401341), (4, .long y_401342), (6, .int v_401343), (7, .int v_401344)]) rfl ?_
              exact j_118 I_401334 J_401335 hU_401336 hF_401337 hG_401338 v_401339 (rv_401339) v_401340 v_401341 y_401342 v_401343 v_401344 (rg_w r_401397 (by decide) (by decide)) x_401395 (rg_w r_401398 (by decide) (by decide)) hx_401395
            · skip
              have n_401417 : ¬ x_401411 = 0 := h_401415
              have r_401418 := ne_lo (lo := 1) n_401417 rx_401411 rc_0 rfl (by decide)
              refine g_lo (is := [0, 1, 2, 3, 4, 5, 6]) (lo2 := [(0, .ref x), (1, .int v_401339), (2, .int v_401340), (3, .int v_401341), (4, .long y_401342), (6, .int v_401343), (7, .int v_401344)]) rfl ?_
              exact j_58 I_401334 J_401335 hU_401336 hF_401337 hG_401338 v_401339 (rv_401339) v_401340 v_401341 y_401342 v_401343 v_401344 (r_401397) x_401395 (r_401398) hx_401395 hm_401345
  refine g_iconst C (v := 0) dX10_readToken_0 (by decide) ?_
  refine g_istore_n C dX10_readToken_1 rfl (by decide) (lo2 := [(2, .int 0), (0, .ref x), (1, .int a0)]) rfl ?_
  refine g_iconst C (v := 0) dX10_readToken_2 (by decide) ?_
  refine g_istore_n C dX10_readToken_3 rfl (by decide) (lo2 := [(3, .int 0), (2, .int 0), (0, .ref x), (1, .int a0)]) rfl ?_
  refine g_lconst C (v := 0) dX10_readToken_4 (by decide) ?_
  refine g_lstore C dX10_readToken_5 (by decide) (lo2 := [(4, .long 0), (3, .int 0), (2, .int 0), (0, .ref x), (1, .int a0)]) rfl ?_
  refine g_iconst C (v := 0) dX10_readToken_7 (by decide) ?_
  refine g_istore C dX10_readToken_8 (by decide) (lo2 := [(6, .int 0), (4, .long 0), (3, .int 0), (2, .int 0), (0, .ref x), (1, .int a0)]) rfl ?_
  refine g_iload_n C 5 dX10_readToken_10 rfl rfl ?_
  refine g_istore C dX10_readToken_11 (by decide) (lo2 := [(7, .int a0), (6, .int 0), (4, .long 0), (3, .int 0), (2, .int 0), (0, .ref x), (1, .int a0)]) rfl ?_
  refine g_lo (is := [5, 6, 4, 3, 2, 1, 0]) (lo2 := [(0, .ref x), (1, .int a0), (2, .int 0), (3, .int 0), (4, .long 0), (6, .int 0), (7, .int a0)]) rfl ?_
  exact l_13 941 I J hU hF hG a0 (ra0) 0 0 0 0 a0 (rg_w ra0 (by decide) (by decide)) (ms_s (N := 941) (rg_w ra0 (by decide) (by decide)) (by decide))
set_option maxRecDepth 100000 in
set_option maxHeartbeats 8000000 in
theorem c_X10_begin {l : Launch} {D : va_G} {cy : Nat → ClassId} {L : List Nat} {κ ln : Nat → Nat} {R : Nat → Nat → Option Nat} {I : Nat → Nat → Int32} {J : Nat → Nat → Int64} {ow : Nat → Nat × Nat} (W9 : ∀ a ∈ L, Shp L κ ln R ow a) {x : Nat} (hLx : x ∈ L) (hkx : κ x = 10) (a0 : Int32) (ra0 : Rg 200 900 a0) (hU : Uv L κ ow I) : CtV l yX10_begin cX10_begin 5 none { frames := 2, cells := 0, slots := 0, locals := 60 } D cy L κ ln R I J [.ref x, .int a0] (fun I2 J2 => Uv L κ ow I2 ∧ Fq L κ ow [1006, 1007, 1008, 1009, 1011, 1012, 70200, 70300] I I2 ∧ Fq L κ ow [1010, 70400] J J2) := by
  refine CtV.of (by decide +kernel) (Nat.le_of_ble_eq_true rfl) ?_
  intro p e s m below meth c B K
  have C := B.1
  have hF : Fq L κ ow [1006, 1007, 1008, 1009, 1011, 1012, 70200, 70300] I I := fq_rf
  have hG : Fq L κ ow [1010, 70400] J J := fq_rf
  obtain ⟨b_404928, hb_404928, hb_404928L, hb_404928k, hb_404928n, hb_404928o⟩ := shp_a (W9 x hLx) hkx 0 13 940 rfl (by decide)
  refine g_lo (is := [0, 1]) (lo2 := [(0, .ref x), (1, .int a0)]) rfl ?_
  have l_27 : ∀ (n_27 : Nat) (I_404929 : Nat → Nat → Int32) (J_404930 : Nat → Nat → Int64) (hU_404931 : Uv L κ ow I_404929) (hF_404932 : Fq L κ ow [1006, 1007, 1008, 1009, 1011, 1012, 70200, 70300] I I_404929) (hG_404933 : Fq L κ ow [1010, 70400] J J_404930) (v_404934 : Int32) (rv_404934 : Rg 200 900 v_404934) (v_404935 : Int32) (rv_404935 : Rg 0 900 v_404935) (v_404936 : Int32) (rv_404936 : Rg 0 940 v_404936) (v_404937 : Int32) (rv_404937 : Rg 0 900 v_404937) (v_404938 : Int32) (rv_404938 : Rg 0 940 v_404938) (q_404939 : I_404929 x 5 = v_404938) (hm_404940 : 900 < (v_404937 : Int32).toInt + (n_27 : Int)), WG p l e { frames := 2, cells := 0, slots := 0, locals := 60 } s m ([.ref x, .int a0] : List Value).toArray below meth c 5 0 0 (MQ below (Qv_ D cy L κ ln R (fun I2 J2 => Uv L κ ow I2 ∧ Fq L κ ow [1006, 1007, 1008, 1009, 1011, 1012, 70200, 70300] I I2 ∧ Fq L κ ow [1010, 70400] J J2)) ([.ref x, .int a0] : List Value).toArray s 0 0 (Al_ L)) D cy (Al_ L) s.heap L κ ln R I_404929 J_404930 27 [(0, .ref x), (1, .int v_404934), (2, .int v_404935), (3, .int v_404936), (4, .int v_404937)] [] := by
    intro n_27
    induction n_27 with
    | zero =>
      intro I_404929 J_404930 hU_404931 hF_404932 hG_404933 v_404934 rv_404934 v_404935 rv_404935 v_404936 rv_404936 v_404937 rv_404937 v_404938 rv_404938 q_404939 hm_404940
      exact ms_0 rv_404937 hm_404940
    | succ n_27 ih_27 =>
      intro I_404929 J_404930 hU_404931 hF_404932 hG_404933 v_404934 rv_404934 v_404935 rv_404935 v_404936 rv_404936 v_404937 rv_404937 v_404938 rv_404938 q_404939 hm_404940
      have j_70 : ∀ (I_404941 : Nat → Nat → Int32) (J_404942 : Nat → Nat → Int64) (hU_404943 : Uv L κ ow I_404941) (hF_404944 : Fq L κ ow [1006, 1007, 1008, 1009, 1011, 1012, 70200, 70300] I I_404941) (hG_404945 : Fq L κ ow [1010, 70400] J J_404942) (v_404946 : Int32) (rv_404946 : Rg 200 900 v_404946) (v_404947 : Int32) (rv_404947 : Rg 1 900 v_404947) (v_404948 : Int32) (rv_404948 : Rg 0 940 v_404948) (v_404949 : Int32) (rv_404949 : Rg 0 899 v_404949) (v_404950 : Int32) (rv_404950 : Rg 0 940 v_404950) (q_404951 : I_404941 x 5 = v_404950) (hm_404952 : 900 < (v_404949 : Int32).toInt + ((n_27 + 1 : Nat) : Int)), WG p l e { frames := 2, cells := 0, slots := 0, locals := 60 } s m ([.ref x, .int a0] : List Value).toArray below meth c 5 0 0 (MQ below (Qv_ D cy L κ ln R (fun I2 J2 => Uv L κ ow I2 ∧ Fq L κ ow [1006, 1007, 1008, 1009, 1011, 1012, 70200, 70300] I I2 ∧ Fq L κ ow [1010, 70400] J J2)) ([.ref x, .int a0] : List Value).toArray s 0 0 (Al_ L)) D cy (Al_ L) s.heap L κ ln R I_404941 J_404942 70 [(0, .ref x), (1, .int v_404946), (2, .int v_404947), (3, .int v_404948), (4, .int v_404949)] [] := by
        intro I_404941 J_404942 hU_404943 hF_404944 hG_404945 v_404946 rv_404946 v_404947 rv_404947 v_404948 rv_404948 v_404949 rv_404949 v_404950 rv_404950 q_404951 hm_404952
        obtain ⟨x_404953, hx_404953, rx_404953, tx_404953⟩ := ex_add (y := 1) 1 900 rv_404949 rc_1 (by decide) (by decide) (by decide) (by decide)
        refine g_iinc C dX10_begin_70 (k := 4) (v := x_404953) rfl hx_404953 (by decide) (lo2 := [(4, .int x_404953), (0, .ref x), (1, .int v_404946), (2, .int v_404947), (3, .int v_404948)]) rfl ?_
        refine g_goto C (tgt := 27) dX10_begin_73 (by decide) ?_
        refine g_lo (is := [1, 2, 3, 4, 0]) (lo2 := [(0, .ref x), (1, .int v_404946), (2, .int v_404947), (3, .int v_404948), (4, .int x_404953)]) rfl ?_
        exact ih_27 I_404941 J_404942 hU_404943 hF_404944 hG_404945 v_404946 (rv_404946) v_404947 (rg_w rv_404947 (by decide) (by decide)) v_404948 (rv_404948) x_404953 (rg_w rx_404953 (by decide) (by decide)) v_404950 (rv_404950) q_404951 (ms_1 hm_404952 (ti_k tx_404953 rc_1) (by decide))
      refine g_iload C 4 dX10_begin_27 rfl ?_
      refine g_iload_n C 2 dX10_begin_29 rfl rfl ?_
      refine g_icmp_ge C (tgt := 76) dX10_begin_30 (by decide) (fun h_404954 => ?_) (fun h_404954 => ?_)
      · skip
        refine g_aload_n C 0 dX10_begin_76 rfl rfl ?_
        refine g_aload_n C 0 dX10_begin_77 rfl rfl ?_
        refine g_getI C K hLx hkx f_10_29 (v := v_404938) q_404939 dX10_begin_78 ?_
        refine g_iload_n C 1 dX10_begin_81 rfl rfl ?_
        refine g_icmp_le C (tgt := 90) dX10_begin_82 (by decide) (fun h_404955 => ?_) (fun h_404955 => ?_)
        · skip
          have r_404956 := le_l (h_404955) rv_404938 rv_404934
          refine g_bipush C (v := 102) dX10_begin_90 (by decide) ?_
          refine g_iload_n C 2 dX10_begin_92 rfl rfl ?_
          refine g_lconst C (v := 0) dX10_begin_93 (by decide) ?_
          refine g_callVV C K (c_X10_addToken W9 hLx hkx 102 v_404935 0 (rg_w rc_102 (by decide) (by decide)) (rv_404935) hU_404931) hLx hkx (by decide) rfl v_10_80 rfl ⟨rfl, rfl⟩ ⟨Nat.le_of_ble_eq_true rfl, Nat.le_of_ble_eq_true rfl⟩ (Nat.le_of_ble_eq_true rfl) ⟨Nat.le_of_ble_eq_true rfl, Nat.le_of_ble_eq_true rfl⟩ dX10_begin_94 rfl (st := []) (fun I_404958 J_404959 h_404960 => ?_)
          obtain ⟨hUI_404958, hFI_404958, hGJ_404959⟩ := h_404960
          have hF_404961 := fq_tr hF_404932 hFI_404958 (by decide)
          have hG_404962 := fq_tr hG_404933 hGJ_404959 (by decide)
          refine g_aload_n C 0 dX10_begin_97 rfl rfl ?_
          refine g_iconst C (v := 0) dX10_begin_98 (by decide) ?_
          refine h_putI C K hLx hkx f_10_49 p_10_11 dX10_begin_99 (fun I_404963 hI_404963 => ?_)
          have hU_404964 := uv_put hUI_404958 hI_404963 (ro_o hkx (by decide)) (lo := (-2147483648)) (hi := 2147483647) rfl (rg_all _)
          have hF_404965 := fq_puto hF_404961 hI_404963 hkx (by decide) (by decide)
          refine g_aload_n C 0 dX10_begin_102 rfl rfl ?_
          refine g_iconst C (v := 0) dX10_begin_103 (by decide) ?_
          refine h_putI C K hLx hkx f_10_52 p_10_12 dX10_begin_104 (fun I_404966 hI_404966 => ?_)
          have hU_404967 := uv_put hU_404964 hI_404966 (ro_o hkx (by decide)) (lo := (-2147483648)) (hi := 2147483647) rfl (rg_all _)
          have hF_404968 := fq_puto hF_404965 hI_404966 hkx (by decide) (by decide)
          refine g_aload_n C 0 dX10_begin_107 rfl rfl ?_
          refine g_iconst C (v := (-1)) dX10_begin_108 (by decide) ?_
          refine h_putI C K hLx hkx f_10_36 p_10_7 dX10_begin_109 (fun I_404969 hI_404969 => ?_)
          have hU_404970 := uv_put hU_404967 hI_404969 (ro_o hkx (by decide)) (lo := (-1)) (hi := 900) rfl (rg_w rc_m1 (by decide) (by decide))
          have hF_404971 := fq_puto hF_404968 hI_404969 hkx (by decide) (by decide)
          refine g_aload_n C 0 dX10_begin_112 rfl rfl ?_
          refine g_callVV C K (c_X10_advance W9 hLx hkx   hU_404970) hLx hkx (by decide) rfl v_10_84 rfl ⟨rfl, rfl⟩ ⟨Nat.le_of_ble_eq_true rfl, Nat.le_of_ble_eq_true rfl⟩ (Nat.le_of_ble_eq_true rfl) ⟨Nat.le_of_ble_eq_true rfl, Nat.le_of_ble_eq_true rfl⟩ dX10_begin_113 rfl (st := []) (fun I_404973 J_404974 h_404975 => ?_)
          obtain ⟨hUI_404973, hFI_404973, hGJ_404974⟩ := h_404975
          have hF_404976 := fq_tr hF_404971 hFI_404973 (by decide)
          have hG_404977 := fq_tr hG_404962 hGJ_404974 (by decide)
          exact g_vret B K rfl ⟨hUI_404973, hF_404976, hG_404977⟩ dX10_begin_116
        · skip
          have r_404978 := lt_r (lo := 201) (nle h_404955) rv_404934 rv_404938 (by decide)
          refine g_bipush C (v := 103) dX10_begin_85 (by decide) ?_
          refine g_goto C (tgt := 92) dX10_begin_87 (by decide) ?_
          refine g_iload_n C 2 dX10_begin_92 rfl rfl ?_
          refine g_lconst C (v := 0) dX10_begin_93 (by decide) ?_
          refine g_callVV C K (c_X10_addToken W9 hLx hkx 103 v_404935 0 (rg_w rc_103 (by decide) (by decide)) (rv_404935) hU_404931) hLx hkx (by decide) rfl v_10_80 rfl ⟨rfl, rfl⟩ ⟨Nat.le_of_ble_eq_true rfl, Nat.le_of_ble_eq_true rfl⟩ (Nat.le_of_ble_eq_true rfl) ⟨Nat.le_of_ble_eq_true rfl, Nat.le_of_ble_eq_true rfl⟩ dX10_begin_94 rfl (st := []) (fun I_404980 J_404981 h_404982 => ?_)
          obtain ⟨hUI_404980, hFI_404980, hGJ_404981⟩ := h_404982
          have hF_404983 := fq_tr hF_404932 hFI_404980 (by decide)
          have hG_404984 := fq_tr hG_404933 hGJ_404981 (by decide)
          refine g_aload_n C 0 dX10_begin_97 rfl rfl ?_
          refine g_iconst C (v := 0) dX10_begin_98 (by decide) ?_
          refine h_putI C K hLx hkx f_10_49 p_10_11 dX10_begin_99 (fun I_404985 hI_404985 => ?_)
          have hU_404986 := uv_put hUI_404980 hI_404985 (ro_o hkx (by decide)) (lo := (-2147483648)) (hi := 2147483647) rfl (rg_all _)
          have hF_404987 := fq_puto hF_404983 hI_404985 hkx (by decide) (by decide)
          refine g_aload_n C 0 dX10_begin_102 rfl rfl ?_
          refine g_iconst C (v := 0) dX10_begin_103 (by decide) ?_
          refine h_putI C K hLx hkx f_10_52 p_10_12 dX10_begin_104 (fun I_404988 hI_404988 => ?_)
          have hU_404989 := uv_put hU_404986 hI_404988 (ro_o hkx (by decide)) (lo := (-2147483648)) (hi := 2147483647) rfl (rg_all _)
          have hF_404990 := fq_puto hF_404987 hI_404988 hkx (by decide) (by decide)
          refine g_aload_n C 0 dX10_begin_107 rfl rfl ?_
          refine g_iconst C (v := (-1)) dX10_begin_108 (by decide) ?_
          refine h_putI C K hLx hkx f_10_36 p_10_7 dX10_begin_109 (fun I_404991 hI_404991 => ?_)
          have hU_404992 := uv_put hU_404989 hI_404991 (ro_o hkx (by decide)) (lo := (-1)) (hi := 900) rfl (rg_w rc_m1 (by decide) (by decide))
          have hF_404993 := fq_puto hF_404990 hI_404991 hkx (by decide) (by decide)
          refine g_aload_n C 0 dX10_begin_112 rfl rfl ?_
          refine g_callVV C K (c_X10_advance W9 hLx hkx   hU_404992) hLx hkx (by decide) rfl v_10_84 rfl ⟨rfl, rfl⟩ ⟨Nat.le_of_ble_eq_true rfl, Nat.le_of_ble_eq_true rfl⟩ (Nat.le_of_ble_eq_true rfl) ⟨Nat.le_of_ble_eq_true rfl, Nat.le_of_ble_eq_true rfl⟩ dX10_begin_113 rfl (st := []) (fun I_404995 J_404996 h_404997 => ?_)
          obtain ⟨hUI_404995, hFI_404995, hGJ_404996⟩ := h_404997
          have hF_404998 := fq_tr hF_404993 hFI_404995 (by decide)
          have hG_404999 := fq_tr hG_404984 hGJ_404996 (by decide)
          exact g_vret B K rfl ⟨hUI_404995, hF_404998, hG_404999⟩ dX10_begin_116
      · skip
        have r_405000 := lt_l (hi := 899) (nle h_404954) rv_404937 rv_404935 (by decide)
        have r_405001 := lt_r (lo := 1) (nle h_404954) rv_404937 rv_404935 (by decide)
        refine g_iload C 4 dX10_begin_33 rfl ?_
        refine g_iload_n C 3 dX10_begin_35 rfl rfl ?_
        refine g_icmp_lt C (tgt := 70) dX10_begin_36 (by decide) (fun h_405002 => ?_) (fun h_405002 => ?_)
        · skip
          have r_405003 := lt_r (lo := 1) (h_405002) r_405000 rv_404936 (by decide)
          refine g_lo (is := [0, 1, 2, 3, 4]) (lo2 := [(0, .ref x), (1, .int v_404934), (2, .int v_404935), (3, .int v_404936), (4, .int v_404937)]) rfl ?_
          exact j_70 I_404929 J_404930 hU_404931 hF_404932 hG_404933 v_404934 (rv_404934) v_404935 (r_405001) v_404936 (rg_w r_405003 (by decide) (by decide)) v_404937 (r_405000) v_404938 (rv_404938) q_404939 hm_404940
        · skip
          have r_405004 := le_l (nlt h_405002) rv_404936 r_405000
          refine g_aload_n C 0 dX10_begin_39 rfl rfl ?_
          refine g_getR C K hLx hkx f_10_9 hb_404928 dX10_begin_40 ?_
          refine g_iload C 4 dX10_begin_43 rfl ?_
          obtain ⟨x_405005, hx_405005, rx_405005⟩ := ex_get (I := I_404929) (a := b_404928) (j := v_404937.toNatClampNeg) (lo := (-128)) (hi := 127) hU_404931 hb_404928L (ro_a hb_404928k (by decide) hb_404928o hkx rfl) (rfl)
          refine h_bald C K hb_404928L hb_404928k (v := x_405005) (v_404937.toNatClampNeg) (rfl) (ix_0 r_405000 (by decide)) (ix_lt r_405000 (by decide) hb_404928n (by decide)) hx_405005 dX10_begin_45 ?_
          refine g_bipush C (v := 32) dX10_begin_46 (by decide) ?_
          refine g_icmp_eq C (tgt := 70) dX10_begin_48 (by decide) (fun h_405006 => ?_) (fun h_405006 => ?_)
          · skip
            have r_405007 := (⟨(eq_rg (h_405006) rc_32).1, (eq_rg (h_405006) rc_32).2⟩ : Rg 32 32 x_405005)
            refine g_lo (is := [0, 1, 2, 3, 4]) (lo2 := [(0, .ref x), (1, .int v_404934), (2, .int v_404935), (3, .int v_404936), (4, .int v_404937)]) rfl ?_
            exact j_70 I_404929 J_404930 hU_404931 hF_404932 hG_404933 v_404934 (rv_404934) v_404935 (r_405001) v_404936 (rg_w r_405004 (by decide) (by decide)) v_404937 (r_405000) v_404938 (rv_404938) q_404939 hm_404940
          · skip
            have n_405008 : ¬ x_405005 = 32 := h_405006
            refine g_aload_n C 0 dX10_begin_51 rfl rfl ?_
            refine g_getR C K hLx hkx f_10_9 hb_404928 dX10_begin_52 ?_
            refine g_iload C 4 dX10_begin_55 rfl ?_
            obtain ⟨x_405009, hx_405009, rx_405009⟩ := ex_get (I := I_404929) (a := b_404928) (j := v_404937.toNatClampNeg) (lo := (-128)) (hi := 127) hU_404931 hb_404928L (ro_a hb_404928k (by decide) hb_404928o hkx rfl) (rfl)
            refine h_bald C K hb_404928L hb_404928k (v := x_405009) (v_404937.toNatClampNeg) (rfl) (ix_0 r_405000 (by decide)) (ix_lt r_405000 (by decide) hb_404928n (by decide)) hx_405009 dX10_begin_57 ?_
            refine g_bipush C (v := 10) dX10_begin_58 (by decide) ?_
            refine g_icmp_eq C (tgt := 70) dX10_begin_60 (by decide) (fun h_405010 => ?_) (fun h_405010 => ?_)
            · skip
              have r_405011 := (⟨(eq_rg (h_405010) rc_10).1, (eq_rg (h_405010) rc_10).2⟩ : Rg 10 10 x_405009)
              refine g_lo (is := [0, 1, 2, 3, 4]) (lo2 := [(0, .ref x), (1, .int v_404934), (2, .int v_404935), (3, .int v_404936), (4, .int v_404937)]) rfl ?_
              exact j_70 I_404929 J_404930 hU_404931 hF_404932 hG_404933 v_404934 (rv_404934) v_404935 (r_405001) v_404936 (rg_w r_405004 (by decide) (by decide)) v_404937 (r_405000) v_404938 (rv_404938) q_404939 hm_404940
            · skip
              have n_405012 : ¬ x_405009 = 10 := h_405010
              refine g_aload_n C 0 dX10_begin_63 rfl rfl ?_
              refine g_iload C 4 dX10_begin_64 rfl ?_
              refine g_callVI C K (c_X10_readToken W9 hLx hkx v_404937 (r_405000) hU_404931) hLx hkx (by decide) rfl v_10_76 rfl ⟨rfl, rfl⟩ ⟨Nat.le_of_ble_eq_true rfl, Nat.le_of_ble_eq_true rfl⟩ (Nat.le_of_ble_eq_true rfl) ⟨Nat.le_of_ble_eq_true rfl, Nat.le_of_ble_eq_true rfl⟩ dX10_begin_66 rfl (st := []) (fun x_405013 I_405014 J_405015 h_405016 => ?_)
              obtain ⟨hUI_405014, hFI_405014, hGJ_405015, rx_405013⟩ := h_405016
              have hF_405017 := fq_tr hF_404932 hFI_405014 (by decide)
              have hG_405018 := fq_tr hG_404933 hGJ_405015 (by decide)
              refine g_istore_n C dX10_begin_69 rfl (by decide) (lo2 := [(3, .int x_405013), (0, .ref x), (1, .int v_404934), (2, .int v_404935), (4, .int v_404937)]) rfl ?_
              refine g_lo (is := [1, 2, 3, 0, 4]) (lo2 := [(0, .ref x), (1, .int v_404934), (2, .int v_404935), (3, .int x_405013), (4, .int v_404937)]) rfl ?_
              exact j_70 I_405014 J_405015 hUI_405014 hF_405017 hG_405018 v_404934 (rv_404934) v_404935 (r_405001) x_405013 (rx_405013) v_404937 (r_405000) v_404938 (rv_404938) (fq_at hFI_405014 hLx hkx (by decide) (by decide) q_404939) hm_404940
  refine g_aload_n C 0 dX10_begin_0 rfl rfl ?_
  obtain ⟨x_405019, hx_405019, rx_405019⟩ := ex_get (I := I) (a := x) (j := 5) (lo := 0) (hi := 940) hU hLx (ro_o hkx (by decide)) rfl
  refine g_getI C K hLx hkx f_10_29 (v := x_405019) hx_405019 dX10_begin_1 ?_
  refine g_iload_n C 1 dX10_begin_4 rfl rfl ?_
  obtain ⟨x_405020, hx_405020, rx_405020⟩ := ex_min 0 900 rx_405019 ra0 (by decide) (by decide) (by decide)
  refine g_mmin C (v := x_405020) mw_10_70 w_min (Nat.le_of_ble_eq_true rfl) (Nat.le_of_ble_eq_true rfl) ⟨Nat.le_of_ble_eq_true rfl, Nat.le_of_ble_eq_true rfl⟩ (hx_405020) dX10_begin_5 ?_
  refine g_aload_n C 0 dX10_begin_8 rfl rfl ?_
  refine g_getR C K hLx hkx f_10_9 hb_404928 dX10_begin_9 ?_
  refine g_alenB C K hb_404928L hb_404928k (v := 940) (by rw [hb_404928n]; rfl) dX10_begin_12 ?_
  obtain ⟨x_405021, hx_405021, rx_405021⟩ := ex_min 0 900 rx_405020 rc_940 (by decide) (by decide) (by decide)
  refine g_mmin C (v := x_405021) mw_10_70 w_min (Nat.le_of_ble_eq_true rfl) (Nat.le_of_ble_eq_true rfl) ⟨Nat.le_of_ble_eq_true rfl, Nat.le_of_ble_eq_true rfl⟩ (hx_405021) dX10_begin_13 ?_
  refine g_istore_n C dX10_begin_16 rfl (by decide) (lo2 := [(2, .int x_405021), (0, .ref x), (1, .int a0)]) rfl ?_
  refine g_iconst C (v := 0) dX10_begin_17 (by decide) ?_
  refine g_istore_n C dX10_begin_18 rfl (by decide) (lo2 := [(3, .int 0), (2, .int x_405021), (0, .ref x), (1, .int a0)]) rfl ?_
  refine g_aload_n C 2 dX10_begin_19 rfl rfl ?_
  refine g_iconst C (v := 0) dX10_begin_20 (by decide) ?_
  refine h_putI C K hLx hkx f_10_33 p_10_6 dX10_begin_21 (fun I_405022 hI_405022 => ?_)
  have hU_405023 := uv_put hU hI_405022 (ro_o hkx (by decide)) (lo := 0) (hi := 901) rfl (rg_w rc_0 (by decide) (by decide))
  have hF_405024 := fq_puto hF hI_405022 hkx (by decide) (by decide)
  refine g_iconst C (v := 0) dX10_begin_24 (by decide) ?_
  refine g_istore C dX10_begin_25 (by decide) (lo2 := [(4, .int 0), (3, .int 0), (2, .int x_405021), (0, .ref x), (1, .int a0)]) rfl ?_
  refine g_lo (is := [3, 4, 2, 1, 0]) (lo2 := [(0, .ref x), (1, .int a0), (2, .int x_405021), (3, .int 0), (4, .int 0)]) rfl ?_
  exact l_27 901 I_405022 J hU_405023 hF_405024 hG a0 (ra0) x_405021 (rx_405021) 0 (rg_w rc_0 (by decide) (by decide)) 0 (rg_w rc_0 (by decide) (by decide)) x_405019 (rx_405019) (kp_j hI_405022 (by decide) hx_405019) (ms_s (N := 901) (rg_w rc_0 (by decide) (by decide)) (by decide))
set_option maxRecDepth 100000 in
set_option maxHeartbeats 8000000 in
theorem c_X1_forget {l : Launch} {D : va_G} {cy : Nat → ClassId} {L : List Nat} {κ ln : Nat → Nat} {R : Nat → Nat → Option Nat} {I : Nat → Nat → Int32} {J : Nat → Nat → Int64} {ow : Nat → Nat × Nat} (W9 : ∀ a ∈ L, Shp L κ ln R ow a) {x : Nat} (hLx : x ∈ L) (hkx : κ x = 1) (hU : Uv L κ ow I) : CtV l yX1_forget cX1_forget 2 none { frames := 0, cells := 0, slots := 0, locals := 0 } D cy L κ ln R I J [.ref x] (fun I2 J2 => Uv L κ ow I2 ∧ Fq L κ ow [107, 108, 109, 110, 111, 112, 16100, 16200, 16300, 16400, 16500, 16600] I I2 ∧ Fq L κ ow [] J J2) := by
  refine CtV.of (by decide +kernel) (Nat.le_of_ble_eq_true rfl) ?_
  intro p e s m below meth c B K
  have C := B.1
  have hF : Fq L κ ow [107, 108, 109, 110, 111, 112, 16100, 16200, 16300, 16400, 16500, 16600] I I := fq_rf
  have hG : Fq L κ ow [] J J := fq_rf
  obtain ⟨b_405376, hb_405376, hb_405376L, hb_405376k, hb_405376n, hb_405376o⟩ := shp_a (W9 x hLx) hkx 1 14 6 rfl (by decide)
  obtain ⟨b_405377, hb_405377, hb_405377L, hb_405377k, hb_405377n, hb_405377o⟩ := shp_a (W9 x hLx) hkx 2 14 42 rfl (by decide)
  obtain ⟨b_405378, hb_405378, hb_405378L, hb_405378k, hb_405378n, hb_405378o⟩ := shp_a (W9 x hLx) hkx 5 14 7 rfl (by decide)
  obtain ⟨b_405379, hb_405379, hb_405379L, hb_405379k, hb_405379n, hb_405379o⟩ := shp_a (W9 x hLx) hkx 6 14 7 rfl (by decide)
  obtain ⟨b_405380, hb_405380, hb_405380L, hb_405380k, hb_405380n, hb_405380o⟩ := shp_a (W9 x hLx) hkx 4 14 7 rfl (by decide)
  obtain ⟨b_405381, hb_405381, hb_405381L, hb_405381k, hb_405381n, hb_405381o⟩ := shp_a (W9 x hLx) hkx 3 14 7 rfl (by decide)
  refine g_lo (is := [0]) (lo2 := [(0, .ref x)]) rfl ?_
  have l_44 : ∀ (n_44 : Nat) (I_405382 : Nat → Nat → Int32) (J_405383 : Nat → Nat → Int64) (hU_405384 : Uv L κ ow I_405382) (hF_405385 : Fq L κ ow [107, 108, 109, 110, 111, 112, 16100, 16200, 16300, 16400, 16500, 16600] I I_405382) (hG_405386 : Fq L κ ow [] J J_405383) (v_405387 : Int32) (rv_405387 : Rg 0 7 v_405387) (hm_405388 : 7 < (v_405387 : Int32).toInt + (n_44 : Int)), WG p l e { frames := 0, cells := 0, slots := 0, locals := 0 } s m ([.ref x] : List Value).toArray below meth c 2 0 0 (MQ below (Qv_ D cy L κ ln R (fun I2 J2 => Uv L κ ow I2 ∧ Fq L κ ow [107, 108, 109, 110, 111, 112, 16100, 16200, 16300, 16400, 16500, 16600] I I2 ∧ Fq L κ ow [] J J2)) ([.ref x] : List Value).toArray s 0 0 (Al_ L)) D cy (Al_ L) s.heap L κ ln R I_405382 J_405383 44 [(0, .ref x), (1, .int v_405387)] [] := by
    intro n_44
    induction n_44 with
    | zero =>
      intro I_405382 J_405383 hU_405384 hF_405385 hG_405386 v_405387 rv_405387 hm_405388
      exact ms_0 rv_405387 hm_405388
    | succ n_44 ih_44 =>
      intro I_405382 J_405383 hU_405384 hF_405385 hG_405386 v_405387 rv_405387 hm_405388
      refine g_iload_n C 1 dX1_forget_44 rfl rfl ?_
      refine g_bipush C (v := 7) dX1_forget_45 (by decide) ?_
      refine g_icmp_ge C (tgt := 84) dX1_forget_47 (by decide) (fun h_405389 => ?_) (fun h_405389 => ?_)
      · skip
        have r_405390 := le_r (h_405389) rc_7 rv_405387
        refine g_aload_n C 0 dX1_forget_84 rfl rfl ?_
        refine g_iconst C (v := 0) dX1_forget_85 (by decide) ?_
        refine h_putI C K hLx hkx f_1_30 p_1_7 dX1_forget_86 (fun I_405391 hI_405391 => ?_)
        have hU_405392 := uv_put hU_405384 hI_405391 (ro_o hkx (by decide)) (lo := (-2147483648)) (hi := 2147483647) rfl (rg_all _)
        have hF_405393 := fq_puto hF_405385 hI_405391 hkx (by decide) (by decide)
        refine g_aload_n C 0 dX1_forget_89 rfl rfl ?_
        refine g_iconst C (v := 0) dX1_forget_90 (by decide) ?_
        refine h_putI C K hLx hkx f_1_34 p_1_8 dX1_forget_91 (fun I_405394 hI_405394 => ?_)
        have hU_405395 := uv_put hU_405392 hI_405394 (ro_o hkx (by decide)) (lo := (-2147483648)) (hi := 2147483647) rfl (rg_all _)
        have hF_405396 := fq_puto hF_405393 hI_405394 hkx (by decide) (by decide)
        refine g_aload_n C 0 dX1_forget_94 rfl rfl ?_
        refine g_iconst C (v := 0) dX1_forget_95 (by decide) ?_
        refine h_putI C K hLx hkx f_1_37 p_1_9 dX1_forget_96 (fun I_405397 hI_405397 => ?_)
        have hU_405398 := uv_put hU_405395 hI_405397 (ro_o hkx (by decide)) (lo := (-2147483648)) (hi := 2147483647) rfl (rg_all _)
        have hF_405399 := fq_puto hF_405396 hI_405397 hkx (by decide) (by decide)
        refine g_aload_n C 0 dX1_forget_99 rfl rfl ?_
        refine g_iconst C (v := 0) dX1_forget_100 (by decide) ?_
        refine h_putI C K hLx hkx f_1_40 p_1_10 dX1_forget_101 (fun I_405400 hI_405400 => ?_)
        have hU_405401 := uv_put hU_405398 hI_405400 (ro_o hkx (by decide)) (lo := (-2147483648)) (hi := 2147483647) rfl (rg_all _)
        have hF_405402 := fq_puto hF_405399 hI_405400 hkx (by decide) (by decide)
        refine g_aload_n C 0 dX1_forget_104 rfl rfl ?_
        refine g_iconst C (v := 0) dX1_forget_105 (by decide) ?_
        refine h_putI C K hLx hkx f_1_43 p_1_11 dX1_forget_106 (fun I_405403 hI_405403 => ?_)
        have hU_405404 := uv_put hU_405401 hI_405403 (ro_o hkx (by decide)) (lo := (-2147483648)) (hi := 2147483647) rfl (rg_all _)
        have hF_405405 := fq_puto hF_405402 hI_405403 hkx (by decide) (by decide)
        refine g_aload_n C 0 dX1_forget_109 rfl rfl ?_
        refine g_iconst C (v := 0) dX1_forget_110 (by decide) ?_
        refine h_putI C K hLx hkx f_1_46 p_1_12 dX1_forget_111 (fun I_405406 hI_405406 => ?_)
        have hU_405407 := uv_put hU_405404 hI_405406 (ro_o hkx (by decide)) (lo := (-2147483648)) (hi := 2147483647) rfl (rg_all _)
        have hF_405408 := fq_puto hF_405405 hI_405406 hkx (by decide) (by decide)
        exact g_vret B K rfl ⟨hU_405407, hF_405408, hG_405386⟩ dX1_forget_114
      · skip
        have r_405409 := lt_l (hi := 6) (nle h_405389) rv_405387 rc_7 (by decide)
        refine g_aload_n C 0 dX1_forget_50 rfl rfl ?_
        refine g_getR C K hLx hkx f_1_18 hb_405381 dX1_forget_51 ?_
        refine g_iload_n C 1 dX1_forget_54 rfl rfl ?_
        refine g_iconst C (v := 0) dX1_forget_55 (by decide) ?_
        refine h_iast C K hb_405381L hb_405381k (v_405387.toNatClampNeg) (rfl) (ix_0 r_405409 (by decide)) (ix_lt r_405409 (by decide) hb_405381n (by decide)) dX1_forget_56 (fun I_405410 hI_405410 => ?_)
        have hU_405411 := uv_put hU_405384 hI_405410 (ro_a hb_405381k (by decide) hb_405381o hkx rfl) (lo := (-2147483648)) (hi := 2147483647) (rfl) (rg_all _)
        have hF_405412 := fq_puta hF_405385 hI_405410 (ro_a hb_405381k (by decide) hb_405381o hkx rfl) (by decide) (by decide)
        refine g_aload_n C 0 dX1_forget_57 rfl rfl ?_
        refine g_getR C K hLx hkx f_1_21 hb_405380 dX1_forget_58 ?_
        refine g_iload_n C 1 dX1_forget_61 rfl rfl ?_
        refine g_iconst C (v := 0) dX1_forget_62 (by decide) ?_
        refine h_iast C K hb_405380L hb_405380k (v_405387.toNatClampNeg) (rfl) (ix_0 r_405409 (by decide)) (ix_lt r_405409 (by decide) hb_405380n (by decide)) dX1_forget_63 (fun I_405413 hI_405413 => ?_)
        have hU_405414 := uv_put hU_405411 hI_405413 (ro_a hb_405380k (by decide) hb_405380o hkx rfl) (lo := (-2147483648)) (hi := 2147483647) (rfl) (rg_all _)
        have hF_405415 := fq_puta hF_405412 hI_405413 (ro_a hb_405380k (by decide) hb_405380o hkx rfl) (by decide) (by decide)
        refine g_aload_n C 0 dX1_forget_64 rfl rfl ?_
        refine g_getR C K hLx hkx f_1_24 hb_405378 dX1_forget_65 ?_
        refine g_iload_n C 1 dX1_forget_68 rfl rfl ?_
        refine g_iconst C (v := 0) dX1_forget_69 (by decide) ?_
        refine h_iast C K hb_405378L hb_405378k (v_405387.toNatClampNeg) (rfl) (ix_0 r_405409 (by decide)) (ix_lt r_405409 (by decide) hb_405378n (by decide)) dX1_forget_70 (fun I_405416 hI_405416 => ?_)
        have hU_405417 := uv_put hU_405414 hI_405416 (ro_a hb_405378k (by decide) hb_405378o hkx rfl) (lo := (-2147483648)) (hi := 2147483647) (rfl) (rg_all _)
        have hF_405418 := fq_puta hF_405415 hI_405416 (ro_a hb_405378k (by decide) hb_405378o hkx rfl) (by decide) (by decide)
        refine g_aload_n C 0 dX1_forget_71 rfl rfl ?_
        refine g_getR C K hLx hkx f_1_27 hb_405379 dX1_forget_72 ?_
        refine g_iload_n C 1 dX1_forget_75 rfl rfl ?_
        refine g_iconst C (v := 0) dX1_forget_76 (by decide) ?_
        refine h_iast C K hb_405379L hb_405379k (v_405387.toNatClampNeg) (rfl) (ix_0 r_405409 (by decide)) (ix_lt r_405409 (by decide) hb_405379n (by decide)) dX1_forget_77 (fun I_405419 hI_405419 => ?_)
        have hU_405420 := uv_put hU_405417 hI_405419 (ro_a hb_405379k (by decide) hb_405379o hkx rfl) (lo := (-2147483648)) (hi := 2147483647) (rfl) (rg_all _)
        have hF_405421 := fq_puta hF_405418 hI_405419 (ro_a hb_405379k (by decide) hb_405379o hkx rfl) (by decide) (by decide)
        obtain ⟨x_405422, hx_405422, rx_405422, tx_405422⟩ := ex_add (y := 1) 1 7 r_405409 rc_1 (by decide) (by decide) (by decide) (by decide)
        refine g_iinc C dX1_forget_78 (k := 1) (v := x_405422) rfl hx_405422 (by decide) (lo2 := [(1, .int x_405422), (0, .ref x)]) rfl ?_
        refine g_goto C (tgt := 44) dX1_forget_81 (by decide) ?_
        refine g_lo (is := [1, 0]) (lo2 := [(0, .ref x), (1, .int x_405422)]) rfl ?_
        exact ih_44 I_405419 J_405383 hU_405420 hF_405421 hG_405386 x_405422 (rg_w rx_405422 (by decide) (by decide)) (ms_1 hm_405388 (ti_k tx_405422 rc_1) (by decide))
  have l_23 : ∀ (n_23 : Nat) (I_405423 : Nat → Nat → Int32) (J_405424 : Nat → Nat → Int64) (hU_405425 : Uv L κ ow I_405423) (hF_405426 : Fq L κ ow [107, 108, 109, 110, 111, 112, 16100, 16200, 16300, 16400, 16500, 16600] I I_405423) (hG_405427 : Fq L κ ow [] J J_405424) (v_405428 : Int32) (rv_405428 : Rg 0 42 v_405428) (hm_405429 : 42 < (v_405428 : Int32).toInt + (n_23 : Int)), WG p l e { frames := 0, cells := 0, slots := 0, locals := 0 } s m ([.ref x] : List Value).toArray below meth c 2 0 0 (MQ below (Qv_ D cy L κ ln R (fun I2 J2 => Uv L κ ow I2 ∧ Fq L κ ow [107, 108, 109, 110, 111, 112, 16100, 16200, 16300, 16400, 16500, 16600] I I2 ∧ Fq L κ ow [] J J2)) ([.ref x] : List Value).toArray s 0 0 (Al_ L)) D cy (Al_ L) s.heap L κ ln R I_405423 J_405424 23 [(0, .ref x), (1, .int v_405428)] [] := by
    intro n_23
    induction n_23 with
    | zero =>
      intro I_405423 J_405424 hU_405425 hF_405426 hG_405427 v_405428 rv_405428 hm_405429
      exact ms_0 rv_405428 hm_405429
    | succ n_23 ih_23 =>
      intro I_405423 J_405424 hU_405425 hF_405426 hG_405427 v_405428 rv_405428 hm_405429
      refine g_iload_n C 1 dX1_forget_23 rfl rfl ?_
      refine g_bipush C (v := 42) dX1_forget_24 (by decide) ?_
      refine g_icmp_ge C (tgt := 42) dX1_forget_26 (by decide) (fun h_405430 => ?_) (fun h_405430 => ?_)
      · skip
        have r_405431 := le_r (h_405430) rc_42 rv_405428
        refine g_iconst C (v := 0) dX1_forget_42 (by decide) ?_
        refine g_istore_n C dX1_forget_43 rfl (by decide) (lo2 := [(1, .int 0), (0, .ref x)]) rfl ?_
        refine g_lo (is := [1, 0]) (lo2 := [(0, .ref x), (1, .int 0)]) rfl ?_
        exact l_44 8 I_405423 J_405424 hU_405425 hF_405426 hG_405427 0 (rg_w rc_0 (by decide) (by decide)) (ms_s (N := 8) (rg_w rc_0 (by decide) (by decide)) (by decide))
      · skip
        have r_405432 := lt_l (hi := 41) (nle h_405430) rv_405428 rc_42 (by decide)
        refine g_aload_n C 0 dX1_forget_29 rfl rfl ?_
        refine g_getR C K hLx hkx f_1_15 hb_405377 dX1_forget_30 ?_
        refine g_iload_n C 1 dX1_forget_33 rfl rfl ?_
        refine g_iconst C (v := 0) dX1_forget_34 (by decide) ?_
        refine h_iast C K hb_405377L hb_405377k (v_405428.toNatClampNeg) (rfl) (ix_0 r_405432 (by decide)) (ix_lt r_405432 (by decide) hb_405377n (by decide)) dX1_forget_35 (fun I_405433 hI_405433 => ?_)
        have hU_405434 := uv_put hU_405425 hI_405433 (ro_a hb_405377k (by decide) hb_405377o hkx rfl) (lo := (-2147483648)) (hi := 2147483647) (rfl) (rg_all _)
        have hF_405435 := fq_puta hF_405426 hI_405433 (ro_a hb_405377k (by decide) hb_405377o hkx rfl) (by decide) (by decide)
        obtain ⟨x_405436, hx_405436, rx_405436, tx_405436⟩ := ex_add (y := 1) 1 42 r_405432 rc_1 (by decide) (by decide) (by decide) (by decide)
        refine g_iinc C dX1_forget_36 (k := 1) (v := x_405436) rfl hx_405436 (by decide) (lo2 := [(1, .int x_405436), (0, .ref x)]) rfl ?_
        refine g_goto C (tgt := 23) dX1_forget_39 (by decide) ?_
        refine g_lo (is := [1, 0]) (lo2 := [(0, .ref x), (1, .int x_405436)]) rfl ?_
        exact ih_23 I_405433 J_405424 hU_405434 hF_405435 hG_405427 x_405436 (rg_w rx_405436 (by decide) (by decide)) (ms_1 hm_405429 (ti_k tx_405436 rc_1) (by decide))
  have l_2 : ∀ (n_2 : Nat) (I_405437 : Nat → Nat → Int32) (J_405438 : Nat → Nat → Int64) (hU_405439 : Uv L κ ow I_405437) (hF_405440 : Fq L κ ow [107, 108, 109, 110, 111, 112, 16100, 16200, 16300, 16400, 16500, 16600] I I_405437) (hG_405441 : Fq L κ ow [] J J_405438) (v_405442 : Int32) (rv_405442 : Rg 0 6 v_405442) (hm_405443 : 6 < (v_405442 : Int32).toInt + (n_2 : Int)), WG p l e { frames := 0, cells := 0, slots := 0, locals := 0 } s m ([.ref x] : List Value).toArray below meth c 2 0 0 (MQ below (Qv_ D cy L κ ln R (fun I2 J2 => Uv L κ ow I2 ∧ Fq L κ ow [107, 108, 109, 110, 111, 112, 16100, 16200, 16300, 16400, 16500, 16600] I I2 ∧ Fq L κ ow [] J J2)) ([.ref x] : List Value).toArray s 0 0 (Al_ L)) D cy (Al_ L) s.heap L κ ln R I_405437 J_405438 2 [(0, .ref x), (1, .int v_405442)] [] := by
    intro n_2
    induction n_2 with
    | zero =>
      intro I_405437 J_405438 hU_405439 hF_405440 hG_405441 v_405442 rv_405442 hm_405443
      exact ms_0 rv_405442 hm_405443
    | succ n_2 ih_2 =>
      intro I_405437 J_405438 hU_405439 hF_405440 hG_405441 v_405442 rv_405442 hm_405443
      refine g_iload_n C 1 dX1_forget_2 rfl rfl ?_
      refine g_bipush C (v := 6) dX1_forget_3 (by decide) ?_
      refine g_icmp_ge C (tgt := 21) dX1_forget_5 (by decide) (fun h_405444 => ?_) (fun h_405444 => ?_)
      · skip
        have r_405445 := le_r (h_405444) rc_6 rv_405442
        refine g_iconst C (v := 0) dX1_forget_21 (by decide) ?_
        refine g_istore_n C dX1_forget_22 rfl (by decide) (lo2 := [(1, .int 0), (0, .ref x)]) rfl ?_
        refine g_lo (is := [1, 0]) (lo2 := [(0, .ref x), (1, .int 0)]) rfl ?_
        exact l_23 43 I_405437 J_405438 hU_405439 hF_405440 hG_405441 0 (rg_w rc_0 (by decide) (by decide)) (ms_s (N := 43) (rg_w rc_0 (by decide) (by decide)) (by decide))
      · skip
        have r_405446 := lt_l (hi := 5) (nle h_405444) rv_405442 rc_6 (by decide)
        refine g_aload_n C 0 dX1_forget_8 rfl rfl ?_
        refine g_getR C K hLx hkx f_1_9 hb_405376 dX1_forget_9 ?_
        refine g_iload_n C 1 dX1_forget_12 rfl rfl ?_
        refine g_iconst C (v := 0) dX1_forget_13 (by decide) ?_
        refine h_iast C K hb_405376L hb_405376k (v_405442.toNatClampNeg) (rfl) (ix_0 r_405446 (by decide)) (ix_lt r_405446 (by decide) hb_405376n (by decide)) dX1_forget_14 (fun I_405447 hI_405447 => ?_)
        have hU_405448 := uv_put hU_405439 hI_405447 (ro_a hb_405376k (by decide) hb_405376o hkx rfl) (lo := (-2147483648)) (hi := 2147483647) (rfl) (rg_all _)
        have hF_405449 := fq_puta hF_405440 hI_405447 (ro_a hb_405376k (by decide) hb_405376o hkx rfl) (by decide) (by decide)
        obtain ⟨x_405450, hx_405450, rx_405450, tx_405450⟩ := ex_add (y := 1) 1 6 r_405446 rc_1 (by decide) (by decide) (by decide) (by decide)
        refine g_iinc C dX1_forget_15 (k := 1) (v := x_405450) rfl hx_405450 (by decide) (lo2 := [(1, .int x_405450), (0, .ref x)]) rfl ?_
        refine g_goto C (tgt := 2) dX1_forget_18 (by decide) ?_
        refine g_lo (is := [1, 0]) (lo2 := [(0, .ref x), (1, .int x_405450)]) rfl ?_
        exact ih_2 I_405447 J_405438 hU_405448 hF_405449 hG_405441 x_405450 (rg_w rx_405450 (by decide) (by decide)) (ms_1 hm_405443 (ti_k tx_405450 rc_1) (by decide))
  refine g_iconst C (v := 0) dX1_forget_0 (by decide) ?_
  refine g_istore_n C dX1_forget_1 rfl (by decide) (lo2 := [(1, .int 0), (0, .ref x)]) rfl ?_
  refine g_lo (is := [1, 0]) (lo2 := [(0, .ref x), (1, .int 0)]) rfl ?_
  exact l_2 7 I J hU hF hG 0 (rg_w rc_0 (by decide) (by decide)) (ms_s (N := 7) (rg_w rc_0 (by decide) (by decide)) (by decide))
set_option maxRecDepth 100000 in
set_option maxHeartbeats 8000000 in
theorem c_X8_forget {l : Launch} {D : va_G} {cy : Nat → ClassId} {L : List Nat} {κ ln : Nat → Nat} {R : Nat → Nat → Option Nat} {I : Nat → Nat → Int32} {J : Nat → Nat → Int64} {ow : Nat → Nat × Nat} (W9 : ∀ a ∈ L, Shp L κ ln R ow a) {x : Nat} (hLx : x ∈ L) (hkx : κ x = 8) (hU : Uv L κ ow I) : CtV l yX8_forget cX8_forget 1 none { frames := 0, cells := 0, slots := 0, locals := 0 } D cy L κ ln R I J [.ref x] (fun I2 J2 => Uv L κ ow I2 ∧ Fq L κ ow [805, 806, 807, 808] I I2 ∧ Fq L κ ow [] J J2) := by
  refine CtV.of (by decide +kernel) (Nat.le_of_ble_eq_true rfl) ?_
  intro p e s m below meth c B K
  have C := B.1
  have hF : Fq L κ ow [805, 806, 807, 808] I I := fq_rf
  have hG : Fq L κ ow [] J J := fq_rf
  refine g_lo (is := [0]) (lo2 := [(0, .ref x)]) rfl ?_
  refine g_aload_n C 0 dX8_forget_0 rfl rfl ?_
  refine g_iconst C (v := 0) dX8_forget_1 (by decide) ?_
  refine h_putI C K hLx hkx f_8_28 p_8_5 dX8_forget_2 (fun I_405475 hI_405475 => ?_)
  have hU_405476 := uv_put hU hI_405475 (ro_o hkx (by decide)) (lo := 0) (hi := 7) rfl (rg_w rc_0 (by decide) (by decide))
  have hF_405477 := fq_puto hF hI_405475 hkx (by decide) (by decide)
  refine g_aload_n C 0 dX8_forget_5 rfl rfl ?_
  refine g_iconst C (v := 0) dX8_forget_6 (by decide) ?_
  refine h_putI C K hLx hkx f_8_32 p_8_6 dX8_forget_7 (fun I_405478 hI_405478 => ?_)
  have hU_405479 := uv_put hU_405476 hI_405478 (ro_o hkx (by decide)) (lo := 0) (hi := 6) rfl (rg_w rc_0 (by decide) (by decide))
  have hF_405480 := fq_puto hF_405477 hI_405478 hkx (by decide) (by decide)
  refine g_aload_n C 0 dX8_forget_10 rfl rfl ?_
  refine g_iconst C (v := 0) dX8_forget_11 (by decide) ?_
  refine h_putI C K hLx hkx f_8_35 p_8_7 dX8_forget_12 (fun I_405481 hI_405481 => ?_)
  have hU_405482 := uv_put hU_405479 hI_405481 (ro_o hkx (by decide)) (lo := (-2147483648)) (hi := 2147483647) rfl (rg_all _)
  have hF_405483 := fq_puto hF_405480 hI_405481 hkx (by decide) (by decide)
  refine g_aload_n C 0 dX8_forget_15 rfl rfl ?_
  refine g_iconst C (v := 0) dX8_forget_16 (by decide) ?_
  refine h_putI C K hLx hkx f_8_38 p_8_8 dX8_forget_17 (fun I_405484 hI_405484 => ?_)
  have hU_405485 := uv_put hU_405482 hI_405484 (ro_o hkx (by decide)) (lo := (-2147483648)) (hi := 2147483647) rfl (rg_all _)
  have hF_405486 := fq_puto hF_405483 hI_405484 hkx (by decide) (by decide)
  exact g_vret B K rfl ⟨hU_405485, hF_405486, hG⟩ dX8_forget_20
set_option maxRecDepth 100000 in
set_option maxHeartbeats 8000000 in
theorem c_X10_fail {l : Launch} {D : va_G} {cy : Nat → ClassId} {L : List Nat} {κ ln : Nat → Nat} {R : Nat → Nat → Option Nat} {I : Nat → Nat → Int32} {J : Nat → Nat → Int64} {ow : Nat → Nat × Nat} (W9 : ∀ a ∈ L, Shp L κ ln R ow a) {x : Nat} (hLx : x ∈ L) (hkx : κ x = 10) (a0 : Int32) (ra0 : Rg 1 4 a0) (hU : Uv L κ ow I) : CtI l yX10_fail cX10_fail 2 (some .boolean) { frames := 0, cells := 0, slots := 0, locals := 0 } D cy L κ ln R I J [.ref x, .int a0] (fun r I2 J2 => Uv L κ ow I2 ∧ Fq L κ ow [1011, 1012] I I2 ∧ Fq L κ ow [] J J2 ∧ Rg 0 0 r) := by
  refine CtI.of (by decide +kernel) (Nat.le_of_ble_eq_true rfl) ?_
  intro p e s m below meth c B K
  have C := B.1
  have hF : Fq L κ ow [1011, 1012] I I := fq_rf
  have hG : Fq L κ ow [] J J := fq_rf
  refine g_lo (is := [0, 1]) (lo2 := [(0, .ref x), (1, .int a0)]) rfl ?_
  refine g_aload_n C 0 dX10_fail_0 rfl rfl ?_
  obtain ⟨x_405509, hx_405509, rx_405509⟩ := ex_get (I := I) (a := x) (j := 11) (lo := (-2147483648)) (hi := 2147483647) hU hLx (ro_o hkx (by decide)) rfl
  refine g_getI C K hLx hkx f_10_49 (v := x_405509) hx_405509 dX10_fail_1 ?_
  refine g_if_ne C (tgt := 20) dX10_fail_4 (by decide) (fun h_405510 => ?_) (fun h_405510 => ?_)
  · skip
    have n_405511 : ¬ x_405509 = 0 := h_405510
    refine g_iconst C (v := 0) dX10_fail_20 (by decide) ?_
    exact g_zret (ty := .boolean) (r := 0) B K rfl (rfl) ⟨hU, hF, hG, rc_0⟩ dX10_fail_21
  · skip
    have r_405512 := (⟨(eq_rg (h_405510) rc_0).1, (eq_rg (h_405510) rc_0).2⟩ : Rg 0 0 x_405509)
    refine g_aload_n C 0 dX10_fail_7 rfl rfl ?_
    refine g_iload_n C 1 dX10_fail_8 rfl rfl ?_
    refine h_putI C K hLx hkx f_10_49 p_10_11 dX10_fail_9 (fun I_405513 hI_405513 => ?_)
    have hU_405514 := uv_put hU hI_405513 (ro_o hkx (by decide)) (lo := (-2147483648)) (hi := 2147483647) rfl (rg_all _)
    have hF_405515 := fq_puto hF hI_405513 hkx (by decide) (by decide)
    refine g_aload_n C 0 dX10_fail_12 rfl rfl ?_
    refine g_aload_n C 0 dX10_fail_13 rfl rfl ?_
    obtain ⟨x_405516, hx_405516, rx_405516⟩ := ex_get (I := I_405513) (a := x) (j := 9) (lo := (-2147483648)) (hi := 2147483647) hU_405514 hLx (ro_o hkx (by decide)) rfl
    refine g_getI C K hLx hkx f_10_42 (v := x_405516) hx_405516 dX10_fail_14 ?_
    refine h_putI C K hLx hkx f_10_52 p_10_12 dX10_fail_17 (fun I_405517 hI_405517 => ?_)
    have hU_405518 := uv_put hU_405514 hI_405517 (ro_o hkx (by decide)) (lo := (-2147483648)) (hi := 2147483647) rfl (rx_405516)
    have hF_405519 := fq_puto hF_405515 hI_405517 hkx (by decide) (by decide)
    refine g_iconst C (v := 0) dX10_fail_20 (by decide) ?_
    exact g_zret (ty := .boolean) (r := 0) B K rfl (rfl) ⟨hU_405518, hF_405519, hG, rc_0⟩ dX10_fail_21
set_option maxRecDepth 100000 in
set_option maxHeartbeats 8000000 in
theorem c_X10_take {l : Launch} {D : va_G} {cy : Nat → ClassId} {L : List Nat} {κ ln : Nat → Nat} {R : Nat → Nat → Option Nat} {I : Nat → Nat → Int32} {J : Nat → Nat → Int64} {ow : Nat → Nat × Nat} (W9 : ∀ a ∈ L, Shp L κ ln R ow a) {x : Nat} (hLx : x ∈ L) (hkx : κ x = 10) (a0 : Int32) (ra0 : Rg 41 102 a0) (hU : Uv L κ ow I) : CtI l yX10_take cX10_take 2 (some .boolean) { frames := 1, cells := 0, slots := 0, locals := 21 } D cy L κ ln R I J [.ref x, .int a0] (fun r I2 J2 => Uv L κ ow I2 ∧ Fq L κ ow [1007, 1008, 1009, 1011, 1012] I I2 ∧ Fq L κ ow [1010] J J2 ∧ Rg 0 1 r) := by
  refine CtI.of (by decide +kernel) (Nat.le_of_ble_eq_true rfl) ?_
  intro p e s m below meth c B K
  have C := B.1
  have hF : Fq L κ ow [1007, 1008, 1009, 1011, 1012] I I := fq_rf
  have hG : Fq L κ ow [1010] J J := fq_rf
  refine g_lo (is := [0, 1]) (lo2 := [(0, .ref x), (1, .int a0)]) rfl ?_
  refine g_aload_n C 0 dX10_take_0 rfl rfl ?_
  obtain ⟨x_405550, hx_405550, rx_405550⟩ := ex_get (I := I) (a := x) (j := 8) (lo := (-2147483648)) (hi := 2147483647) hU hLx (ro_o hkx (by decide)) rfl
  refine g_getI C K hLx hkx f_10_39 (v := x_405550) hx_405550 dX10_take_1 ?_
  refine g_iload_n C 1 dX10_take_4 rfl rfl ?_
  refine g_icmp_eq C (tgt := 14) dX10_take_5 (by decide) (fun h_405551 => ?_) (fun h_405551 => ?_)
  · skip
    have r_405552 := (⟨(eq_rg (h_405551) ra0).1, (eq_rg (h_405551) ra0).2⟩ : Rg 41 102 x_405550)
    refine g_aload_n C 0 dX10_take_14 rfl rfl ?_
    refine g_callVV C K (c_X10_advance W9 hLx hkx   hU) hLx hkx (by decide) rfl v_10_84 rfl ⟨rfl, rfl⟩ ⟨Nat.le_of_ble_eq_true rfl, Nat.le_of_ble_eq_true rfl⟩ (Nat.le_of_ble_eq_true rfl) ⟨Nat.le_of_ble_eq_true rfl, Nat.le_of_ble_eq_true rfl⟩ dX10_take_15 rfl (st := []) (fun I_405554 J_405555 h_405556 => ?_)
    obtain ⟨hUI_405554, hFI_405554, hGJ_405555⟩ := h_405556
    have hF_405557 := fq_tr hF hFI_405554 (by decide)
    have hG_405558 := fq_tr hG hGJ_405555 (by decide)
    refine g_iconst C (v := 1) dX10_take_18 (by decide) ?_
    exact g_zret (ty := .boolean) (r := 1) B K rfl (rfl) ⟨hUI_405554, hF_405557, hG_405558, rg_w rc_1 (by decide) (by decide)⟩ dX10_take_19
  · skip
    refine g_aload_n C 0 dX10_take_8 rfl rfl ?_
    refine g_iconst C (v := 1) dX10_take_9 (by decide) ?_
    refine g_callVI C K (c_X10_fail W9 hLx hkx 1 (rg_w rc_1 (by decide) (by decide)) hU) hLx hkx (by decide) rfl v_10_101 rfl ⟨rfl, rfl⟩ ⟨Nat.le_of_ble_eq_true rfl, Nat.le_of_ble_eq_true rfl⟩ (Nat.le_of_ble_eq_true rfl) ⟨Nat.le_of_ble_eq_true rfl, Nat.le_of_ble_eq_true rfl⟩ dX10_take_10 rfl (st := []) (fun x_405559 I_405560 J_405561 h_405562 => ?_)
    obtain ⟨hUI_405560, hFI_405560, hGJ_405561, rx_405559⟩ := h_405562
    have hF_405563 := fq_tr hF hFI_405560 (by decide)
    have hG_405564 := fq_tr hG hGJ_405561 (by decide)
    exact g_zret (ty := .boolean) (r := x_405559) B K rfl (nar_z (rg_w rx_405559 (by decide) (by decide))) ⟨hUI_405560, hF_405563, hG_405564, rg_w rx_405559 (by decide) (by decide)⟩ dX10_take_13
set_option maxRecDepth 100000 in
set_option maxHeartbeats 8000000 in
theorem c_X10_takeNumber {l : Launch} {D : va_G} {cy : Nat → ClassId} {L : List Nat} {κ ln : Nat → Nat} {R : Nat → Nat → Option Nat} {I : Nat → Nat → Int32} {J : Nat → Nat → Int64} {ow : Nat → Nat × Nat} (W9 : ∀ a ∈ L, Shp L κ ln R ow a) {x : Nat} (hLx : x ∈ L) (hkx : κ x = 10) (a0 : Int32) (a1 : Int32) (ra0 : Rg 0 1 a0) (ra1 : Rg 9 999 a1) (hU : Uv L κ ow I) : CtI l yX10_takeNumber cX10_takeNumber 4 (some .int) { frames := 1, cells := 0, slots := 0, locals := 21 } D cy L κ ln R I J [.ref x, .int a0, .int a1] (fun r I2 J2 => Uv L κ ow I2 ∧ Fq L κ ow [1007, 1008, 1009, 1011, 1012] I I2 ∧ Fq L κ ow [1010] J J2 ∧ Rg (-2147483648) 2147483647 r) := by
  refine CtI.of (by decide +kernel) (Nat.le_of_ble_eq_true rfl) ?_
  intro p e s m below meth c B K
  have C := B.1
  have hF : Fq L κ ow [1007, 1008, 1009, 1011, 1012] I I := fq_rf
  have hG : Fq L κ ow [1010] J J := fq_rf
  refine g_lo (is := [0, 1, 2]) (lo2 := [(0, .ref x), (1, .int a0), (2, .int a1)]) rfl ?_
  have j_37 : ∀ (I_405637 : Nat → Nat → Int32) (J_405638 : Nat → Nat → Int64) (hU_405639 : Uv L κ ow I_405637) (hF_405640 : Fq L κ ow [1007, 1008, 1009, 1011, 1012] I I_405637) (hG_405641 : Fq L κ ow [1010] J J_405638) (v_405642 : Int32) (rv_405642 : Rg 0 1 v_405642) (v_405643 : Int32) (rv_405643 : Rg 9 999 v_405643) (v_405644 : Int32) (rv_405644 : Rg 101 101 v_405644) (q_405645 : I_405637 x 8 = v_405644), WG p l e { frames := 1, cells := 0, slots := 0, locals := 21 } s m ([.ref x, .int a0, .int a1] : List Value).toArray below meth c 4 0 0 (MQ below (Qi_ D cy L κ ln R (fun r I2 J2 => Uv L κ ow I2 ∧ Fq L κ ow [1007, 1008, 1009, 1011, 1012] I I2 ∧ Fq L κ ow [1010] J J2 ∧ Rg (-2147483648) 2147483647 r)) ([.ref x, .int a0, .int a1] : List Value).toArray s 0 0 (Al_ L)) D cy (Al_ L) s.heap L κ ln R I_405637 J_405638 37 [(0, .ref x), (1, .int v_405642), (2, .int v_405643)] [] := by
    intro I_405637 J_405638 hU_405639 hF_405640 hG_405641 v_405642 rv_405642 v_405643 rv_405643 v_405644 rv_405644 q_405645
    refine g_aload_n C 0 dX10_takeNumber_37 rfl rfl ?_
    refine g_iconst C (v := 2) dX10_takeNumber_38 (by decide) ?_
    refine g_callVI C K (c_X10_fail W9 hLx hkx 2 (rg_w rc_2 (by decide) (by decide)) hU_405639) hLx hkx (by decide) rfl v_10_101 rfl ⟨rfl, rfl⟩ ⟨Nat.le_of_ble_eq_true rfl, Nat.le_of_ble_eq_true rfl⟩ (Nat.le_of_ble_eq_true rfl) ⟨Nat.le_of_ble_eq_true rfl, Nat.le_of_ble_eq_true rfl⟩ dX10_takeNumber_39 rfl (st := []) (fun x_405646 I_405647 J_405648 h_405649 => ?_)
    obtain ⟨hUI_405647, hFI_405647, hGJ_405648, rx_405646⟩ := h_405649
    have hF_405650 := fq_tr hF_405640 hFI_405647 (by decide)
    have hG_405651 := fq_tr hG_405641 hGJ_405648 (by decide)
    refine g_pop C dX10_takeNumber_42 rfl ?_
    refine g_iconst C (v := (-1)) dX10_takeNumber_43 (by decide) ?_
    exact g_zret (ty := .int) (r := (-1)) B K rfl (rfl) ⟨hUI_405647, hF_405650, hG_405651, rg_all _⟩ dX10_takeNumber_44
  refine g_aload_n C 0 dX10_takeNumber_0 rfl rfl ?_
  obtain ⟨x_405652, hx_405652, rx_405652⟩ := ex_get (I := I) (a := x) (j := 8) (lo := (-2147483648)) (hi := 2147483647) hU hLx (ro_o hkx (by decide)) rfl
  refine g_getI C K hLx hkx f_10_39 (v := x_405652) hx_405652 dX10_takeNumber_1 ?_
  refine g_bipush C (v := 101) dX10_takeNumber_4 (by decide) ?_
  refine g_icmp_eq C (tgt := 17) dX10_takeNumber_6 (by decide) (fun h_405653 => ?_) (fun h_405653 => ?_)
  · skip
    have r_405654 := (⟨(eq_rg (h_405653) rc_101).1, (eq_rg (h_405653) rc_101).2⟩ : Rg 101 101 x_405652)
    refine g_aload_n C 0 dX10_takeNumber_17 rfl rfl ?_
    obtain ⟨y_405655, hy_405655⟩ : ∃ z, J x 10 = z := ⟨_, rfl⟩
    refine g_getJ C K hLx hkx f_10_45 (v := y_405655) hy_405655 dX10_takeNumber_18 ?_
    refine g_iload_n C 1 dX10_takeNumber_21 rfl rfl ?_
    obtain ⟨y_405656, hy_405656⟩ : ∃ z, Int32.toInt64 a0 = z := ⟨_, rfl⟩
    refine g_i2l C (v := y_405656) dX10_takeNumber_22 hy_405656 ?_
    refine g_lcmp C dX10_takeNumber_23 (fun x_405657 rx_405657 => ?_)
    refine g_if_lt C (tgt := 37) dX10_takeNumber_24 (by decide) (fun h_405658 => ?_) (fun h_405658 => ?_)
    · skip
      have r_405659 := lt_l (hi := (-1)) (h_405658) rx_405657 rc_0 (by decide)
      refine g_lo (is := [0, 1, 2]) (lo2 := [(0, .ref x), (1, .int a0), (2, .int a1)]) rfl ?_
      exact j_37 I J hU hF hG a0 (ra0) a1 (ra1) x_405652 (r_405654) hx_405652
    · skip
      have r_405660 := le_r (nlt h_405658) rc_0 rx_405657
      refine g_aload_n C 0 dX10_takeNumber_27 rfl rfl ?_
      obtain ⟨y_405661, hy_405661⟩ : ∃ z, J x 10 = z := ⟨_, rfl⟩
      refine g_getJ C K hLx hkx f_10_45 (v := y_405661) hy_405661 dX10_takeNumber_28 ?_
      refine g_iload_n C 2 dX10_takeNumber_31 rfl rfl ?_
      obtain ⟨y_405662, hy_405662⟩ : ∃ z, Int32.toInt64 a1 = z := ⟨_, rfl⟩
      refine g_i2l C (v := y_405662) dX10_takeNumber_32 hy_405662 ?_
      refine g_lcmp C dX10_takeNumber_33 (fun x_405663 rx_405663 => ?_)
      refine g_if_le C (tgt := 45) dX10_takeNumber_34 (by decide) (fun h_405664 => ?_) (fun h_405664 => ?_)
      · skip
        have r_405665 := le_l (h_405664) rx_405663 rc_0
        refine g_aload_n C 0 dX10_takeNumber_45 rfl rfl ?_
        obtain ⟨y_405666, hy_405666⟩ : ∃ z, J x 10 = z := ⟨_, rfl⟩
        refine g_getJ C K hLx hkx f_10_45 (v := y_405666) hy_405666 dX10_takeNumber_46 ?_
        obtain ⟨x_405667, hx_405667, rx_405667⟩ := ex_any (z0 := Int64.toInt32 y_405666)
        refine g_l2i C (v := x_405667) dX10_takeNumber_49 hx_405667 ?_
        refine g_istore_n C dX10_takeNumber_50 rfl (by decide) (lo2 := [(3, .int x_405667), (0, .ref x), (1, .int a0), (2, .int a1)]) rfl ?_
        refine g_aload_n C 1 dX10_takeNumber_51 rfl rfl ?_
        refine g_callVV C K (c_X10_advance W9 hLx hkx   hU) hLx hkx (by decide) rfl v_10_84 rfl ⟨rfl, rfl⟩ ⟨Nat.le_of_ble_eq_true rfl, Nat.le_of_ble_eq_true rfl⟩ (Nat.le_of_ble_eq_true rfl) ⟨Nat.le_of_ble_eq_true rfl, Nat.le_of_ble_eq_true rfl⟩ dX10_takeNumber_52 rfl (st := []) (fun I_405669 J_405670 h_405671 => ?_)
        obtain ⟨hUI_405669, hFI_405669, hGJ_405670⟩ := h_405671
        have hF_405672 := fq_tr hF hFI_405669 (by decide)
        have hG_405673 := fq_tr hG hGJ_405670 (by decide)
        refine g_iload_n C 0 dX10_takeNumber_55 rfl rfl ?_
        exact g_zret (ty := .int) (r := x_405667) B K rfl (rfl) ⟨hUI_405669, hF_405672, hG_405673, rx_405667⟩ dX10_takeNumber_56
      · skip
        have r_405674 := lt_r (lo := 1) (nle h_405664) rc_0 rx_405663 (by decide)
        refine g_lo (is := [0, 1, 2]) (lo2 := [(0, .ref x), (1, .int a0), (2, .int a1)]) rfl ?_
        exact j_37 I J hU hF hG a0 (ra0) a1 (ra1) x_405652 (r_405654) hx_405652
  · skip
    have n_405675 : ¬ x_405652 = 101 := h_405653
    refine g_aload_n C 0 dX10_takeNumber_9 rfl rfl ?_
    refine g_iconst C (v := 1) dX10_takeNumber_10 (by decide) ?_
    refine g_callVI C K (c_X10_fail W9 hLx hkx 1 (rg_w rc_1 (by decide) (by decide)) hU) hLx hkx (by decide) rfl v_10_101 rfl ⟨rfl, rfl⟩ ⟨Nat.le_of_ble_eq_true rfl, Nat.le_of_ble_eq_true rfl⟩ (Nat.le_of_ble_eq_true rfl) ⟨Nat.le_of_ble_eq_true rfl, Nat.le_of_ble_eq_true rfl⟩ dX10_takeNumber_11 rfl (st := []) (fun x_405676 I_405677 J_405678 h_405679 => ?_)
    obtain ⟨hUI_405677, hFI_405677, hGJ_405678, rx_405676⟩ := h_405679
    have hF_405680 := fq_tr hF hFI_405677 (by decide)
    have hG_405681 := fq_tr hG hGJ_405678 (by decide)
    refine g_pop C dX10_takeNumber_14 rfl ?_
    refine g_iconst C (v := (-1)) dX10_takeNumber_15 (by decide) ?_
    exact g_zret (ty := .int) (r := (-1)) B K rfl (rfl) ⟨hUI_405677, hF_405680, hG_405681, rg_all _⟩ dX10_takeNumber_16
set_option maxRecDepth 100000 in
set_option maxHeartbeats 8000000 in
theorem c_X8_dishNamed {l : Launch} {D : va_G} {cy : Nat → ClassId} {L : List Nat} {κ ln : Nat → Nat} {R : Nat → Nat → Option Nat} {I : Nat → Nat → Int32} {J : Nat → Nat → Int64} {ow : Nat → Nat × Nat} (W9 : ∀ a ∈ L, Shp L κ ln R ow a) {x : Nat} (hLx : x ∈ L) (hkx : κ x = 8) (a0 : Int64) (hU : Uv L κ ow I) : CtI l yX8_dishNamed cX8_dishNamed 4 (some .int) { frames := 0, cells := 0, slots := 0, locals := 0 } D cy L κ ln R I J [.ref x, .long a0] (fun r I2 J2 => I = I2 ∧ J = J2 ∧ Rg (-1) 5 r) := by
  refine CtI.of (by decide +kernel) (Nat.le_of_ble_eq_true rfl) ?_
  intro p e s m below meth c B K
  have C := B.1
  obtain ⟨b_405762, hb_405762, hb_405762L, hb_405762k, hb_405762n, hb_405762o⟩ := shp_a (W9 x hLx) hkx 3 15 6 rfl (by decide)
  refine g_lo (is := [0, 1]) (lo2 := [(0, .ref x), (1, .long a0)]) rfl ?_
  have l_2 : ∀ (n_2 : Nat) (y_405763 : Int64) (v_405764 : Int32) (rv_405764 : Rg 0 6 v_405764) (hm_405765 : 6 < (v_405764 : Int32).toInt + (n_2 : Int)), WG p l e { frames := 0, cells := 0, slots := 0, locals := 0 } s m ([.ref x, .long a0] : List Value).toArray below meth c 4 0 0 (MQ below (Qi_ D cy L κ ln R (fun r I2 J2 => I = I2 ∧ J = J2 ∧ Rg (-1) 5 r)) ([.ref x, .long a0] : List Value).toArray s 0 0 (Al_ L)) D cy (Al_ L) s.heap L κ ln R I J 2 [(0, .ref x), (1, .long y_405763), (3, .int v_405764)] [] := by
    intro n_2
    induction n_2 with
    | zero =>
      intro y_405763 v_405764 rv_405764 hm_405765
      exact ms_0 rv_405764 hm_405765
    | succ n_2 ih_2 =>
      intro y_405763 v_405764 rv_405764 hm_405765
      refine g_iload_n C 2 dX8_dishNamed_2 rfl rfl ?_
      refine g_aload_n C 0 dX8_dishNamed_3 rfl rfl ?_
      obtain ⟨x_405766, hx_405766, rx_405766⟩ := ex_get (I := I) (a := x) (j := 6) (lo := 0) (hi := 6) hU hLx (ro_o hkx (by decide)) rfl
      refine g_getI C K hLx hkx f_8_32 (v := x_405766) hx_405766 dX8_dishNamed_4 ?_
      refine g_icmp_ge C (tgt := 29) dX8_dishNamed_7 (by decide) (fun h_405767 => ?_) (fun h_405767 => ?_)
      · skip
        refine g_iconst C (v := (-1)) dX8_dishNamed_29 (by decide) ?_
        exact g_zret (ty := .int) (r := (-1)) B K rfl (rfl) ⟨rfl, rfl, rg_w rc_m1 (by decide) (by decide)⟩ dX8_dishNamed_30
      · skip
        have r_405768 := lt_l (hi := 5) (nle h_405767) rv_405764 rx_405766 (by decide)
        have r_405769 := lt_r (lo := 1) (nle h_405767) rv_405764 rx_405766 (by decide)
        refine g_aload_n C 0 dX8_dishNamed_10 rfl rfl ?_
        refine g_getR C K hLx hkx f_8_22 hb_405762 dX8_dishNamed_11 ?_
        refine g_iload_n C 2 dX8_dishNamed_14 rfl rfl ?_
        obtain ⟨y_405770, hy_405770⟩ : ∃ z, J b_405762 (v_405764.toNatClampNeg) = z := ⟨_, rfl⟩
        refine h_lald C K hb_405762L hb_405762k (v := y_405770) (v_405764.toNatClampNeg) (rfl) (ix_0 r_405768 (by decide)) (ix_lt r_405768 (by decide) hb_405762n (by decide)) hy_405770 dX8_dishNamed_15 ?_
        refine g_lload_n C 1 dX8_dishNamed_16 rfl rfl ?_
        refine g_lcmp C dX8_dishNamed_17 (fun x_405771 rx_405771 => ?_)
        refine g_if_ne C (tgt := 23) dX8_dishNamed_18 (by decide) (fun h_405772 => ?_) (fun h_405772 => ?_)
        · skip
          have n_405773 : ¬ x_405771 = 0 := h_405772
          obtain ⟨x_405774, hx_405774, rx_405774, tx_405774⟩ := ex_add (y := 1) 1 6 r_405768 rc_1 (by decide) (by decide) (by decide) (by decide)
          refine g_iinc C dX8_dishNamed_23 (k := 2) (v := x_405774) rfl hx_405774 (by decide) (lo2 := [(3, .int x_405774), (0, .ref x), (1, .long y_405763)]) rfl ?_
          refine g_goto C (tgt := 2) dX8_dishNamed_26 (by decide) ?_
          refine g_lo (is := [1, 2, 0]) (lo2 := [(0, .ref x), (1, .long y_405763), (3, .int x_405774)]) rfl ?_
          exact ih_2 y_405763 x_405774 (rg_w rx_405774 (by decide) (by decide)) (ms_1 hm_405765 (ti_k tx_405774 rc_1) (by decide))
        · skip
          have r_405775 := (⟨(eq_rg (h_405772) rc_0).1, (eq_rg (h_405772) rc_0).2⟩ : Rg 0 0 x_405771)
          refine g_iload_n C 2 dX8_dishNamed_21 rfl rfl ?_
          exact g_zret (ty := .int) (r := v_405764) B K rfl (rfl) ⟨rfl, rfl, rg_w r_405768 (by decide) (by decide)⟩ dX8_dishNamed_22
  refine g_iconst C (v := 0) dX8_dishNamed_0 (by decide) ?_
  refine g_istore_n C dX8_dishNamed_1 rfl (by decide) (lo2 := [(3, .int 0), (0, .ref x), (1, .long a0)]) rfl ?_
  refine g_lo (is := [1, 2, 0]) (lo2 := [(0, .ref x), (1, .long a0), (3, .int 0)]) rfl ?_
  exact l_2 7 a0 0 (rg_w rc_0 (by decide) (by decide)) (ms_s (N := 7) (rg_w rc_0 (by decide) (by decide)) (by decide))
set_option maxRecDepth 100000 in
set_option maxHeartbeats 8000000 in
theorem c_X8_personNamed {l : Launch} {D : va_G} {cy : Nat → ClassId} {L : List Nat} {κ ln : Nat → Nat} {R : Nat → Nat → Option Nat} {I : Nat → Nat → Int32} {J : Nat → Nat → Int64} {ow : Nat → Nat × Nat} (W9 : ∀ a ∈ L, Shp L κ ln R ow a) {x : Nat} (hLx : x ∈ L) (hkx : κ x = 8) (a0 : Int64) (hU : Uv L κ ow I) : CtI l yX8_personNamed cX8_personNamed 4 (some .int) { frames := 0, cells := 0, slots := 0, locals := 0 } D cy L κ ln R I J [.ref x, .long a0] (fun r I2 J2 => I = I2 ∧ J = J2 ∧ Rg (-1) 6 r) := by
  refine CtI.of (by decide +kernel) (Nat.le_of_ble_eq_true rfl) ?_
  intro p e s m below meth c B K
  have C := B.1
  obtain ⟨b_405866, hb_405866, hb_405866L, hb_405866k, hb_405866n, hb_405866o⟩ := shp_a (W9 x hLx) hkx 0 15 7 rfl (by decide)
  refine g_lo (is := [0, 1]) (lo2 := [(0, .ref x), (1, .long a0)]) rfl ?_
  have l_2 : ∀ (n_2 : Nat) (y_405867 : Int64) (v_405868 : Int32) (rv_405868 : Rg 0 7 v_405868) (hm_405869 : 7 < (v_405868 : Int32).toInt + (n_2 : Int)), WG p l e { frames := 0, cells := 0, slots := 0, locals := 0 } s m ([.ref x, .long a0] : List Value).toArray below meth c 4 0 0 (MQ below (Qi_ D cy L κ ln R (fun r I2 J2 => I = I2 ∧ J = J2 ∧ Rg (-1) 6 r)) ([.ref x, .long a0] : List Value).toArray s 0 0 (Al_ L)) D cy (Al_ L) s.heap L κ ln R I J 2 [(0, .ref x), (1, .long y_405867), (3, .int v_405868)] [] := by
    intro n_2
    induction n_2 with
    | zero =>
      intro y_405867 v_405868 rv_405868 hm_405869
      exact ms_0 rv_405868 hm_405869
    | succ n_2 ih_2 =>
      intro y_405867 v_405868 rv_405868 hm_405869
      refine g_iload_n C 2 dX8_personNamed_2 rfl rfl ?_
      refine g_aload_n C 0 dX8_personNamed_3 rfl rfl ?_
      obtain ⟨x_405870, hx_405870, rx_405870⟩ := ex_get (I := I) (a := x) (j := 5) (lo := 0) (hi := 7) hU hLx (ro_o hkx (by decide)) rfl
      refine g_getI C K hLx hkx f_8_28 (v := x_405870) hx_405870 dX8_personNamed_4 ?_
      refine g_icmp_ge C (tgt := 29) dX8_personNamed_7 (by decide) (fun h_405871 => ?_) (fun h_405871 => ?_)
      · skip
        refine g_iconst C (v := (-1)) dX8_personNamed_29 (by decide) ?_
        exact g_zret (ty := .int) (r := (-1)) B K rfl (rfl) ⟨rfl, rfl, rg_w rc_m1 (by decide) (by decide)⟩ dX8_personNamed_30
      · skip
        have r_405872 := lt_l (hi := 6) (nle h_405871) rv_405868 rx_405870 (by decide)
        have r_405873 := lt_r (lo := 1) (nle h_405871) rv_405868 rx_405870 (by decide)
        refine g_aload_n C 0 dX8_personNamed_10 rfl rfl ?_
        refine g_getR C K hLx hkx f_8_9 hb_405866 dX8_personNamed_11 ?_
        refine g_iload_n C 2 dX8_personNamed_14 rfl rfl ?_
        obtain ⟨y_405874, hy_405874⟩ : ∃ z, J b_405866 (v_405868.toNatClampNeg) = z := ⟨_, rfl⟩
        refine h_lald C K hb_405866L hb_405866k (v := y_405874) (v_405868.toNatClampNeg) (rfl) (ix_0 r_405872 (by decide)) (ix_lt r_405872 (by decide) hb_405866n (by decide)) hy_405874 dX8_personNamed_15 ?_
        refine g_lload_n C 1 dX8_personNamed_16 rfl rfl ?_
        refine g_lcmp C dX8_personNamed_17 (fun x_405875 rx_405875 => ?_)
        refine g_if_ne C (tgt := 23) dX8_personNamed_18 (by decide) (fun h_405876 => ?_) (fun h_405876 => ?_)
        · skip
          have n_405877 : ¬ x_405875 = 0 := h_405876
          obtain ⟨x_405878, hx_405878, rx_405878, tx_405878⟩ := ex_add (y := 1) 1 7 r_405872 rc_1 (by decide) (by decide) (by decide) (by decide)
          refine g_iinc C dX8_personNamed_23 (k := 2) (v := x_405878) rfl hx_405878 (by decide) (lo2 := [(3, .int x_405878), (0, .ref x), (1, .long y_405867)]) rfl ?_
          refine g_goto C (tgt := 2) dX8_personNamed_26 (by decide) ?_
          refine g_lo (is := [1, 2, 0]) (lo2 := [(0, .ref x), (1, .long y_405867), (3, .int x_405878)]) rfl ?_
          exact ih_2 y_405867 x_405878 (rg_w rx_405878 (by decide) (by decide)) (ms_1 hm_405869 (ti_k tx_405878 rc_1) (by decide))
        · skip
          have r_405879 := (⟨(eq_rg (h_405876) rc_0).1, (eq_rg (h_405876) rc_0).2⟩ : Rg 0 0 x_405875)
          refine g_iload_n C 2 dX8_personNamed_21 rfl rfl ?_
          exact g_zret (ty := .int) (r := v_405868) B K rfl (rfl) ⟨rfl, rfl, rg_w r_405872 (by decide) (by decide)⟩ dX8_personNamed_22
  refine g_iconst C (v := 0) dX8_personNamed_0 (by decide) ?_
  refine g_istore_n C dX8_personNamed_1 rfl (by decide) (lo2 := [(3, .int 0), (0, .ref x), (1, .long a0)]) rfl ?_
  refine g_lo (is := [1, 2, 0]) (lo2 := [(0, .ref x), (1, .long a0), (3, .int 0)]) rfl ?_
  exact l_2 8 a0 0 (rg_w rc_0 (by decide) (by decide)) (ms_s (N := 8) (rg_w rc_0 (by decide) (by decide)) (by decide))
set_option maxRecDepth 100000 in
set_option maxHeartbeats 8000000 in
theorem c_X9_newName {l : Launch} {D : va_G} {cy : Nat → ClassId} {L : List Nat} {κ ln : Nat → Nat} {R : Nat → Nat → Option Nat} {I : Nat → Nat → Int32} {J : Nat → Nat → Int64} {ow : Nat → Nat × Nat} (W9 : ∀ a ∈ L, Shp L κ ln R ow a) {x : Nat} (hLx : x ∈ L) (hkx : κ x = 9) {a0 : Nat} (hLa0 : a0 ∈ L) (hka0 : κ a0 = 10) (hU : Uv L κ ow I) : CtI l yX9_newName cX9_newName 2 (some .boolean) { frames := 1, cells := 0, slots := 0, locals := 23 } D cy L κ ln R I J [.ref x, .ref a0] (fun r I2 J2 => Uv L κ ow I2 ∧ Fq L κ ow [1007, 1008, 1009, 1011, 1012] I I2 ∧ Fq L κ ow [1010] J J2 ∧ Rg 0 1 r) := by
  refine CtI.of (by decide +kernel) (Nat.le_of_ble_eq_true rfl) ?_
  intro p e s m below meth c B K
  have C := B.1
  have hF : Fq L κ ow [1007, 1008, 1009, 1011, 1012] I I := fq_rf
  have hG : Fq L κ ow [1010] J J := fq_rf
  obtain ⟨b_405962, hb_405962, hb_405962L, hb_405962k⟩ := shp_o (W9 x hLx) hkx 0 8 rfl (by decide)
  refine g_lo (is := [0, 1]) (lo2 := [(0, .ref x), (1, .ref a0)]) rfl ?_
  have j_45 : ∀ (I_405963 : Nat → Nat → Int32) (J_405964 : Nat → Nat → Int64) (hU_405965 : Uv L κ ow I_405963) (hF_405966 : Fq L κ ow [1007, 1008, 1009, 1011, 1012] I I_405963) (hG_405967 : Fq L κ ow [1010] J J_405964) (v_405968 : Int32) (rv_405968 : Rg 100 100 v_405968) (q_405969 : I_405963 a0 8 = v_405968), WG p l e { frames := 1, cells := 0, slots := 0, locals := 23 } s m ([.ref x, .ref a0] : List Value).toArray below meth c 2 0 0 (MQ below (Qi_ D cy L κ ln R (fun r I2 J2 => Uv L κ ow I2 ∧ Fq L κ ow [1007, 1008, 1009, 1011, 1012] I I2 ∧ Fq L κ ow [1010] J J2 ∧ Rg 0 1 r)) ([.ref x, .ref a0] : List Value).toArray s 0 0 (Al_ L)) D cy (Al_ L) s.heap L κ ln R I_405963 J_405964 45 [(0, .ref x), (1, .ref a0)] [] := by
    intro I_405963 J_405964 hU_405965 hF_405966 hG_405967 v_405968 rv_405968 q_405969
    refine g_aload_n C 1 dX9_newName_45 rfl rfl ?_
    refine g_iconst C (v := 3) dX9_newName_46 (by decide) ?_
    refine g_callVI C K (c_X10_fail W9 hLa0 hka0 3 (rg_w rc_3 (by decide) (by decide)) hU_405965) hLa0 hka0 (by decide) rfl v_9_67 rfl ⟨rfl, rfl⟩ ⟨Nat.le_of_ble_eq_true rfl, Nat.le_of_ble_eq_true rfl⟩ (Nat.le_of_ble_eq_true rfl) ⟨Nat.le_of_ble_eq_true rfl, Nat.le_of_ble_eq_true rfl⟩ dX9_newName_47 rfl (st := []) (fun x_405970 I_405971 J_405972 h_405973 => ?_)
    obtain ⟨hUI_405971, hFI_405971, hGJ_405972, rx_405970⟩ := h_405973
    have hF_405974 := fq_tr hF_405966 hFI_405971 (by decide)
    have hG_405975 := fq_tr hG_405967 hGJ_405972 (by decide)
    exact g_zret (ty := .boolean) (r := x_405970) B K rfl (nar_z (rg_w rx_405970 (by decide) (by decide))) ⟨hUI_405971, hF_405974, hG_405975, rg_w rx_405970 (by decide) (by decide)⟩ dX9_newName_50
  refine g_aload_n C 1 dX9_newName_0 rfl rfl ?_
  obtain ⟨x_405976, hx_405976, rx_405976⟩ := ex_get (I := I) (a := a0) (j := 8) (lo := (-2147483648)) (hi := 2147483647) hU hLa0 (ro_o hka0 (by decide)) rfl
  refine g_getI C K hLa0 hka0 f_9_44 (v := x_405976) hx_405976 dX9_newName_1 ?_
  refine g_bipush C (v := 100) dX9_newName_4 (by decide) ?_
  refine g_icmp_eq C (tgt := 15) dX9_newName_6 (by decide) (fun h_405977 => ?_) (fun h_405977 => ?_)
  · skip
    have r_405978 := (⟨(eq_rg (h_405977) rc_100).1, (eq_rg (h_405977) rc_100).2⟩ : Rg 100 100 x_405976)
    refine g_aload_n C 0 dX9_newName_15 rfl rfl ?_
    refine g_getR C K hLx hkx f_9_12 hb_405962 dX9_newName_16 ?_
    refine g_aload_n C 1 dX9_newName_19 rfl rfl ?_
    obtain ⟨y_405979, hy_405979⟩ : ∃ z, J a0 10 = z := ⟨_, rfl⟩
    refine g_getJ C K hLa0 hka0 f_9_71 (v := y_405979) hy_405979 dX9_newName_20 ?_
    refine g_callVI C K (c_X8_personNamed W9 hb_405962L hb_405962k y_405979  hU) hb_405962L hb_405962k (by decide) rfl v_9_75 rfl ⟨rfl, rfl⟩ ⟨Nat.le_of_ble_eq_true rfl, Nat.le_of_ble_eq_true rfl⟩ (Nat.le_of_ble_eq_true rfl) ⟨Nat.le_of_ble_eq_true rfl, Nat.le_of_ble_eq_true rfl⟩ dX9_newName_23 rfl (st := []) (fun x_405980 I_405981 J_405982 h_405983 => ?_)
    obtain ⟨rfl, rfl, rx_405980⟩ := h_405983
    refine g_iconst C (v := (-1)) dX9_newName_26 (by decide) ?_
    refine g_icmp_ne C (tgt := 45) dX9_newName_27 (by decide) (fun h_405984 => ?_) (fun h_405984 => ?_)
    · skip
      have n_405985 : ¬ x_405980 = (-1) := h_405984
      have r_405986 := ne_lo (lo := 0) n_405985 rx_405980 rc_m1 rfl (by decide)
      refine g_lo (is := [0, 1]) (lo2 := [(0, .ref x), (1, .ref a0)]) rfl ?_
      exact j_45 I J hU hF hG x_405976 (r_405978) hx_405976
    · skip
      have r_405987 := (⟨(rx_405980).1, (eq_rg (h_405984) rc_m1).2⟩ : Rg (-1) (-1) x_405980)
      refine g_aload_n C 0 dX9_newName_30 rfl rfl ?_
      refine g_getR C K hLx hkx f_9_12 hb_405962 dX9_newName_31 ?_
      refine g_aload_n C 1 dX9_newName_34 rfl rfl ?_
      obtain ⟨y_405988, hy_405988⟩ : ∃ z, J a0 10 = z := ⟨_, rfl⟩
      refine g_getJ C K hLa0 hka0 f_9_71 (v := y_405988) hy_405988 dX9_newName_35 ?_
      refine g_callVI C K (c_X8_dishNamed W9 hb_405962L hb_405962k y_405988  hU) hb_405962L hb_405962k (by decide) rfl v_9_79 rfl ⟨rfl, rfl⟩ ⟨Nat.le_of_ble_eq_true rfl, Nat.le_of_ble_eq_true rfl⟩ (Nat.le_of_ble_eq_true rfl) ⟨Nat.le_of_ble_eq_true rfl, Nat.le_of_ble_eq_true rfl⟩ dX9_newName_38 rfl (st := []) (fun x_405989 I_405990 J_405991 h_405992 => ?_)
      obtain ⟨rfl, rfl, rx_405989⟩ := h_405992
      refine g_iconst C (v := (-1)) dX9_newName_41 (by decide) ?_
      refine g_icmp_eq C (tgt := 51) dX9_newName_42 (by decide) (fun h_405993 => ?_) (fun h_405993 => ?_)
      · skip
        have r_405994 := (⟨(rx_405989).1, (eq_rg (h_405993) rc_m1).2⟩ : Rg (-1) (-1) x_405989)
        refine g_aload_n C 1 dX9_newName_51 rfl rfl ?_
        refine g_callVV C K (c_X10_advance W9 hLa0 hka0   hU) hLa0 hka0 (by decide) rfl v_9_82 rfl ⟨rfl, rfl⟩ ⟨Nat.le_of_ble_eq_true rfl, Nat.le_of_ble_eq_true rfl⟩ (Nat.le_of_ble_eq_true rfl) ⟨Nat.le_of_ble_eq_true rfl, Nat.le_of_ble_eq_true rfl⟩ dX9_newName_52 rfl (st := []) (fun I_405996 J_405997 h_405998 => ?_)
        obtain ⟨hUI_405996, hFI_405996, hGJ_405997⟩ := h_405998
        have hF_405999 := fq_tr hF hFI_405996 (by decide)
        have hG_406000 := fq_tr hG hGJ_405997 (by decide)
        refine g_iconst C (v := 1) dX9_newName_55 (by decide) ?_
        exact g_zret (ty := .boolean) (r := 1) B K rfl (rfl) ⟨hUI_405996, hF_405999, hG_406000, rg_w rc_1 (by decide) (by decide)⟩ dX9_newName_56
      · skip
        have n_406001 : ¬ x_405989 = (-1) := h_405993
        have r_406002 := ne_lo (lo := 0) n_406001 rx_405989 rc_m1 rfl (by decide)
        refine g_lo (is := [0, 1]) (lo2 := [(0, .ref x), (1, .ref a0)]) rfl ?_
        exact j_45 I J hU hF hG x_405976 (r_405978) hx_405976
  · skip
    have n_406003 : ¬ x_405976 = 100 := h_405977
    refine g_aload_n C 1 dX9_newName_9 rfl rfl ?_
    refine g_iconst C (v := 1) dX9_newName_10 (by decide) ?_
    refine g_callVI C K (c_X10_fail W9 hLa0 hka0 1 (rg_w rc_1 (by decide) (by decide)) hU) hLa0 hka0 (by decide) rfl v_9_67 rfl ⟨rfl, rfl⟩ ⟨Nat.le_of_ble_eq_true rfl, Nat.le_of_ble_eq_true rfl⟩ (Nat.le_of_ble_eq_true rfl) ⟨Nat.le_of_ble_eq_true rfl, Nat.le_of_ble_eq_true rfl⟩ dX9_newName_11 rfl (st := []) (fun x_406004 I_406005 J_406006 h_406007 => ?_)
    obtain ⟨hUI_406005, hFI_406005, hGJ_406006, rx_406004⟩ := h_406007
    have hF_406008 := fq_tr hF hFI_406005 (by decide)
    have hG_406009 := fq_tr hG hGJ_406006 (by decide)
    exact g_zret (ty := .boolean) (r := x_406004) B K rfl (nar_z (rg_w rx_406004 (by decide) (by decide))) ⟨hUI_406005, hF_406008, hG_406009, rg_w rx_406004 (by decide) (by decide)⟩ dX9_newName_14
set_option maxRecDepth 100000 in
set_option maxHeartbeats 8000000 in
theorem c_X9_readDish {l : Launch} {D : va_G} {cy : Nat → ClassId} {L : List Nat} {κ ln : Nat → Nat} {R : Nat → Nat → Option Nat} {I : Nat → Nat → Int32} {J : Nat → Nat → Int64} {ow : Nat → Nat × Nat} (W9 : ∀ a ∈ L, Shp L κ ln R ow a) {x : Nat} (hLx : x ∈ L) (hkx : κ x = 9) {a0 : Nat} (hLa0 : a0 ∈ L) (hka0 : κ a0 = 10) (hU : Uv L κ ow I) : CtI l yX9_readDish cX9_readDish 6 (some .boolean) { frames := 2, cells := 0, slots := 0, locals := 44 } D cy L κ ln R I J [.ref x, .ref a0] (fun r I2 J2 => Uv L κ ow I2 ∧ Fq L κ ow [806, 1007, 1008, 1009, 1011, 1012, 16100, 58400] I I2 ∧ Fq L κ ow [1010, 58300] J J2 ∧ Rg 0 1 r) := by
  refine CtI.of (by decide +kernel) (Nat.le_of_ble_eq_true rfl) ?_
  intro p e s m below meth c B K
  have C := B.1
  have hF : Fq L κ ow [806, 1007, 1008, 1009, 1011, 1012, 16100, 58400] I I := fq_rf
  have hG : Fq L κ ow [1010, 58300] J J := fq_rf
  obtain ⟨b_406166, hb_406166, hb_406166L, hb_406166k⟩ := shp_o (W9 x hLx) hkx 1 1 rfl (by decide)
  obtain ⟨b_406167, hb_406167, hb_406167L, hb_406167k⟩ := shp_o (W9 x hLx) hkx 0 8 rfl (by decide)
  obtain ⟨b_406168, hb_406168, hb_406168L, hb_406168k, hb_406168n, hb_406168o⟩ := shp_a (W9 b_406166 hb_406166L) hb_406166k 1 14 6 rfl (by decide)
  obtain ⟨b_406169, hb_406169, hb_406169L, hb_406169k, hb_406169n, hb_406169o⟩ := shp_a (W9 b_406167 hb_406167L) hb_406167k 4 14 6 rfl (by decide)
  obtain ⟨b_406170, hb_406170, hb_406170L, hb_406170k, hb_406170n, hb_406170o⟩ := shp_a (W9 b_406167 hb_406167L) hb_406167k 3 15 6 rfl (by decide)
  refine g_lo (is := [0, 1]) (lo2 := [(0, .ref x), (1, .ref a0)]) rfl ?_
  have j_87 : ∀ (I_406171 : Nat → Nat → Int32) (J_406172 : Nat → Nat → Int64) (hU_406173 : Uv L κ ow I_406171) (hF_406174 : Fq L κ ow [806, 1007, 1008, 1009, 1011, 1012, 16100, 58400] I I_406171) (hG_406175 : Fq L κ ow [1010, 58300] J J_406172) (y_406176 : Int64) (v_406177 : Int32) (nv_406177_m1 : ¬ v_406177 = (-1)) (v_406178 : Int32) (nv_406178_m1 : ¬ v_406178 = (-1)) (v_406179 : Int32) (rv_406179 : Rg 0 5 v_406179) (q_406180 : I_406171 b_406167 6 = v_406179), WG p l e { frames := 2, cells := 0, slots := 0, locals := 44 } s m ([.ref x, .ref a0] : List Value).toArray below meth c 6 0 0 (MQ below (Qi_ D cy L κ ln R (fun r I2 J2 => Uv L κ ow I2 ∧ Fq L κ ow [806, 1007, 1008, 1009, 1011, 1012, 16100, 58400] I I2 ∧ Fq L κ ow [1010, 58300] J J2 ∧ Rg 0 1 r)) ([.ref x, .ref a0] : List Value).toArray s 0 0 (Al_ L)) D cy (Al_ L) s.heap L κ ln R I_406171 J_406172 87 [(0, .ref x), (1, .ref a0), (2, .long y_406176), (4, .int v_406177), (5, .int v_406178)] [] := by
    intro I_406171 J_406172 hU_406173 hF_406174 hG_406175 y_406176 v_406177 nv_406177_m1 v_406178 nv_406178_m1 v_406179 rv_406179 q_406180
    refine g_aload_n C 0 dX9_readDish_87 rfl rfl ?_
    refine g_getR C K hLx hkx f_9_12 hb_406167 dX9_readDish_88 ?_
    refine g_getR C K hb_406167L hb_406167k f_9_116 hb_406170 dX9_readDish_91 ?_
    refine g_aload_n C 0 dX9_readDish_94 rfl rfl ?_
    refine g_getR C K hLx hkx f_9_12 hb_406167 dX9_readDish_95 ?_
    refine g_getI C K hb_406167L hb_406167k f_9_113 (v := v_406179) q_406180 dX9_readDish_98 ?_
    refine g_lload_n C 2 dX9_readDish_101 rfl rfl ?_
    refine h_last C K hb_406170L hb_406170k (v_406179.toNatClampNeg) (rfl) (ix_0 rv_406179 (by decide)) (ix_lt rv_406179 (by decide) hb_406170n (by decide)) dX9_readDish_102 (fun J_406181 hJ_406181 => ?_)
    have hG_406182 := fq_puta hG_406175 hJ_406181 (ro_a hb_406170k (by decide) hb_406170o hb_406167k rfl) (by decide) (by decide)
    refine g_aload_n C 0 dX9_readDish_103 rfl rfl ?_
    refine g_getR C K hLx hkx f_9_12 hb_406167 dX9_readDish_104 ?_
    refine g_getR C K hb_406167L hb_406167k f_9_119 hb_406169 dX9_readDish_107 ?_
    refine g_aload_n C 0 dX9_readDish_110 rfl rfl ?_
    refine g_getR C K hLx hkx f_9_12 hb_406167 dX9_readDish_111 ?_
    refine g_getI C K hb_406167L hb_406167k f_9_113 (v := v_406179) q_406180 dX9_readDish_114 ?_
    refine g_iload C 4 dX9_readDish_117 rfl ?_
    refine h_iast C K hb_406169L hb_406169k (v_406179.toNatClampNeg) (rfl) (ix_0 rv_406179 (by decide)) (ix_lt rv_406179 (by decide) hb_406169n (by decide)) dX9_readDish_119 (fun I_406183 hI_406183 => ?_)
    have hU_406184 := uv_put hU_406173 hI_406183 (ro_a hb_406169k (by decide) hb_406169o hb_406167k rfl) (lo := (-2147483648)) (hi := 2147483647) (rfl) ((rg_all v_406178))
    have hF_406185 := fq_puta hF_406174 hI_406183 (ro_a hb_406169k (by decide) hb_406169o hb_406167k rfl) (by decide) (by decide)
    refine g_aload_n C 0 dX9_readDish_120 rfl rfl ?_
    refine g_getR C K hLx hkx f_9_23 hb_406166 dX9_readDish_121 ?_
    refine g_getR C K hb_406166L hb_406166k f_9_122 hb_406168 dX9_readDish_124 ?_
    refine g_aload_n C 0 dX9_readDish_127 rfl rfl ?_
    refine g_getR C K hLx hkx f_9_12 hb_406167 dX9_readDish_128 ?_
    refine g_getI C K hb_406167L hb_406167k f_9_113 (v := v_406179) (kp_k hI_406183 (by rw [hb_406167k, hb_406169k]; decide) q_406180) dX9_readDish_131 ?_
    refine g_iload C 3 dX9_readDish_134 rfl ?_
    refine h_iast C K hb_406168L hb_406168k (v_406179.toNatClampNeg) (rfl) (ix_0 rv_406179 (by decide)) (ix_lt rv_406179 (by decide) hb_406168n (by decide)) dX9_readDish_136 (fun I_406186 hI_406186 => ?_)
    have hU_406187 := uv_put hU_406184 hI_406186 (ro_a hb_406168k (by decide) hb_406168o hb_406166k rfl) (lo := (-2147483648)) (hi := 2147483647) (rfl) ((rg_all v_406177))
    have hF_406188 := fq_puta hF_406185 hI_406186 (ro_a hb_406168k (by decide) hb_406168o hb_406166k rfl) (by decide) (by decide)
    refine g_aload_n C 0 dX9_readDish_137 rfl rfl ?_
    refine g_getR C K hLx hkx f_9_12 hb_406167 dX9_readDish_138 ?_
    refine g_dup C dX9_readDish_141 rfl ?_
    refine g_getI C K hb_406167L hb_406167k f_9_113 (v := v_406179) (kp_k hI_406186 (by rw [hb_406167k, hb_406168k]; decide) (kp_k hI_406183 (by rw [hb_406167k, hb_406169k]; decide) q_406180)) dX9_readDish_142 ?_
    refine g_iconst C (v := 1) dX9_readDish_145 (by decide) ?_
    obtain ⟨x_406189, hx_406189, rx_406189, tx_406189⟩ := ex_add 1 6 rv_406179 rc_1 (by decide) (by decide) (by decide) (by decide)
    refine g_iadd C (v := x_406189) dX9_readDish_146 hx_406189 ?_
    refine h_putI C K hb_406167L hb_406167k f_9_113 p_8_6 dX9_readDish_147 (fun I_406190 hI_406190 => ?_)
    have hU_406191 := uv_put hU_406187 hI_406190 (ro_o hb_406167k (by decide)) (lo := 0) (hi := 6) rfl (rg_w rx_406189 (by decide) (by decide))
    have hF_406192 := fq_puto hF_406188 hI_406190 hb_406167k (by decide) (by decide)
    refine g_aload_n C 1 dX9_readDish_150 rfl rfl ?_
    refine g_bipush C (v := 59) dX9_readDish_151 (by decide) ?_
    refine g_callVI C K (c_X10_take W9 hLa0 hka0 59 (rg_w rc_59 (by decide) (by decide)) hU_406191) hLa0 hka0 (by decide) rfl v_9_110 rfl ⟨rfl, rfl⟩ ⟨Nat.le_of_ble_eq_true rfl, Nat.le_of_ble_eq_true rfl⟩ (Nat.le_of_ble_eq_true rfl) ⟨Nat.le_of_ble_eq_true rfl, Nat.le_of_ble_eq_true rfl⟩ dX9_readDish_153 rfl (st := []) (fun x_406193 I_406194 J_406195 h_406196 => ?_)
    obtain ⟨hUI_406194, hFI_406194, hGJ_406195, rx_406193⟩ := h_406196
    have hF_406197 := fq_tr hF_406192 hFI_406194 (by decide)
    have hG_406198 := fq_tr hG_406182 hGJ_406195 (by decide)
    exact g_zret (ty := .boolean) (r := x_406193) B K rfl (nar_z (rx_406193)) ⟨hUI_406194, hF_406197, hG_406198, rx_406193⟩ dX9_readDish_156
  refine g_aload_n C 0 dX9_readDish_0 rfl rfl ?_
  refine g_getR C K hLx hkx f_9_12 hb_406167 dX9_readDish_1 ?_
  obtain ⟨x_406199, hx_406199, rx_406199⟩ := ex_get (I := I) (a := b_406167) (j := 6) (lo := 0) (hi := 6) hU hb_406167L (ro_o hb_406167k (by decide)) rfl
  refine g_getI C K hb_406167L hb_406167k f_9_113 (v := x_406199) hx_406199 dX9_readDish_4 ?_
  refine g_bipush C (v := 6) dX9_readDish_7 (by decide) ?_
  refine g_icmp_lt C (tgt := 18) dX9_readDish_9 (by decide) (fun h_406200 => ?_) (fun h_406200 => ?_)
  · skip
    have r_406201 := lt_l (hi := 5) (h_406200) rx_406199 rc_6 (by decide)
    refine g_aload_n C 1 dX9_readDish_18 rfl rfl ?_
    refine g_callVV C K (c_X10_advance W9 hLa0 hka0   hU) hLa0 hka0 (by decide) rfl v_9_82 rfl ⟨rfl, rfl⟩ ⟨Nat.le_of_ble_eq_true rfl, Nat.le_of_ble_eq_true rfl⟩ (Nat.le_of_ble_eq_true rfl) ⟨Nat.le_of_ble_eq_true rfl, Nat.le_of_ble_eq_true rfl⟩ dX9_readDish_19 rfl (st := []) (fun I_406203 J_406204 h_406205 => ?_)
    obtain ⟨hUI_406203, hFI_406203, hGJ_406204⟩ := h_406205
    have hF_406206 := fq_tr hF hFI_406203 (by decide)
    have hG_406207 := fq_tr hG hGJ_406204 (by decide)
    refine g_aload_n C 1 dX9_readDish_22 rfl rfl ?_
    obtain ⟨y_406208, hy_406208⟩ : ∃ z, J_406204 a0 10 = z := ⟨_, rfl⟩
    refine g_getJ C K hLa0 hka0 f_9_71 (v := y_406208) hy_406208 dX9_readDish_23 ?_
    refine g_lstore_n C dX9_readDish_26 rfl (by decide) (lo2 := [(2, .long y_406208), (0, .ref x), (1, .ref a0)]) rfl ?_
    refine g_aload_n C 1 dX9_readDish_27 rfl rfl ?_
    refine g_aload_n C 2 dX9_readDish_28 rfl rfl ?_
    refine g_callVI C K (c_X9_newName W9 hLx hkx hLa0 hka0  hUI_406203) hLx hkx (by decide) rfl v_9_88 rfl ⟨rfl, rfl⟩ ⟨Nat.le_of_ble_eq_true rfl, Nat.le_of_ble_eq_true rfl⟩ (Nat.le_of_ble_eq_true rfl) ⟨Nat.le_of_ble_eq_true rfl, Nat.le_of_ble_eq_true rfl⟩ dX9_readDish_29 rfl (st := []) (fun x_406209 I_406210 J_406211 h_406212 => ?_)
    obtain ⟨hUI_406210, hFI_406210, hGJ_406211, rx_406209⟩ := h_406212
    have hF_406213 := fq_tr hF_406206 hFI_406210 (by decide)
    have hG_406214 := fq_tr hG_406207 hGJ_406211 (by decide)
    refine g_if_ne C (tgt := 37) dX9_readDish_32 (by decide) (fun h_406215 => ?_) (fun h_406215 => ?_)
    · skip
      have n_406216 : ¬ x_406209 = 0 := h_406215
      have r_406217 := ne_lo (lo := 1) n_406216 rx_406209 rc_0 rfl (by decide)
      refine g_aload_n C 2 dX9_readDish_37 rfl rfl ?_
      refine g_iconst C (v := 0) dX9_readDish_38 (by decide) ?_
      refine g_bipush C (v := 99) dX9_readDish_39 (by decide) ?_
      refine g_callVI C K (c_X10_takeNumber W9 hLa0 hka0 0 99 (rg_w rc_0 (by decide) (by decide)) (rg_w rc_99 (by decide) (by decide)) hUI_406210) hLa0 hka0 (by decide) rfl v_9_91 rfl ⟨rfl, rfl⟩ ⟨Nat.le_of_ble_eq_true rfl, Nat.le_of_ble_eq_true rfl⟩ (Nat.le_of_ble_eq_true rfl) ⟨Nat.le_of_ble_eq_true rfl, Nat.le_of_ble_eq_true rfl⟩ dX9_readDish_41 rfl (st := []) (fun x_406218 I_406219 J_406220 h_406221 => ?_)
      obtain ⟨hUI_406219, hFI_406219, hGJ_406220, rx_406218⟩ := h_406221
      have hF_406222 := fq_tr hF_406213 hFI_406219 (by decide)
      have hG_406223 := fq_tr hG_406214 hGJ_406220 (by decide)
      refine g_istore C dX9_readDish_44 (by decide) (lo2 := [(4, .int x_406218), (2, .long y_406208), (0, .ref x), (1, .ref a0)]) rfl ?_
      refine g_iload C 0 dX9_readDish_46 rfl ?_
      refine g_iconst C (v := (-1)) dX9_readDish_48 (by decide) ?_
      refine g_icmp_ne C (tgt := 54) dX9_readDish_49 (by decide) (fun h_406224 => ?_) (fun h_406224 => ?_)
      · skip
        have n_406225 : ¬ x_406218 = (-1) := h_406224
        refine g_iconst C (v := 0) dX9_readDish_54 (by decide) ?_
        refine g_istore C dX9_readDish_55 (by decide) (lo2 := [(5, .int 0), (4, .int x_406218), (2, .long y_406208), (0, .ref x), (1, .ref a0)]) rfl ?_
        refine g_aload_n C 4 dX9_readDish_57 rfl rfl ?_
        obtain ⟨x_406226, hx_406226, rx_406226⟩ := ex_get (I := I_406219) (a := a0) (j := 8) (lo := (-2147483648)) (hi := 2147483647) hUI_406219 hLa0 (ro_o hka0 (by decide)) rfl
        refine g_getI C K hLa0 hka0 f_9_44 (v := x_406226) hx_406226 dX9_readDish_58 ?_
        refine g_bipush C (v := 6) dX9_readDish_61 (by decide) ?_
        refine g_icmp_ne C (tgt := 87) dX9_readDish_63 (by decide) (fun h_406227 => ?_) (fun h_406227 => ?_)
        · skip
          have n_406228 : ¬ x_406226 = 6 := h_406227
          have q_406229 := (fq_at hFI_406219 hb_406167L hb_406167k (by decide) (by decide) (fq_at hFI_406210 hb_406167L hb_406167k (by decide) (by decide) (fq_at hFI_406203 hb_406167L hb_406167k (by decide) (by decide) hx_406199)))
          refine g_lo (is := [3, 4, 2, 1, 0]) (lo2 := [(0, .ref x), (1, .ref a0), (2, .long y_406208), (4, .int x_406218), (5, .int 0)]) rfl ?_
          exact j_87 I_406219 J_406220 hUI_406219 hF_406222 hG_406223 y_406208 x_406218 (n_406225) 0 (by decide) x_406199 (r_406201) q_406229
        · skip
          have r_406230 := (⟨(eq_rg (h_406227) rc_6).1, (eq_rg (h_406227) rc_6).2⟩ : Rg 6 6 x_406226)
          refine g_aload_n C 4 dX9_readDish_66 rfl rfl ?_
          refine g_callVV C K (c_X10_advance W9 hLa0 hka0   hUI_406219) hLa0 hka0 (by decide) rfl v_9_82 rfl ⟨rfl, rfl⟩ ⟨Nat.le_of_ble_eq_true rfl, Nat.le_of_ble_eq_true rfl⟩ (Nat.le_of_ble_eq_true rfl) ⟨Nat.le_of_ble_eq_true rfl, Nat.le_of_ble_eq_true rfl⟩ dX9_readDish_67 rfl (st := []) (fun I_406232 J_406233 h_406234 => ?_)
          obtain ⟨hUI_406232, hFI_406232, hGJ_406233⟩ := h_406234
          have hF_406235 := fq_tr hF_406222 hFI_406232 (by decide)
          have hG_406236 := fq_tr hG_406223 hGJ_406233 (by decide)
          refine g_aload_n C 4 dX9_readDish_70 rfl rfl ?_
          refine g_iconst C (v := 1) dX9_readDish_71 (by decide) ?_
          refine g_bipush C (v := 9) dX9_readDish_72 (by decide) ?_
          refine g_callVI C K (c_X10_takeNumber W9 hLa0 hka0 1 9 (rg_w rc_1 (by decide) (by decide)) (rg_w rc_9 (by decide) (by decide)) hUI_406232) hLa0 hka0 (by decide) rfl v_9_91 rfl ⟨rfl, rfl⟩ ⟨Nat.le_of_ble_eq_true rfl, Nat.le_of_ble_eq_true rfl⟩ (Nat.le_of_ble_eq_true rfl) ⟨Nat.le_of_ble_eq_true rfl, Nat.le_of_ble_eq_true rfl⟩ dX9_readDish_74 rfl (st := []) (fun x_406237 I_406238 J_406239 h_406240 => ?_)
          obtain ⟨hUI_406238, hFI_406238, hGJ_406239, rx_406237⟩ := h_406240
          have hF_406241 := fq_tr hF_406235 hFI_406238 (by decide)
          have hG_406242 := fq_tr hG_406236 hGJ_406239 (by decide)
          refine g_istore C dX9_readDish_77 (by decide) (lo2 := [(5, .int x_406237), (4, .int x_406218), (2, .long y_406208), (0, .ref x), (1, .ref a0)]) rfl ?_
          refine g_iload C 0 dX9_readDish_79 rfl ?_
          refine g_iconst C (v := (-1)) dX9_readDish_81 (by decide) ?_
          refine g_icmp_ne C (tgt := 87) dX9_readDish_82 (by decide) (fun h_406243 => ?_) (fun h_406243 => ?_)
          · skip
            have n_406244 : ¬ x_406237 = (-1) := h_406243
            have q_406245 := (fq_at hFI_406238 hb_406167L hb_406167k (by decide) (by decide) (fq_at hFI_406232 hb_406167L hb_406167k (by decide) (by decide) (fq_at hFI_406219 hb_406167L hb_406167k (by decide) (by decide) (fq_at hFI_406210 hb_406167L hb_406167k (by decide) (by decide) (fq_at hFI_406203 hb_406167L hb_406167k (by decide) (by decide) hx_406199)))))
            refine g_lo (is := [3, 4, 2, 1, 0]) (lo2 := [(0, .ref x), (1, .ref a0), (2, .long y_406208), (4, .int x_406218), (5, .int x_406237)]) rfl ?_
            exact j_87 I_406238 J_406239 hUI_406238 hF_406241 hG_406242 y_406208 x_406218 (n_406225) x_406237 (n_406244) x_406199 (r_406201) q_406245
          · skip
            have r_406246 := (⟨(eq_rg (h_406243) rc_m1).1, (eq_rg (h_406243) rc_m1).2⟩ : Rg (-1) (-1) x_406237)
            refine g_iconst C (v := 0) dX9_readDish_85 (by decide) ?_
            exact g_zret (ty := .boolean) (r := 0) B K rfl (rfl) ⟨hUI_406238, hF_406241, hG_406242, rg_w rc_0 (by decide) (by decide)⟩ dX9_readDish_86
      · skip
        have r_406247 := (⟨(eq_rg (h_406224) rc_m1).1, (eq_rg (h_406224) rc_m1).2⟩ : Rg (-1) (-1) x_406218)
        refine g_iconst C (v := 0) dX9_readDish_52 (by decide) ?_
        exact g_zret (ty := .boolean) (r := 0) B K rfl (rfl) ⟨hUI_406219, hF_406222, hG_406223, rg_w rc_0 (by decide) (by decide)⟩ dX9_readDish_53
    · skip
      have r_406248 := (⟨(rx_406209).1, (eq_rg (h_406215) rc_0).2⟩ : Rg 0 0 x_406209)
      refine g_iconst C (v := 0) dX9_readDish_35 (by decide) ?_
      exact g_zret (ty := .boolean) (r := 0) B K rfl (rfl) ⟨hUI_406210, hF_406213, hG_406214, rg_w rc_0 (by decide) (by decide)⟩ dX9_readDish_36
  · skip
    have r_406249 := le_r (nlt h_406200) rc_6 rx_406199
    refine g_aload_n C 1 dX9_readDish_12 rfl rfl ?_
    refine g_iconst C (v := 4) dX9_readDish_13 (by decide) ?_
    refine g_callVI C K (c_X10_fail W9 hLa0 hka0 4 (rg_w rc_4 (by decide) (by decide)) hU) hLa0 hka0 (by decide) rfl v_9_67 rfl ⟨rfl, rfl⟩ ⟨Nat.le_of_ble_eq_true rfl, Nat.le_of_ble_eq_true rfl⟩ (Nat.le_of_ble_eq_true rfl) ⟨Nat.le_of_ble_eq_true rfl, Nat.le_of_ble_eq_true rfl⟩ dX9_readDish_14 rfl (st := []) (fun x_406250 I_406251 J_406252 h_406253 => ?_)
    obtain ⟨hUI_406251, hFI_406251, hGJ_406252, rx_406250⟩ := h_406253
    have hF_406254 := fq_tr hF hFI_406251 (by decide)
    have hG_406255 := fq_tr hG hGJ_406252 (by decide)
    exact g_zret (ty := .boolean) (r := x_406250) B K rfl (nar_z (rg_w rx_406250 (by decide) (by decide))) ⟨hUI_406251, hF_406254, hG_406255, rg_w rx_406250 (by decide) (by decide)⟩ dX9_readDish_17
set_option maxRecDepth 100000 in
set_option maxHeartbeats 8000000 in
theorem c_X9_readDogs {l : Launch} {D : va_G} {cy : Nat → ClassId} {L : List Nat} {κ ln : Nat → Nat} {R : Nat → Nat → Option Nat} {I : Nat → Nat → Int32} {J : Nat → Nat → Int64} {ow : Nat → Nat × Nat} (W9 : ∀ a ∈ L, Shp L κ ln R ow a) {x : Nat} (hLx : x ∈ L) (hkx : κ x = 9) {a0 : Nat} (hLa0 : a0 ∈ L) (hka0 : κ a0 = 10) (hU : Uv L κ ow I) : CtI l yX9_readDogs cX9_readDogs 2 (some .boolean) { frames := 2, cells := 0, slots := 0, locals := 44 } D cy L κ ln R I J [.ref x, .ref a0] (fun r I2 J2 => Uv L κ ow I2 ∧ Fq L κ ow [808, 903, 1007, 1008, 1009, 1011, 1012] I I2 ∧ Fq L κ ow [1010] J J2 ∧ Rg 0 1 r) := by
  refine CtI.of (by decide +kernel) (Nat.le_of_ble_eq_true rfl) ?_
  intro p e s m below meth c B K
  have C := B.1
  have hF : Fq L κ ow [808, 903, 1007, 1008, 1009, 1011, 1012] I I := fq_rf
  have hG : Fq L κ ow [1010] J J := fq_rf
  obtain ⟨b_406342, hb_406342, hb_406342L, hb_406342k⟩ := shp_o (W9 x hLx) hkx 0 8 rfl (by decide)
  refine g_lo (is := [0, 1]) (lo2 := [(0, .ref x), (1, .ref a0)]) rfl ?_
  refine g_aload_n C 0 dX9_readDogs_0 rfl rfl ?_
  obtain ⟨x_406343, hx_406343, rx_406343⟩ := ex_get (I := I) (a := x) (j := 3) (lo := 0) (hi := 1) hU hLx (ro_o hkx (by decide)) rfl
  refine g_getI C K hLx hkx f_9_31 (v := x_406343) hx_406343 dX9_readDogs_1 ?_
  refine g_if_eq C (tgt := 13) dX9_readDogs_4 (by decide) (fun h_406344 => ?_) (fun h_406344 => ?_)
  · skip
    have r_406345 := (⟨(rx_406343).1, (eq_rg (h_406344) rc_0).2⟩ : Rg 0 0 x_406343)
    refine g_aload_n C 0 dX9_readDogs_13 rfl rfl ?_
    refine g_iconst C (v := 1) dX9_readDogs_14 (by decide) ?_
    refine h_putZ C K hLx hkx f_9_31 p_9_3 (rg_bool (rg_w rc_1 (by decide) (by decide))) dX9_readDogs_15 (fun I_406346 hI_406346 => ?_)
    have hU_406347 := uv_put hU hI_406346 (ro_o hkx (by decide)) (lo := 0) (hi := 1) rfl (rg_w rc_1 (by decide) (by decide))
    have hF_406348 := fq_puto hF hI_406346 hkx (by decide) (by decide)
    refine g_aload_n C 1 dX9_readDogs_18 rfl rfl ?_
    refine g_callVV C K (c_X10_advance W9 hLa0 hka0   hU_406347) hLa0 hka0 (by decide) rfl v_9_82 rfl ⟨rfl, rfl⟩ ⟨Nat.le_of_ble_eq_true rfl, Nat.le_of_ble_eq_true rfl⟩ (Nat.le_of_ble_eq_true rfl) ⟨Nat.le_of_ble_eq_true rfl, Nat.le_of_ble_eq_true rfl⟩ dX9_readDogs_19 rfl (st := []) (fun I_406350 J_406351 h_406352 => ?_)
    obtain ⟨hUI_406350, hFI_406350, hGJ_406351⟩ := h_406352
    have hF_406353 := fq_tr hF_406348 hFI_406350 (by decide)
    have hG_406354 := fq_tr hG hGJ_406351 (by decide)
    refine g_aload_n C 0 dX9_readDogs_22 rfl rfl ?_
    refine g_getR C K hLx hkx f_9_12 hb_406342 dX9_readDogs_23 ?_
    refine g_aload_n C 1 dX9_readDogs_26 rfl rfl ?_
    refine g_iconst C (v := 0) dX9_readDogs_27 (by decide) ?_
    refine g_bipush C (v := 9) dX9_readDogs_28 (by decide) ?_
    refine g_callVI C K (c_X10_takeNumber W9 hLa0 hka0 0 9 (rg_w rc_0 (by decide) (by decide)) (rg_w rc_9 (by decide) (by decide)) hUI_406350) hLa0 hka0 (by decide) rfl v_9_91 rfl ⟨rfl, rfl⟩ ⟨Nat.le_of_ble_eq_true rfl, Nat.le_of_ble_eq_true rfl⟩ (Nat.le_of_ble_eq_true rfl) ⟨Nat.le_of_ble_eq_true rfl, Nat.le_of_ble_eq_true rfl⟩ dX9_readDogs_30 rfl (st := [.ref b_406342]) (fun x_406355 I_406356 J_406357 h_406358 => ?_)
    obtain ⟨hUI_406356, hFI_406356, hGJ_406357, rx_406355⟩ := h_406358
    have hF_406359 := fq_tr hF_406353 hFI_406356 (by decide)
    have hG_406360 := fq_tr hG_406354 hGJ_406357 (by decide)
    refine h_putI C K hb_406342L hb_406342k f_9_135 p_8_8 dX9_readDogs_33 (fun I_406361 hI_406361 => ?_)
    have hU_406362 := uv_put hUI_406356 hI_406361 (ro_o hb_406342k (by decide)) (lo := (-2147483648)) (hi := 2147483647) rfl (rx_406355)
    have hF_406363 := fq_puto hF_406359 hI_406361 hb_406342k (by decide) (by decide)
    refine g_aload_n C 0 dX9_readDogs_36 rfl rfl ?_
    refine g_getR C K hLx hkx f_9_12 hb_406342 dX9_readDogs_37 ?_
    refine g_getI C K hb_406342L hb_406342k f_9_135 (v := x_406355) (kp_s hI_406361) dX9_readDogs_40 ?_
    refine g_iconst C (v := (-1)) dX9_readDogs_43 (by decide) ?_
    refine g_icmp_eq C (tgt := 60) dX9_readDogs_44 (by decide) (fun h_406364 => ?_) (fun h_406364 => ?_)
    · skip
      have r_406365 := (⟨(eq_rg (h_406364) rc_m1).1, (eq_rg (h_406364) rc_m1).2⟩ : Rg (-1) (-1) x_406355)
      refine g_iconst C (v := 0) dX9_readDogs_60 (by decide) ?_
      exact g_zret (ty := .boolean) (r := 0) B K rfl (rfl) ⟨hU_406362, hF_406363, hG_406360, rg_w rc_0 (by decide) (by decide)⟩ dX9_readDogs_61
    · skip
      have n_406366 : ¬ x_406355 = (-1) := h_406364
      refine g_aload_n C 1 dX9_readDogs_47 rfl rfl ?_
      refine g_bipush C (v := 59) dX9_readDogs_48 (by decide) ?_
      refine g_callVI C K (c_X10_take W9 hLa0 hka0 59 (rg_w rc_59 (by decide) (by decide)) hU_406362) hLa0 hka0 (by decide) rfl v_9_110 rfl ⟨rfl, rfl⟩ ⟨Nat.le_of_ble_eq_true rfl, Nat.le_of_ble_eq_true rfl⟩ (Nat.le_of_ble_eq_true rfl) ⟨Nat.le_of_ble_eq_true rfl, Nat.le_of_ble_eq_true rfl⟩ dX9_readDogs_50 rfl (st := []) (fun x_406367 I_406368 J_406369 h_406370 => ?_)
      obtain ⟨hUI_406368, hFI_406368, hGJ_406369, rx_406367⟩ := h_406370
      have hF_406371 := fq_tr hF_406363 hFI_406368 (by decide)
      have hG_406372 := fq_tr hG_406360 hGJ_406369 (by decide)
      refine g_if_eq C (tgt := 60) dX9_readDogs_53 (by decide) (fun h_406373 => ?_) (fun h_406373 => ?_)
      · skip
        have r_406374 := (⟨(rx_406367).1, (eq_rg (h_406373) rc_0).2⟩ : Rg 0 0 x_406367)
        refine g_iconst C (v := 0) dX9_readDogs_60 (by decide) ?_
        exact g_zret (ty := .boolean) (r := 0) B K rfl (rfl) ⟨hUI_406368, hF_406371, hG_406372, rg_w rc_0 (by decide) (by decide)⟩ dX9_readDogs_61
      · skip
        have n_406375 : ¬ x_406367 = 0 := h_406373
        have r_406376 := ne_lo (lo := 1) n_406375 rx_406367 rc_0 rfl (by decide)
        refine g_iconst C (v := 1) dX9_readDogs_56 (by decide) ?_
        refine g_goto C (tgt := 61) dX9_readDogs_57 (by decide) ?_
        exact g_zret (ty := .boolean) (r := 1) B K rfl (rfl) ⟨hUI_406368, hF_406371, hG_406372, rg_w rc_1 (by decide) (by decide)⟩ dX9_readDogs_61
  · skip
    have n_406377 : ¬ x_406343 = 0 := h_406344
    have r_406378 := ne_lo (lo := 1) n_406377 rx_406343 rc_0 rfl (by decide)
    refine g_aload_n C 1 dX9_readDogs_7 rfl rfl ?_
    refine g_iconst C (v := 3) dX9_readDogs_8 (by decide) ?_
    refine g_callVI C K (c_X10_fail W9 hLa0 hka0 3 (rg_w rc_3 (by decide) (by decide)) hU) hLa0 hka0 (by decide) rfl v_9_67 rfl ⟨rfl, rfl⟩ ⟨Nat.le_of_ble_eq_true rfl, Nat.le_of_ble_eq_true rfl⟩ (Nat.le_of_ble_eq_true rfl) ⟨Nat.le_of_ble_eq_true rfl, Nat.le_of_ble_eq_true rfl⟩ dX9_readDogs_9 rfl (st := []) (fun x_406379 I_406380 J_406381 h_406382 => ?_)
    obtain ⟨hUI_406380, hFI_406380, hGJ_406381, rx_406379⟩ := h_406382
    have hF_406383 := fq_tr hF hFI_406380 (by decide)
    have hG_406384 := fq_tr hG hGJ_406381 (by decide)
    exact g_zret (ty := .boolean) (r := x_406379) B K rfl (nar_z (rg_w rx_406379 (by decide) (by decide))) ⟨hUI_406380, hF_406383, hG_406384, rg_w rx_406379 (by decide) (by decide)⟩ dX9_readDogs_12
set_option maxRecDepth 100000 in
set_option maxHeartbeats 8000000 in
theorem c_X9_readLaw {l : Launch} {D : va_G} {cy : Nat → ClassId} {L : List Nat} {κ ln : Nat → Nat} {R : Nat → Nat → Option Nat} {I : Nat → Nat → Int32} {J : Nat → Nat → Int64} {ow : Nat → Nat × Nat} (W9 : ∀ a ∈ L, Shp L κ ln R ow a) {x : Nat} (hLx : x ∈ L) (hkx : κ x = 9) {a0 : Nat} (hLa0 : a0 ∈ L) (hka0 : κ a0 = 10) (hU : Uv L κ ow I) : CtI l yX9_readLaw cX9_readLaw 2 (some .boolean) { frames := 2, cells := 0, slots := 0, locals := 42 } D cy L κ ln R I J [.ref x, .ref a0] (fun r I2 J2 => Uv L κ ow I2 ∧ Fq L κ ow [807, 902, 1007, 1008, 1009, 1011, 1012] I I2 ∧ Fq L κ ow [1010] J J2 ∧ Rg 0 1 r) := by
  refine CtI.of (by decide +kernel) (Nat.le_of_ble_eq_true rfl) ?_
  intro p e s m below meth c B K
  have C := B.1
  have hF : Fq L κ ow [807, 902, 1007, 1008, 1009, 1011, 1012] I I := fq_rf
  have hG : Fq L κ ow [1010] J J := fq_rf
  obtain ⟨b_406505, hb_406505, hb_406505L, hb_406505k⟩ := shp_o (W9 x hLx) hkx 0 8 rfl (by decide)
  refine g_lo (is := [0, 1]) (lo2 := [(0, .ref x), (1, .ref a0)]) rfl ?_
  have j_88 : ∀ (I_406506 : Nat → Nat → Int32) (J_406507 : Nat → Nat → Int64) (hU_406508 : Uv L κ ow I_406506) (hF_406509 : Fq L κ ow [807, 902, 1007, 1008, 1009, 1011, 1012] I I_406506) (hG_406510 : Fq L κ ow [1010] J J_406507) (v_406511 : Int32) (rv_406511 : Rg 7 9 v_406511) (v_406512 : Int32) (rv_406512 : Rg 0 2 v_406512) (q_406513 : I_406506 a0 8 = v_406511) (q_406514 : I_406506 x 2 = 1) (q_406515 : I_406506 b_406505 7 = v_406512), WG p l e { frames := 2, cells := 0, slots := 0, locals := 42 } s m ([.ref x, .ref a0] : List Value).toArray below meth c 2 0 0 (MQ below (Qi_ D cy L κ ln R (fun r I2 J2 => Uv L κ ow I2 ∧ Fq L κ ow [807, 902, 1007, 1008, 1009, 1011, 1012] I I2 ∧ Fq L κ ow [1010] J J2 ∧ Rg 0 1 r)) ([.ref x, .ref a0] : List Value).toArray s 0 0 (Al_ L)) D cy (Al_ L) s.heap L κ ln R I_406506 J_406507 88 [(0, .ref x), (1, .ref a0)] [] := by
    intro I_406506 J_406507 hU_406508 hF_406509 hG_406510 v_406511 rv_406511 v_406512 rv_406512 q_406513 q_406514 q_406515
    refine g_aload_n C 1 dX9_readLaw_88 rfl rfl ?_
    refine g_callVV C K (c_X10_advance W9 hLa0 hka0   hU_406508) hLa0 hka0 (by decide) rfl v_9_82 rfl ⟨rfl, rfl⟩ ⟨Nat.le_of_ble_eq_true rfl, Nat.le_of_ble_eq_true rfl⟩ (Nat.le_of_ble_eq_true rfl) ⟨Nat.le_of_ble_eq_true rfl, Nat.le_of_ble_eq_true rfl⟩ dX9_readLaw_89 rfl (st := []) (fun I_406517 J_406518 h_406519 => ?_)
    obtain ⟨hUI_406517, hFI_406517, hGJ_406518⟩ := h_406519
    have hF_406520 := fq_tr hF_406509 hFI_406517 (by decide)
    have hG_406521 := fq_tr hG_406510 hGJ_406518 (by decide)
    refine g_aload_n C 1 dX9_readLaw_92 rfl rfl ?_
    refine g_bipush C (v := 59) dX9_readLaw_93 (by decide) ?_
    refine g_callVI C K (c_X10_take W9 hLa0 hka0 59 (rg_w rc_59 (by decide) (by decide)) hUI_406517) hLa0 hka0 (by decide) rfl v_9_110 rfl ⟨rfl, rfl⟩ ⟨Nat.le_of_ble_eq_true rfl, Nat.le_of_ble_eq_true rfl⟩ (Nat.le_of_ble_eq_true rfl) ⟨Nat.le_of_ble_eq_true rfl, Nat.le_of_ble_eq_true rfl⟩ dX9_readLaw_95 rfl (st := []) (fun x_406522 I_406523 J_406524 h_406525 => ?_)
    obtain ⟨hUI_406523, hFI_406523, hGJ_406524, rx_406522⟩ := h_406525
    have hF_406526 := fq_tr hF_406520 hFI_406523 (by decide)
    have hG_406527 := fq_tr hG_406521 hGJ_406524 (by decide)
    exact g_zret (ty := .boolean) (r := x_406522) B K rfl (nar_z (rx_406522)) ⟨hUI_406523, hF_406526, hG_406527, rx_406522⟩ dX9_readLaw_98
  refine g_aload_n C 0 dX9_readLaw_0 rfl rfl ?_
  obtain ⟨x_406528, hx_406528, rx_406528⟩ := ex_get (I := I) (a := x) (j := 2) (lo := 0) (hi := 1) hU hLx (ro_o hkx (by decide)) rfl
  refine g_getI C K hLx hkx f_9_27 (v := x_406528) hx_406528 dX9_readLaw_1 ?_
  refine g_if_eq C (tgt := 13) dX9_readLaw_4 (by decide) (fun h_406529 => ?_) (fun h_406529 => ?_)
  · skip
    have r_406530 := (⟨(rx_406528).1, (eq_rg (h_406529) rc_0).2⟩ : Rg 0 0 x_406528)
    refine g_aload_n C 0 dX9_readLaw_13 rfl rfl ?_
    refine g_iconst C (v := 1) dX9_readLaw_14 (by decide) ?_
    refine h_putZ C K hLx hkx f_9_27 p_9_2 (rg_bool (rg_w rc_1 (by decide) (by decide))) dX9_readLaw_15 (fun I_406531 hI_406531 => ?_)
    have hU_406532 := uv_put hU hI_406531 (ro_o hkx (by decide)) (lo := 0) (hi := 1) rfl (rg_w rc_1 (by decide) (by decide))
    have hF_406533 := fq_puto hF hI_406531 hkx (by decide) (by decide)
    refine g_aload_n C 1 dX9_readLaw_18 rfl rfl ?_
    refine g_callVV C K (c_X10_advance W9 hLa0 hka0   hU_406532) hLa0 hka0 (by decide) rfl v_9_82 rfl ⟨rfl, rfl⟩ ⟨Nat.le_of_ble_eq_true rfl, Nat.le_of_ble_eq_true rfl⟩ (Nat.le_of_ble_eq_true rfl) ⟨Nat.le_of_ble_eq_true rfl, Nat.le_of_ble_eq_true rfl⟩ dX9_readLaw_19 rfl (st := []) (fun I_406535 J_406536 h_406537 => ?_)
    obtain ⟨hUI_406535, hFI_406535, hGJ_406536⟩ := h_406537
    have hF_406538 := fq_tr hF_406533 hFI_406535 (by decide)
    have hG_406539 := fq_tr hG hGJ_406536 (by decide)
    refine g_aload_n C 1 dX9_readLaw_22 rfl rfl ?_
    obtain ⟨x_406540, hx_406540, rx_406540⟩ := ex_get (I := I_406535) (a := a0) (j := 8) (lo := (-2147483648)) (hi := 2147483647) hUI_406535 hLa0 (ro_o hka0 (by decide)) rfl
    refine g_getI C K hLa0 hka0 f_9_44 (v := x_406540) hx_406540 dX9_readLaw_23 ?_
    refine g_bipush C (v := 7) dX9_readLaw_26 (by decide) ?_
    refine g_icmp_ne C (tgt := 42) dX9_readLaw_28 (by decide) (fun h_406541 => ?_) (fun h_406541 => ?_)
    · skip
      have n_406542 : ¬ x_406540 = 7 := h_406541
      refine g_aload_n C 1 dX9_readLaw_42 rfl rfl ?_
      refine g_getI C K hLa0 hka0 f_9_44 (v := x_406540) hx_406540 dX9_readLaw_43 ?_
      refine g_bipush C (v := 8) dX9_readLaw_46 (by decide) ?_
      refine g_icmp_ne C (tgt := 62) dX9_readLaw_48 (by decide) (fun h_406543 => ?_) (fun h_406543 => ?_)
      · skip
        have n_406544 : ¬ x_406540 = 8 := h_406543
        refine g_aload_n C 1 dX9_readLaw_62 rfl rfl ?_
        refine g_getI C K hLa0 hka0 f_9_44 (v := x_406540) hx_406540 dX9_readLaw_63 ?_
        refine g_bipush C (v := 9) dX9_readLaw_66 (by decide) ?_
        refine g_icmp_ne C (tgt := 82) dX9_readLaw_68 (by decide) (fun h_406545 => ?_) (fun h_406545 => ?_)
        · skip
          have n_406546 : ¬ x_406540 = 9 := h_406545
          refine g_aload_n C 1 dX9_readLaw_82 rfl rfl ?_
          refine g_iconst C (v := 1) dX9_readLaw_83 (by decide) ?_
          refine g_callVI C K (c_X10_fail W9 hLa0 hka0 1 (rg_w rc_1 (by decide) (by decide)) hUI_406535) hLa0 hka0 (by decide) rfl v_9_67 rfl ⟨rfl, rfl⟩ ⟨Nat.le_of_ble_eq_true rfl, Nat.le_of_ble_eq_true rfl⟩ (Nat.le_of_ble_eq_true rfl) ⟨Nat.le_of_ble_eq_true rfl, Nat.le_of_ble_eq_true rfl⟩ dX9_readLaw_84 rfl (st := []) (fun x_406547 I_406548 J_406549 h_406550 => ?_)
          obtain ⟨hUI_406548, hFI_406548, hGJ_406549, rx_406547⟩ := h_406550
          have hF_406551 := fq_tr hF_406538 hFI_406548 (by decide)
          have hG_406552 := fq_tr hG_406539 hGJ_406549 (by decide)
          exact g_zret (ty := .boolean) (r := x_406547) B K rfl (nar_z (rg_w rx_406547 (by decide) (by decide))) ⟨hUI_406548, hF_406551, hG_406552, rg_w rx_406547 (by decide) (by decide)⟩ dX9_readLaw_87
        · skip
          have r_406553 := (⟨(eq_rg (h_406545) rc_9).1, (eq_rg (h_406545) rc_9).2⟩ : Rg 9 9 x_406540)
          refine g_aload_n C 0 dX9_readLaw_71 rfl rfl ?_
          refine g_getR C K hLx hkx f_9_12 hb_406505 dX9_readLaw_72 ?_
          refine g_iconst C (v := 2) dX9_readLaw_75 (by decide) ?_
          refine h_putI C K hb_406505L hb_406505k f_9_132 p_8_7 dX9_readLaw_76 (fun I_406554 hI_406554 => ?_)
          have hU_406555 := uv_put hUI_406535 hI_406554 (ro_o hb_406505k (by decide)) (lo := (-2147483648)) (hi := 2147483647) rfl (rg_all _)
          have hF_406556 := fq_puto hF_406538 hI_406554 hb_406505k (by decide) (by decide)
          refine g_goto C (tgt := 88) dX9_readLaw_79 (by decide) ?_
          refine g_lo (is := [0, 1]) (lo2 := [(0, .ref x), (1, .ref a0)]) rfl ?_
          exact j_88 I_406554 J_406536 hU_406555 hF_406556 hG_406539 x_406540 (rg_w r_406553 (by decide) (by decide)) 2 (rg_w rc_2 (by decide) (by decide)) (kp_k hI_406554 (by rw [hka0, hb_406505k]; decide) hx_406540) (kp_k hI_406554 (by rw [hkx, hb_406505k]; decide) (fq_at hFI_406535 hLx hkx (by decide) (by decide) (kp_s hI_406531))) (kp_s hI_406554)
      · skip
        have r_406557 := (⟨(eq_rg (h_406543) rc_8).1, (eq_rg (h_406543) rc_8).2⟩ : Rg 8 8 x_406540)
        refine g_aload_n C 0 dX9_readLaw_51 rfl rfl ?_
        refine g_getR C K hLx hkx f_9_12 hb_406505 dX9_readLaw_52 ?_
        refine g_iconst C (v := 1) dX9_readLaw_55 (by decide) ?_
        refine h_putI C K hb_406505L hb_406505k f_9_132 p_8_7 dX9_readLaw_56 (fun I_406558 hI_406558 => ?_)
        have hU_406559 := uv_put hUI_406535 hI_406558 (ro_o hb_406505k (by decide)) (lo := (-2147483648)) (hi := 2147483647) rfl (rg_all _)
        have hF_406560 := fq_puto hF_406538 hI_406558 hb_406505k (by decide) (by decide)
        refine g_goto C (tgt := 88) dX9_readLaw_59 (by decide) ?_
        refine g_lo (is := [0, 1]) (lo2 := [(0, .ref x), (1, .ref a0)]) rfl ?_
        exact j_88 I_406558 J_406536 hU_406559 hF_406560 hG_406539 x_406540 (rg_w r_406557 (by decide) (by decide)) 1 (rg_w rc_1 (by decide) (by decide)) (kp_k hI_406558 (by rw [hka0, hb_406505k]; decide) hx_406540) (kp_k hI_406558 (by rw [hkx, hb_406505k]; decide) (fq_at hFI_406535 hLx hkx (by decide) (by decide) (kp_s hI_406531))) (kp_s hI_406558)
    · skip
      have r_406561 := (⟨(eq_rg (h_406541) rc_7).1, (eq_rg (h_406541) rc_7).2⟩ : Rg 7 7 x_406540)
      refine g_aload_n C 0 dX9_readLaw_31 rfl rfl ?_
      refine g_getR C K hLx hkx f_9_12 hb_406505 dX9_readLaw_32 ?_
      refine g_iconst C (v := 0) dX9_readLaw_35 (by decide) ?_
      refine h_putI C K hb_406505L hb_406505k f_9_132 p_8_7 dX9_readLaw_36 (fun I_406562 hI_406562 => ?_)
      have hU_406563 := uv_put hUI_406535 hI_406562 (ro_o hb_406505k (by decide)) (lo := (-2147483648)) (hi := 2147483647) rfl (rg_all _)
      have hF_406564 := fq_puto hF_406538 hI_406562 hb_406505k (by decide) (by decide)
      refine g_goto C (tgt := 88) dX9_readLaw_39 (by decide) ?_
      refine g_lo (is := [0, 1]) (lo2 := [(0, .ref x), (1, .ref a0)]) rfl ?_
      exact j_88 I_406562 J_406536 hU_406563 hF_406564 hG_406539 x_406540 (rg_w r_406561 (by decide) (by decide)) 0 (rg_w rc_0 (by decide) (by decide)) (kp_k hI_406562 (by rw [hka0, hb_406505k]; decide) hx_406540) (kp_k hI_406562 (by rw [hkx, hb_406505k]; decide) (fq_at hFI_406535 hLx hkx (by decide) (by decide) (kp_s hI_406531))) (kp_s hI_406562)
  · skip
    have n_406565 : ¬ x_406528 = 0 := h_406529
    have r_406566 := ne_lo (lo := 1) n_406565 rx_406528 rc_0 rfl (by decide)
    refine g_aload_n C 1 dX9_readLaw_7 rfl rfl ?_
    refine g_iconst C (v := 3) dX9_readLaw_8 (by decide) ?_
    refine g_callVI C K (c_X10_fail W9 hLa0 hka0 3 (rg_w rc_3 (by decide) (by decide)) hU) hLa0 hka0 (by decide) rfl v_9_67 rfl ⟨rfl, rfl⟩ ⟨Nat.le_of_ble_eq_true rfl, Nat.le_of_ble_eq_true rfl⟩ (Nat.le_of_ble_eq_true rfl) ⟨Nat.le_of_ble_eq_true rfl, Nat.le_of_ble_eq_true rfl⟩ dX9_readLaw_9 rfl (st := []) (fun x_406567 I_406568 J_406569 h_406570 => ?_)
    obtain ⟨hUI_406568, hFI_406568, hGJ_406569, rx_406567⟩ := h_406570
    have hF_406571 := fq_tr hF hFI_406568 (by decide)
    have hG_406572 := fq_tr hG hGJ_406569 (by decide)
    exact g_zret (ty := .boolean) (r := x_406567) B K rfl (nar_z (rg_w rx_406567 (by decide) (by decide))) ⟨hUI_406568, hF_406571, hG_406572, rg_w rx_406567 (by decide) (by decide)⟩ dX9_readLaw_12
set_option maxRecDepth 100000 in
set_option maxHeartbeats 8000000 in
theorem c_X10_takeName {l : Launch} {D : va_G} {cy : Nat → ClassId} {L : List Nat} {κ ln : Nat → Nat} {R : Nat → Nat → Option Nat} {I : Nat → Nat → Int32} {J : Nat → Nat → Int64} {ow : Nat → Nat × Nat} (W9 : ∀ a ∈ L, Shp L κ ln R ow a) {x : Nat} (hLx : x ∈ L) (hkx : κ x = 10) (a0 : Int32) (ra0 : Rg (-1) 6 a0) (hU : Uv L κ ow I) : CtI l yX10_takeName cX10_takeName 2 (some .int) { frames := 1, cells := 0, slots := 0, locals := 21 } D cy L κ ln R I J [.ref x, .int a0] (fun r I2 J2 => Uv L κ ow I2 ∧ Fq L κ ow [1007, 1008, 1009, 1011, 1012] I I2 ∧ Fq L κ ow [1010] J J2 ∧ Rg (-1) 6 r) := by
  refine CtI.of (by decide +kernel) (Nat.le_of_ble_eq_true rfl) ?_
  intro p e s m below meth c B K
  have C := B.1
  have hF : Fq L κ ow [1007, 1008, 1009, 1011, 1012] I I := fq_rf
  have hG : Fq L κ ow [1010] J J := fq_rf
  refine g_lo (is := [0, 1]) (lo2 := [(0, .ref x), (1, .int a0)]) rfl ?_
  refine g_aload_n C 0 dX10_takeName_0 rfl rfl ?_
  obtain ⟨x_406625, hx_406625, rx_406625⟩ := ex_get (I := I) (a := x) (j := 8) (lo := (-2147483648)) (hi := 2147483647) hU hLx (ro_o hkx (by decide)) rfl
  refine g_getI C K hLx hkx f_10_39 (v := x_406625) hx_406625 dX10_takeName_1 ?_
  refine g_bipush C (v := 100) dX10_takeName_4 (by decide) ?_
  refine g_icmp_eq C (tgt := 17) dX10_takeName_6 (by decide) (fun h_406626 => ?_) (fun h_406626 => ?_)
  · skip
    have r_406627 := (⟨(eq_rg (h_406626) rc_100).1, (eq_rg (h_406626) rc_100).2⟩ : Rg 100 100 x_406625)
    refine g_iload_n C 1 dX10_takeName_17 rfl rfl ?_
    refine g_iconst C (v := (-1)) dX10_takeName_18 (by decide) ?_
    refine g_icmp_ne C (tgt := 30) dX10_takeName_19 (by decide) (fun h_406628 => ?_) (fun h_406628 => ?_)
    · skip
      have n_406629 : ¬ a0 = (-1) := h_406628
      have r_406630 := ne_lo (lo := 0) n_406629 ra0 rc_m1 rfl (by decide)
      refine g_aload_n C 0 dX10_takeName_30 rfl rfl ?_
      refine g_callVV C K (c_X10_advance W9 hLx hkx   hU) hLx hkx (by decide) rfl v_10_84 rfl ⟨rfl, rfl⟩ ⟨Nat.le_of_ble_eq_true rfl, Nat.le_of_ble_eq_true rfl⟩ (Nat.le_of_ble_eq_true rfl) ⟨Nat.le_of_ble_eq_true rfl, Nat.le_of_ble_eq_true rfl⟩ dX10_takeName_31 rfl (st := []) (fun I_406632 J_406633 h_406634 => ?_)
      obtain ⟨hUI_406632, hFI_406632, hGJ_406633⟩ := h_406634
      have hF_406635 := fq_tr hF hFI_406632 (by decide)
      have hG_406636 := fq_tr hG hGJ_406633 (by decide)
      refine g_iload_n C 1 dX10_takeName_34 rfl rfl ?_
      exact g_zret (ty := .int) (r := a0) B K rfl (rfl) ⟨hUI_406632, hF_406635, hG_406636, rg_w r_406630 (by decide) (by decide)⟩ dX10_takeName_35
    · skip
      have r_406637 := (⟨(ra0).1, (eq_rg (h_406628) rc_m1).2⟩ : Rg (-1) (-1) a0)
      refine g_aload_n C 0 dX10_takeName_22 rfl rfl ?_
      refine g_iconst C (v := 3) dX10_takeName_23 (by decide) ?_
      refine g_callVI C K (c_X10_fail W9 hLx hkx 3 (rg_w rc_3 (by decide) (by decide)) hU) hLx hkx (by decide) rfl v_10_101 rfl ⟨rfl, rfl⟩ ⟨Nat.le_of_ble_eq_true rfl, Nat.le_of_ble_eq_true rfl⟩ (Nat.le_of_ble_eq_true rfl) ⟨Nat.le_of_ble_eq_true rfl, Nat.le_of_ble_eq_true rfl⟩ dX10_takeName_24 rfl (st := []) (fun x_406638 I_406639 J_406640 h_406641 => ?_)
      obtain ⟨hUI_406639, hFI_406639, hGJ_406640, rx_406638⟩ := h_406641
      have hF_406642 := fq_tr hF hFI_406639 (by decide)
      have hG_406643 := fq_tr hG hGJ_406640 (by decide)
      refine g_pop C dX10_takeName_27 rfl ?_
      refine g_iconst C (v := (-1)) dX10_takeName_28 (by decide) ?_
      exact g_zret (ty := .int) (r := (-1)) B K rfl (rfl) ⟨hUI_406639, hF_406642, hG_406643, rg_w rc_m1 (by decide) (by decide)⟩ dX10_takeName_29
  · skip
    have n_406644 : ¬ x_406625 = 100 := h_406626
    refine g_aload_n C 0 dX10_takeName_9 rfl rfl ?_
    refine g_iconst C (v := 1) dX10_takeName_10 (by decide) ?_
    refine g_callVI C K (c_X10_fail W9 hLx hkx 1 (rg_w rc_1 (by decide) (by decide)) hU) hLx hkx (by decide) rfl v_10_101 rfl ⟨rfl, rfl⟩ ⟨Nat.le_of_ble_eq_true rfl, Nat.le_of_ble_eq_true rfl⟩ (Nat.le_of_ble_eq_true rfl) ⟨Nat.le_of_ble_eq_true rfl, Nat.le_of_ble_eq_true rfl⟩ dX10_takeName_11 rfl (st := []) (fun x_406645 I_406646 J_406647 h_406648 => ?_)
    obtain ⟨hUI_406646, hFI_406646, hGJ_406647, rx_406645⟩ := h_406648
    have hF_406649 := fq_tr hF hFI_406646 (by decide)
    have hG_406650 := fq_tr hG hGJ_406647 (by decide)
    refine g_pop C dX10_takeName_14 rfl ?_
    refine g_iconst C (v := (-1)) dX10_takeName_15 (by decide) ?_
    exact g_zret (ty := .int) (r := (-1)) B K rfl (rfl) ⟨hUI_406646, hF_406649, hG_406650, rg_w rc_m1 (by decide) (by decide)⟩ dX10_takeName_16
