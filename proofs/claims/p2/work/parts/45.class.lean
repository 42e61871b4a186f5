theorem dX10_begin_0 : decode cX10_begin 0 = .ok (.aload_n 0, 1) := by decide +kernel
theorem dX10_begin_1 : decode cX10_begin 1 = .ok (.getfield 29, 3) := by decide +kernel
theorem dX10_begin_4 : decode cX10_begin 4 = .ok (.iload_n 1, 1) := by decide +kernel
theorem dX10_begin_5 : decode cX10_begin 5 = .ok (.invokestatic 70, 3) := by decide +kernel
theorem dX10_begin_8 : decode cX10_begin 8 = .ok (.aload_n 0, 1) := by decide +kernel
theorem dX10_begin_9 : decode cX10_begin 9 = .ok (.getfield 9, 3) := by decide +kernel
theorem dX10_begin_12 : decode cX10_begin 12 = .ok (.arraylength, 1) := by decide +kernel
theorem dX10_begin_13 : decode cX10_begin 13 = .ok (.invokestatic 70, 3) := by decide +kernel
theorem dX10_begin_16 : decode cX10_begin 16 = .ok (.istore_n 2, 1) := by decide +kernel
theorem dX10_begin_17 : decode cX10_begin 17 = .ok (.iconst 0, 1) := by decide +kernel
theorem dX10_begin_18 : decode cX10_begin 18 = .ok (.istore_n 3, 1) := by decide +kernel
theorem dX10_begin_19 : decode cX10_begin 19 = .ok (.aload_n 0, 1) := by decide +kernel
theorem dX10_begin_20 : decode cX10_begin 20 = .ok (.iconst 0, 1) := by decide +kernel
theorem dX10_begin_21 : decode cX10_begin 21 = .ok (.putfield 33, 3) := by decide +kernel
theorem dX10_begin_24 : decode cX10_begin 24 = .ok (.iconst 0, 1) := by decide +kernel
theorem dX10_begin_25 : decode cX10_begin 25 = .ok (.istore 4, 2) := by decide +kernel
theorem dX10_begin_27 : decode cX10_begin 27 = .ok (.iload 4, 2) := by decide +kernel
theorem dX10_begin_29 : decode cX10_begin 29 = .ok (.iload_n 2, 1) := by decide +kernel
theorem dX10_begin_30 : decode cX10_begin 30 = .ok (.if_icmp .ge 46, 3) := by decide +kernel
theorem dX10_begin_33 : decode cX10_begin 33 = .ok (.iload 4, 2) := by decide +kernel
theorem dX10_begin_35 : decode cX10_begin 35 = .ok (.iload_n 3, 1) := by decide +kernel
theorem dX10_begin_36 : decode cX10_begin 36 = .ok (.if_icmp .lt 34, 3) := by decide +kernel
theorem dX10_begin_39 : decode cX10_begin 39 = .ok (.aload_n 0, 1) := by decide +kernel
theorem dX10_begin_40 : decode cX10_begin 40 = .ok (.getfield 9, 3) := by decide +kernel
theorem dX10_begin_43 : decode cX10_begin 43 = .ok (.iload 4, 2) := by decide +kernel
theorem dX10_begin_45 : decode cX10_begin 45 = .ok (.baload, 1) := by decide +kernel
theorem dX10_begin_46 : decode cX10_begin 46 = .ok (.bipush 32, 2) := by decide +kernel
theorem dX10_begin_48 : decode cX10_begin 48 = .ok (.if_icmp .eq 22, 3) := by decide +kernel
theorem dX10_begin_51 : decode cX10_begin 51 = .ok (.aload_n 0, 1) := by decide +kernel
theorem dX10_begin_52 : decode cX10_begin 52 = .ok (.getfield 9, 3) := by decide +kernel
theorem dX10_begin_55 : decode cX10_begin 55 = .ok (.iload 4, 2) := by decide +kernel
theorem dX10_begin_57 : decode cX10_begin 57 = .ok (.baload, 1) := by decide +kernel
theorem dX10_begin_58 : decode cX10_begin 58 = .ok (.bipush 10, 2) := by decide +kernel
theorem dX10_begin_60 : decode cX10_begin 60 = .ok (.if_icmp .eq 10, 3) := by decide +kernel
theorem dX10_begin_63 : decode cX10_begin 63 = .ok (.aload_n 0, 1) := by decide +kernel
theorem dX10_begin_64 : decode cX10_begin 64 = .ok (.iload 4, 2) := by decide +kernel
theorem dX10_begin_66 : decode cX10_begin 66 = .ok (.invokevirtual 76, 3) := by decide +kernel
theorem dX10_begin_69 : decode cX10_begin 69 = .ok (.istore_n 3, 1) := by decide +kernel
theorem dX10_begin_70 : decode cX10_begin 70 = .ok (.iinc 4 1, 3) := by decide +kernel
theorem dX10_begin_73 : decode cX10_begin 73 = .ok (.goto (-46), 3) := by decide +kernel
theorem dX10_begin_76 : decode cX10_begin 76 = .ok (.aload_n 0, 1) := by decide +kernel
theorem dX10_begin_77 : decode cX10_begin 77 = .ok (.aload_n 0, 1) := by decide +kernel
theorem dX10_begin_78 : decode cX10_begin 78 = .ok (.getfield 29, 3) := by decide +kernel
theorem dX10_begin_81 : decode cX10_begin 81 = .ok (.iload_n 1, 1) := by decide +kernel
theorem dX10_begin_82 : decode cX10_begin 82 = .ok (.if_icmp .le 8, 3) := by decide +kernel
theorem dX10_begin_85 : decode cX10_begin 85 = .ok (.bipush 103, 2) := by decide +kernel
theorem dX10_begin_87 : decode cX10_begin 87 = .ok (.goto 5, 3) := by decide +kernel
theorem dX10_begin_90 : decode cX10_begin 90 = .ok (.bipush 102, 2) := by decide +kernel
theorem dX10_begin_92 : decode cX10_begin 92 = .ok (.iload_n 2, 1) := by decide +kernel
theorem dX10_begin_93 : decode cX10_begin 93 = .ok (.lconst 0, 1) := by decide +kernel
theorem dX10_begin_94 : decode cX10_begin 94 = .ok (.invokevirtual 80, 3) := by decide +kernel
theorem dX10_begin_97 : decode cX10_begin 97 = .ok (.aload_n 0, 1) := by decide +kernel
theorem dX10_begin_98 : decode cX10_begin 98 = .ok (.iconst 0, 1) := by decide +kernel
theorem dX10_begin_99 : decode cX10_begin 99 = .ok (.putfield 49, 3) := by decide +kernel
theorem dX10_begin_102 : decode cX10_begin 102 = .ok (.aload_n 0, 1) := by decide +kernel
theorem dX10_begin_103 : decode cX10_begin 103 = .ok (.iconst 0, 1) := by decide +kernel
theorem dX10_begin_104 : decode cX10_begin 104 = .ok (.putfield 52, 3) := by decide +kernel
theorem dX10_begin_107 : decode cX10_begin 107 = .ok (.aload_n 0, 1) := by decide +kernel
theorem dX10_begin_108 : decode cX10_begin 108 = .ok (.iconst (-1), 1) := by decide +kernel
theorem dX10_begin_109 : decode cX10_begin 109 = .ok (.putfield 36, 3) := by decide +kernel
theorem dX10_begin_112 : decode cX10_begin 112 = .ok (.aload_n 0, 1) := by decide +kernel
theorem dX10_begin_113 : decode cX10_begin 113 = .ok (.invokevirtual 84, 3) := by decide +kernel
theorem dX10_begin_116 : decode cX10_begin 116 = .ok (.return_, 1) := by decide +kernel
theorem dX10_fail_0 : decode cX10_fail 0 = .ok (.aload_n 0, 1) := by decide +kernel
theorem dX10_fail_1 : decode cX10_fail 1 = .ok (.getfield 49, 3) := by decide +kernel
theorem dX10_fail_4 : decode cX10_fail 4 = .ok (.ifCond .ne 16, 3) := by decide +kernel
theorem dX10_fail_7 : decode cX10_fail 7 = .ok (.aload_n 0, 1) := by decide +kernel
theorem dX10_fail_8 : decode cX10_fail 8 = .ok (.iload_n 1, 1) := by decide +kernel
theorem dX10_fail_9 : decode cX10_fail 9 = .ok (.putfield 49, 3) := by decide +kernel
theorem dX10_fail_12 : decode cX10_fail 12 = .ok (.aload_n 0, 1) := by decide +kernel
theorem dX10_fail_13 : decode cX10_fail 13 = .ok (.aload_n 0, 1) := by decide +kernel
theorem dX10_fail_14 : decode cX10_fail 14 = .ok (.getfield 42, 3) := by decide +kernel
theorem dX10_fail_17 : decode cX10_fail 17 = .ok (.putfield 52, 3) := by decide +kernel
theorem dX10_fail_20 : decode cX10_fail 20 = .ok (.iconst 0, 1) := by decide +kernel
theorem dX10_fail_21 : decode cX10_fail 21 = .ok (.ireturn, 1) := by decide +kernel
theorem dX10_readToken_0 : decode cX10_readToken 0 = .ok (.iconst 0, 1) := by decide +kernel
theorem dX10_readToken_1 : decode cX10_readToken 1 = .ok (.istore_n 2, 1) := by decide +kernel
theorem dX10_readToken_2 : decode cX10_readToken 2 = .ok (.iconst 0, 1) := by decide +kernel
theorem dX10_readToken_3 : decode cX10_readToken 3 = .ok (.istore_n 3, 1) := by decide +kernel
theorem dX10_readToken_4 : decode cX10_readToken 4 = .ok (.lconst 0, 1) := by decide +kernel
theorem dX10_readToken_5 : decode cX10_readToken 5 = .ok (.lstore 4, 2) := by decide +kernel
theorem dX10_readToken_7 : decode cX10_readToken 7 = .ok (.iconst 0, 1) := by decide +kernel
theorem dX10_readToken_8 : decode cX10_readToken 8 = .ok (.istore 6, 2) := by decide +kernel
theorem dX10_readToken_10 : decode cX10_readToken 10 = .ok (.iload_n 1, 1) := by decide +kernel
theorem dX10_readToken_11 : decode cX10_readToken 11 = .ok (.istore 7, 2) := by decide +kernel
theorem dX10_readToken_13 : decode cX10_readToken 13 = .ok (.iload 7, 2) := by decide +kernel
theorem dX10_readToken_15 : decode cX10_readToken 15 = .ok (.aload_n 0, 1) := by decide +kernel
theorem dX10_readToken_16 : decode cX10_readToken 16 = .ok (.getfield 29, 3) := by decide +kernel
theorem dX10_readToken_19 : decode cX10_readToken 19 = .ok (.if_icmp .ge 99, 3) := by decide +kernel
theorem dX10_readToken_22 : decode cX10_readToken 22 = .ok (.iload 7, 2) := by decide +kernel
theorem dX10_readToken_24 : decode cX10_readToken 24 = .ok (.aload_n 0, 1) := by decide +kernel
theorem dX10_readToken_25 : decode cX10_readToken 25 = .ok (.getfield 9, 3) := by decide +kernel
theorem dX10_readToken_28 : decode cX10_readToken 28 = .ok (.arraylength, 1) := by decide +kernel
theorem dX10_readToken_29 : decode cX10_readToken 29 = .ok (.if_icmp .ge 89, 3) := by decide +kernel
theorem dX10_readToken_32 : decode cX10_readToken 32 = .ok (.aload_n 0, 1) := by decide +kernel
theorem dX10_readToken_33 : decode cX10_readToken 33 = .ok (.getfield 9, 3) := by decide +kernel
theorem dX10_readToken_36 : decode cX10_readToken 36 = .ok (.iload 7, 2) := by decide +kernel
theorem dX10_readToken_38 : decode cX10_readToken 38 = .ok (.baload, 1) := by decide +kernel
theorem dX10_readToken_39 : decode cX10_readToken 39 = .ok (.invokestatic 87, 3) := by decide +kernel
theorem dX10_readToken_42 : decode cX10_readToken 42 = .ok (.ifCond .ne 16, 3) := by decide +kernel
theorem dX10_readToken_45 : decode cX10_readToken 45 = .ok (.aload_n 0, 1) := by decide +kernel
theorem dX10_readToken_46 : decode cX10_readToken 46 = .ok (.getfield 9, 3) := by decide +kernel
theorem dX10_readToken_49 : decode cX10_readToken 49 = .ok (.iload 7, 2) := by decide +kernel
theorem dX10_readToken_51 : decode cX10_readToken 51 = .ok (.baload, 1) := by decide +kernel
theorem dX10_readToken_52 : decode cX10_readToken 52 = .ok (.invokestatic 91, 3) := by decide +kernel
theorem dX10_readToken_55 : decode cX10_readToken 55 = .ok (.ifCond .eq 63, 3) := by decide +kernel
theorem dX10_readToken_58 : decode cX10_readToken 58 = .ok (.aload_n 0, 1) := by decide +kernel
theorem dX10_readToken_59 : decode cX10_readToken 59 = .ok (.getfield 9, 3) := by decide +kernel
theorem dX10_readToken_62 : decode cX10_readToken 62 = .ok (.iload 7, 2) := by decide +kernel
theorem dX10_readToken_64 : decode cX10_readToken 64 = .ok (.baload, 1) := by decide +kernel
theorem dX10_readToken_65 : decode cX10_readToken 65 = .ok (.invokestatic 87, 3) := by decide +kernel
theorem dX10_readToken_68 : decode cX10_readToken 68 = .ok (.ifCond .eq 23, 3) := by decide +kernel
theorem dX10_readToken_71 : decode cX10_readToken 71 = .ok (.lload 4, 2) := by decide +kernel
theorem dX10_readToken_73 : decode cX10_readToken 73 = .ok (.aload_n 0, 1) := by decide +kernel
theorem dX10_readToken_74 : decode cX10_readToken 74 = .ok (.getfield 9, 3) := by decide +kernel
theorem dX10_readToken_77 : decode cX10_readToken 77 = .ok (.iload 7, 2) := by decide +kernel
theorem dX10_readToken_79 : decode cX10_readToken 79 = .ok (.baload, 1) := by decide +kernel
theorem dX10_readToken_80 : decode cX10_readToken 80 = .ok (.invokestatic 66, 3) := by decide +kernel
theorem dX10_readToken_83 : decode cX10_readToken 83 = .ok (.lstore 4, 2) := by decide +kernel
theorem dX10_readToken_85 : decode cX10_readToken 85 = .ok (.iinc 2 1, 3) := by decide +kernel
theorem dX10_readToken_88 : decode cX10_readToken 88 = .ok (.goto 24, 3) := by decide +kernel
theorem dX10_readToken_91 : decode cX10_readToken 91 = .ok (.iload 6, 2) := by decide +kernel
theorem dX10_readToken_93 : decode cX10_readToken 93 = .ok (.bipush 10, 2) := by decide +kernel
theorem dX10_readToken_95 : decode cX10_readToken 95 = .ok (.imul, 1) := by decide +kernel
theorem dX10_readToken_96 : decode cX10_readToken 96 = .ok (.aload_n 0, 1) := by decide +kernel
theorem dX10_readToken_97 : decode cX10_readToken 97 = .ok (.getfield 9, 3) := by decide +kernel
theorem dX10_readToken_100 : decode cX10_readToken 100 = .ok (.iload 7, 2) := by decide +kernel
theorem dX10_readToken_102 : decode cX10_readToken 102 = .ok (.baload, 1) := by decide +kernel
theorem dX10_readToken_103 : decode cX10_readToken 103 = .ok (.iadd, 1) := by decide +kernel
theorem dX10_readToken_104 : decode cX10_readToken 104 = .ok (.bipush 48, 2) := by decide +kernel
theorem dX10_readToken_106 : decode cX10_readToken 106 = .ok (.isub, 1) := by decide +kernel
theorem dX10_readToken_107 : decode cX10_readToken 107 = .ok (.istore 6, 2) := by decide +kernel
theorem dX10_readToken_109 : decode cX10_readToken 109 = .ok (.iinc 3 1, 3) := by decide +kernel
theorem dX10_readToken_112 : decode cX10_readToken 112 = .ok (.iinc 7 1, 3) := by decide +kernel
theorem dX10_readToken_115 : decode cX10_readToken 115 = .ok (.goto (-102), 3) := by decide +kernel
theorem dX10_readToken_118 : decode cX10_readToken 118 = .ok (.iload 7, 2) := by decide +kernel
theorem dX10_readToken_120 : decode cX10_readToken 120 = .ok (.iload_n 1, 1) := by decide +kernel
theorem dX10_readToken_121 : decode cX10_readToken 121 = .ok (.if_icmp .ne 36, 3) := by decide +kernel
theorem dX10_readToken_124 : decode cX10_readToken 124 = .ok (.aload_n 0, 1) := by decide +kernel
theorem dX10_readToken_125 : decode cX10_readToken 125 = .ok (.aload_n 0, 1) := by decide +kernel
theorem dX10_readToken_126 : decode cX10_readToken 126 = .ok (.getfield 9, 3) := by decide +kernel
theorem dX10_readToken_129 : decode cX10_readToken 129 = .ok (.iload_n 1, 1) := by decide +kernel
theorem dX10_readToken_130 : decode cX10_readToken 130 = .ok (.baload, 1) := by decide +kernel
theorem dX10_readToken_131 : decode cX10_readToken 131 = .ok (.invokestatic 94, 3) := by decide +kernel
theorem dX10_readToken_134 : decode cX10_readToken 134 = .ok (.ifCond .eq 12, 3) := by decide +kernel
theorem dX10_readToken_137 : decode cX10_readToken 137 = .ok (.aload_n 0, 1) := by decide +kernel
theorem dX10_readToken_138 : decode cX10_readToken 138 = .ok (.getfield 9, 3) := by decide +kernel
theorem dX10_readToken_141 : decode cX10_readToken 141 = .ok (.iload_n 1, 1) := by decide +kernel
theorem dX10_readToken_142 : decode cX10_readToken 142 = .ok (.baload, 1) := by decide +kernel
theorem dX10_readToken_143 : decode cX10_readToken 143 = .ok (.goto 5, 3) := by decide +kernel
theorem dX10_readToken_146 : decode cX10_readToken 146 = .ok (.bipush 103, 2) := by decide +kernel
theorem dX10_readToken_148 : decode cX10_readToken 148 = .ok (.iload_n 1, 1) := by decide +kernel
theorem dX10_readToken_149 : decode cX10_readToken 149 = .ok (.lconst 0, 1) := by decide +kernel
theorem dX10_readToken_150 : decode cX10_readToken 150 = .ok (.invokevirtual 80, 3) := by decide +kernel
theorem dX10_readToken_153 : decode cX10_readToken 153 = .ok (.iload_n 1, 1) := by decide +kernel
theorem dX10_readToken_154 : decode cX10_readToken 154 = .ok (.iconst 1, 1) := by decide +kernel
theorem dX10_readToken_155 : decode cX10_readToken 155 = .ok (.iadd, 1) := by decide +kernel
theorem dX10_readToken_156 : decode cX10_readToken 156 = .ok (.ireturn, 1) := by decide +kernel
theorem dX10_readToken_157 : decode cX10_readToken 157 = .ok (.iload_n 3, 1) := by decide +kernel
theorem dX10_readToken_158 : decode cX10_readToken 158 = .ok (.ifCond .ne 25, 3) := by decide +kernel
theorem dX10_readToken_161 : decode cX10_readToken 161 = .ok (.iload_n 2, 1) := by decide +kernel
theorem dX10_readToken_162 : decode cX10_readToken 162 = .ok (.bipush 7, 2) := by decide +kernel
theorem dX10_readToken_164 : decode cX10_readToken 164 = .ok (.if_icmp .gt 19, 3) := by decide +kernel
theorem dX10_readToken_167 : decode cX10_readToken 167 = .ok (.aload_n 0, 1) := by decide +kernel
theorem dX10_readToken_168 : decode cX10_readToken 168 = .ok (.aload_n 0, 1) := by decide +kernel
theorem dX10_readToken_169 : decode cX10_readToken 169 = .ok (.lload 4, 2) := by decide +kernel
theorem dX10_readToken_171 : decode cX10_readToken 171 = .ok (.invokevirtual 97, 3) := by decide +kernel
theorem dX10_readToken_174 : decode cX10_readToken 174 = .ok (.iload_n 1, 1) := by decide +kernel
theorem dX10_readToken_175 : decode cX10_readToken 175 = .ok (.lload 4, 2) := by decide +kernel
theorem dX10_readToken_177 : decode cX10_readToken 177 = .ok (.invokevirtual 80, 3) := by decide +kernel
theorem dX10_readToken_180 : decode cX10_readToken 180 = .ok (.goto 33, 3) := by decide +kernel
theorem dX10_readToken_183 : decode cX10_readToken 183 = .ok (.iload_n 2, 1) := by decide +kernel
theorem dX10_readToken_184 : decode cX10_readToken 184 = .ok (.ifCond .ne 21, 3) := by decide +kernel
theorem dX10_readToken_187 : decode cX10_readToken 187 = .ok (.iload_n 3, 1) := by decide +kernel
theorem dX10_readToken_188 : decode cX10_readToken 188 = .ok (.iconst 3, 1) := by decide +kernel
theorem dX10_readToken_189 : decode cX10_readToken 189 = .ok (.if_icmp .gt 16, 3) := by decide +kernel
theorem dX10_readToken_192 : decode cX10_readToken 192 = .ok (.aload_n 0, 1) := by decide +kernel
theorem dX10_readToken_193 : decode cX10_readToken 193 = .ok (.bipush 101, 2) := by decide +kernel
theorem dX10_readToken_195 : decode cX10_readToken 195 = .ok (.iload_n 1, 1) := by decide +kernel
theorem dX10_readToken_196 : decode cX10_readToken 196 = .ok (.iload 6, 2) := by decide +kernel
theorem dX10_readToken_198 : decode cX10_readToken 198 = .ok (.i2l, 1) := by decide +kernel
theorem dX10_readToken_199 : decode cX10_readToken 199 = .ok (.invokevirtual 80, 3) := by decide +kernel
theorem dX10_readToken_202 : decode cX10_readToken 202 = .ok (.goto 11, 3) := by decide +kernel
theorem dX10_readToken_205 : decode cX10_readToken 205 = .ok (.aload_n 0, 1) := by decide +kernel
theorem dX10_readToken_206 : decode cX10_readToken 206 = .ok (.bipush 103, 2) := by decide +kernel
theorem dX10_readToken_208 : decode cX10_readToken 208 = .ok (.iload_n 1, 1) := by decide +kernel
theorem dX10_readToken_209 : decode cX10_readToken 209 = .ok (.lconst 0, 1) := by decide +kernel
theorem dX10_readToken_210 : decode cX10_readToken 210 = .ok (.invokevirtual 80, 3) := by decide +kernel
theorem dX10_readToken_213 : decode cX10_readToken 213 = .ok (.iload 7, 2) := by decide +kernel
theorem dX10_readToken_215 : decode cX10_readToken 215 = .ok (.ireturn, 1) := by decide +kernel
theorem dX10_take_0 : decode cX10_take 0 = .ok (.aload_n 0, 1) := by decide +kernel
theorem dX10_take_1 : decode cX10_take 1 = .ok (.getfield 39, 3) := by decide +kernel
theorem dX10_take_4 : decode cX10_take 4 = .ok (.iload_n 1, 1) := by decide +kernel
theorem dX10_take_5 : decode cX10_take 5 = .ok (.if_icmp .eq 9, 3) := by decide +kernel
theorem dX10_take_8 : decode cX10_take 8 = .ok (.aload_n 0, 1) := by decide +kernel
theorem dX10_take_9 : decode cX10_take 9 = .ok (.iconst 1, 1) := by decide +kernel
theorem dX10_take_10 : decode cX10_take 10 = .ok (.invokevirtual 101, 3) := by decide +kernel
theorem dX10_take_13 : decode cX10_take 13 = .ok (.ireturn, 1) := by decide +kernel
theorem dX10_take_14 : decode cX10_take 14 = .ok (.aload_n 0, 1) := by decide +kernel
theorem dX10_take_15 : decode cX10_take 15 = .ok (.invokevirtual 84, 3) := by decide +kernel
theorem dX10_take_18 : decode cX10_take 18 = .ok (.iconst 1, 1) := by decide +kernel
theorem dX10_take_19 : decode cX10_take 19 = .ok (.ireturn, 1) := by decide +kernel
theorem dX10_takeName_0 : decode cX10_takeName 0 = .ok (.aload_n 0, 1) := by decide +kernel
theorem dX10_takeName_1 : decode cX10_takeName 1 = .ok (.getfield 39, 3) := by decide +kernel
theorem dX10_takeName_4 : decode cX10_takeName 4 = .ok (.bipush 100, 2) := by decide +kernel
theorem dX10_takeName_6 : decode cX10_takeName 6 = .ok (.if_icmp .eq 11, 3) := by decide +kernel
theorem dX10_takeName_9 : decode cX10_takeName 9 = .ok (.aload_n 0, 1) := by decide +kernel
theorem dX10_takeName_10 : decode cX10_takeName 10 = .ok (.iconst 1, 1) := by decide +kernel
theorem dX10_takeName_11 : decode cX10_takeName 11 = .ok (.invokevirtual 101, 3) := by decide +kernel
theorem dX10_takeName_14 : decode cX10_takeName 14 = .ok (.pop, 1) := by decide +kernel
theorem dX10_takeName_15 : decode cX10_takeName 15 = .ok (.iconst (-1), 1) := by decide +kernel
theorem dX10_takeName_16 : decode cX10_takeName 16 = .ok (.ireturn, 1) := by decide +kernel
theorem dX10_takeName_17 : decode cX10_takeName 17 = .ok (.iload_n 1, 1) := by decide +kernel
theorem dX10_takeName_18 : decode cX10_takeName 18 = .ok (.iconst (-1), 1) := by decide +kernel
theorem dX10_takeName_19 : decode cX10_takeName 19 = .ok (.if_icmp .ne 11, 3) := by decide +kernel
theorem dX10_takeName_22 : decode cX10_takeName 22 = .ok (.aload_n 0, 1) := by decide +kernel
theorem dX10_takeName_23 : decode cX10_takeName 23 = .ok (.iconst 3, 1) := by decide +kernel
theorem dX10_takeName_24 : decode cX10_takeName 24 = .ok (.invokevirtual 101, 3) := by decide +kernel
theorem dX10_takeName_27 : decode cX10_takeName 27 = .ok (.pop, 1) := by decide +kernel
theorem dX10_takeName_28 : decode cX10_takeName 28 = .ok (.iconst (-1), 1) := by decide +kernel
theorem dX10_takeName_29 : decode cX10_takeName 29 = .ok (.ireturn, 1) := by decide +kernel
theorem dX10_takeName_30 : decode cX10_takeName 30 = .ok (.aload_n 0, 1) := by decide +kernel
theorem dX10_takeName_31 : decode cX10_takeName 31 = .ok (.invokevirtual 84, 3) := by decide +kernel
theorem dX10_takeName_34 : decode cX10_takeName 34 = .ok (.iload_n 1, 1) := by decide +kernel
theorem dX10_takeName_35 : decode cX10_takeName 35 = .ok (.ireturn, 1) := by decide +kernel
theorem dX10_takeNumber_0 : decode cX10_takeNumber 0 = .ok (.aload_n 0, 1) := by decide +kernel
theorem dX10_takeNumber_1 : decode cX10_takeNumber 1 = .ok (.getfield 39, 3) := by decide +kernel
theorem dX10_takeNumber_4 : decode cX10_takeNumber 4 = .ok (.bipush 101, 2) := by decide +kernel
theorem dX10_takeNumber_6 : decode cX10_takeNumber 6 = .ok (.if_icmp .eq 11, 3) := by decide +kernel
theorem dX10_takeNumber_9 : decode cX10_takeNumber 9 = .ok (.aload_n 0, 1) := by decide +kernel
theorem dX10_takeNumber_10 : decode cX10_takeNumber 10 = .ok (.iconst 1, 1) := by decide +kernel
theorem dX10_takeNumber_11 : decode cX10_takeNumber 11 = .ok (.invokevirtual 101, 3) := by decide +kernel
theorem dX10_takeNumber_14 : decode cX10_takeNumber 14 = .ok (.pop, 1) := by decide +kernel
theorem dX10_takeNumber_15 : decode cX10_takeNumber 15 = .ok (.iconst (-1), 1) := by decide +kernel
theorem dX10_takeNumber_16 : decode cX10_takeNumber 16 = .ok (.ireturn, 1) := by decide +kernel
theorem dX10_takeNumber_17 : decode cX10_takeNumber 17 = .ok (.aload_n 0, 1) := by decide +kernel
theorem dX10_takeNumber_18 : decode cX10_takeNumber 18 = .ok (.getfield 45, 3) := by decide +kernel
theorem dX10_takeNumber_21 : decode cX10_takeNumber 21 = .ok (.iload_n 1, 1) := by decide +kernel
theorem dX10_takeNumber_22 : decode cX10_takeNumber 22 = .ok (.i2l, 1) := by decide +kernel
theorem dX10_takeNumber_23 : decode cX10_takeNumber 23 = .ok (.lcmp, 1) := by decide +kernel
theorem dX10_takeNumber_24 : decode cX10_takeNumber 24 = .ok (.ifCond .lt 13, 3) := by decide +kernel
theorem dX10_takeNumber_27 : decode cX10_takeNumber 27 = .ok (.aload_n 0, 1) := by decide +kernel
theorem dX10_takeNumber_28 : decode cX10_takeNumber 28 = .ok (.getfield 45, 3) := by decide +kernel
theorem dX10_takeNumber_31 : decode cX10_takeNumber 31 = .ok (.iload_n 2, 1) := by decide +kernel
theorem dX10_takeNumber_32 : decode cX10_takeNumber 32 = .ok (.i2l, 1) := by decide +kernel
theorem dX10_takeNumber_33 : decode cX10_takeNumber 33 = .ok (.lcmp, 1) := by decide +kernel
theorem dX10_takeNumber_34 : decode cX10_takeNumber 34 = .ok (.ifCond .le 11, 3) := by decide +kernel
theorem dX10_takeNumber_37 : decode cX10_takeNumber 37 = .ok (.aload_n 0, 1) := by decide +kernel
theorem dX10_takeNumber_38 : decode cX10_takeNumber 38 = .ok (.iconst 2, 1) := by decide +kernel
theorem dX10_takeNumber_39 : decode cX10_takeNumber 39 = .ok (.invokevirtual 101, 3) := by decide +kernel
theorem dX10_takeNumber_42 : decode cX10_takeNumber 42 = .ok (.pop, 1) := by decide +kernel
theorem dX10_takeNumber_43 : decode cX10_takeNumber 43 = .ok (.iconst (-1), 1) := by decide +kernel
theorem dX10_takeNumber_44 : decode cX10_takeNumber 44 = .ok (.ireturn, 1) := by decide +kernel
theorem dX10_takeNumber_45 : decode cX10_takeNumber 45 = .ok (.aload_n 0, 1) := by decide +kernel
theorem dX10_takeNumber_46 : decode cX10_takeNumber 46 = .ok (.getfield 45, 3) := by decide +kernel
theorem dX10_takeNumber_49 : decode cX10_takeNumber 49 = .ok (.l2i, 1) := by decide +kernel
theorem dX10_takeNumber_50 : decode cX10_takeNumber 50 = .ok (.istore_n 3, 1) := by decide +kernel
theorem dX10_takeNumber_51 : decode cX10_takeNumber 51 = .ok (.aload_n 0, 1) := by decide +kernel
theorem dX10_takeNumber_52 : decode cX10_takeNumber 52 = .ok (.invokevirtual 84, 3) := by decide +kernel
theorem dX10_takeNumber_55 : decode cX10_takeNumber 55 = .ok (.iload_n 3, 1) := by decide +kernel
theorem dX10_takeNumber_56 : decode cX10_takeNumber 56 = .ok (.ireturn, 1) := by decide +kernel
theorem dX1_forget_0 : decode cX1_forget 0 = .ok (.iconst 0, 1) := by decide +kernel
theorem dX1_forget_1 : decode cX1_forget 1 = .ok (.istore_n 1, 1) := by decide +kernel
theorem dX1_forget_2 : decode cX1_forget 2 = .ok (.iload_n 1, 1) := by decide +kernel
theorem dX1_forget_3 : decode cX1_forget 3 = .ok (.bipush 6, 2) := by decide +kernel
theorem dX1_forget_5 : decode cX1_forget 5 = .ok (.if_icmp .ge 16, 3) := by decide +kernel
theorem dX1_forget_8 : decode cX1_forget 8 = .ok (.aload_n 0, 1) := by decide +kernel
theorem dX1_forget_9 : decode cX1_forget 9 = .ok (.getfield 9, 3) := by decide +kernel
theorem dX1_forget_12 : decode cX1_forget 12 = .ok (.iload_n 1, 1) := by decide +kernel
theorem dX1_forget_13 : decode cX1_forget 13 = .ok (.iconst 0, 1) := by decide +kernel
theorem dX1_forget_14 : decode cX1_forget 14 = .ok (.iastore, 1) := by decide +kernel
theorem dX1_forget_15 : decode cX1_forget 15 = .ok (.iinc 1 1, 3) := by decide +kernel
theorem dX1_forget_18 : decode cX1_forget 18 = .ok (.goto (-16), 3) := by decide +kernel
theorem dX1_forget_21 : decode cX1_forget 21 = .ok (.iconst 0, 1) := by decide +kernel
theorem dX1_forget_22 : decode cX1_forget 22 = .ok (.istore_n 1, 1) := by decide +kernel
theorem dX1_forget_23 : decode cX1_forget 23 = .ok (.iload_n 1, 1) := by decide +kernel
theorem dX1_forget_24 : decode cX1_forget 24 = .ok (.bipush 42, 2) := by decide +kernel
theorem dX1_forget_26 : decode cX1_forget 26 = .ok (.if_icmp .ge 16, 3) := by decide +kernel
theorem dX1_forget_29 : decode cX1_forget 29 = .ok (.aload_n 0, 1) := by decide +kernel
theorem dX1_forget_30 : decode cX1_forget 30 = .ok (.getfield 15, 3) := by decide +kernel
theorem dX1_forget_33 : decode cX1_forget 33 = .ok (.iload_n 1, 1) := by decide +kernel
theorem dX1_forget_34 : decode cX1_forget 34 = .ok (.iconst 0, 1) := by decide +kernel
theorem dX1_forget_35 : decode cX1_forget 35 = .ok (.iastore, 1) := by decide +kernel
theorem dX1_forget_36 : decode cX1_forget 36 = .ok (.iinc 1 1, 3) := by decide +kernel
theorem dX1_forget_39 : decode cX1_forget 39 = .ok (.goto (-16), 3) := by decide +kernel
theorem dX1_forget_42 : decode cX1_forget 42 = .ok (.iconst 0, 1) := by decide +kernel
theorem dX1_forget_43 : decode cX1_forget 43 = .ok (.istore_n 1, 1) := by decide +kernel
theorem dX1_forget_44 : decode cX1_forget 44 = .ok (.iload_n 1, 1) := by decide +kernel
theorem dX1_forget_45 : decode cX1_forget 45 = .ok (.bipush 7, 2) := by decide +kernel
theorem dX1_forget_47 : decode cX1_forget 47 = .ok (.if_icmp .ge 37, 3) := by decide +kernel
theorem dX1_forget_50 : decode cX1_forget 50 = .ok (.aload_n 0, 1) := by decide +kernel
theorem dX1_forget_51 : decode cX1_forget 51 = .ok (.getfield 18, 3) := by decide +kernel
theorem dX1_forget_54 : decode cX1_forget 54 = .ok (.iload_n 1, 1) := by decide +kernel
theorem dX1_forget_55 : decode cX1_forget 55 = .ok (.iconst 0, 1) := by decide +kernel
theorem dX1_forget_56 : decode cX1_forget 56 = .ok (.iastore, 1) := by decide +kernel
theorem dX1_forget_57 : decode cX1_forget 57 = .ok (.aload_n 0, 1) := by decide +kernel
theorem dX1_forget_58 : decode cX1_forget 58 = .ok (.getfield 21, 3) := by decide +kernel
theorem dX1_forget_61 : decode cX1_forget 61 = .ok (.iload_n 1, 1) := by decide +kernel
theorem dX1_forget_62 : decode cX1_forget 62 = .ok (.iconst 0, 1) := by decide +kernel
theorem dX1_forget_63 : decode cX1_forget 63 = .ok (.iastore, 1) := by decide +kernel
theorem dX1_forget_64 : decode cX1_forget 64 = .ok (.aload_n 0, 1) := by decide +kernel
theorem dX1_forget_65 : decode cX1_forget 65 = .ok (.getfield 24, 3) := by decide +kernel
theorem dX1_forget_68 : decode cX1_forget 68 = .ok (.iload_n 1, 1) := by decide +kernel
theorem dX1_forget_69 : decode cX1_forget 69 = .ok (.iconst 0, 1) := by decide +kernel
theorem dX1_forget_70 : decode cX1_forget 70 = .ok (.iastore, 1) := by decide +kernel
theorem dX1_forget_71 : decode cX1_forget 71 = .ok (.aload_n 0, 1) := by decide +kernel
theorem dX1_forget_72 : decode cX1_forget 72 = .ok (.getfield 27, 3) := by decide +kernel
theorem dX1_forget_75 : decode cX1_forget 75 = .ok (.iload_n 1, 1) := by decide +kernel
theorem dX1_forget_76 : decode cX1_forget 76 = .ok (.iconst 0, 1) := by decide +kernel
theorem dX1_forget_77 : decode cX1_forget 77 = .ok (.iastore, 1) := by decide +kernel
theorem dX1_forget_78 : decode cX1_forget 78 = .ok (.iinc 1 1, 3) := by decide +kernel
theorem dX1_forget_81 : decode cX1_forget 81 = .ok (.goto (-37), 3) := by decide +kernel
theorem dX1_forget_84 : decode cX1_forget 84 = .ok (.aload_n 0, 1) := by decide +kernel
theorem dX1_forget_85 : decode cX1_forget 85 = .ok (.iconst 0, 1) := by decide +kernel
theorem dX1_forget_86 : decode cX1_forget 86 = .ok (.putfield 30, 3) := by decide +kernel
theorem dX1_forget_89 : decode cX1_forget 89 = .ok (.aload_n 0, 1) := by decide +kernel
theorem dX1_forget_90 : decode cX1_forget 90 = .ok (.iconst 0, 1) := by decide +kernel
theorem dX1_forget_91 : decode cX1_forget 91 = .ok (.putfield 34, 3) := by decide +kernel
theorem dX1_forget_94 : decode cX1_forget 94 = .ok (.aload_n 0, 1) := by decide +kernel
theorem dX1_forget_95 : decode cX1_forget 95 = .ok (.iconst 0, 1) := by decide +kernel
theorem dX1_forget_96 : decode cX1_forget 96 = .ok (.putfield 37, 3) := by decide +kernel
theorem dX1_forget_99 : decode cX1_forget 99 = .ok (.aload_n 0, 1) := by decide +kernel
theorem dX1_forget_100 : decode cX1_forget 100 = .ok (.iconst 0, 1) := by decide +kernel
theorem dX1_forget_101 : decode cX1_forget 101 = .ok (.putfield 40, 3) := by decide +kernel
theorem dX1_forget_104 : decode cX1_forget 104 = .ok (.aload_n 0, 1) := by decide +kernel
theorem dX1_forget_105 : decode cX1_forget 105 = .ok (.iconst 0, 1) := by decide +kernel
theorem dX1_forget_106 : decode cX1_forget 106 = .ok (.putfield 43, 3) := by decide +kernel
theorem dX1_forget_109 : decode cX1_forget 109 = .ok (.aload_n 0, 1) := by decide +kernel
theorem dX1_forget_110 : decode cX1_forget 110 = .ok (.iconst 0, 1) := by decide +kernel
theorem dX1_forget_111 : decode cX1_forget 111 = .ok (.putfield 46, 3) := by decide +kernel
theorem dX1_forget_114 : decode cX1_forget 114 = .ok (.return_, 1) := by decide +kernel
theorem dX8_dishNamed_0 : decode cX8_dishNamed 0 = .ok (.iconst 0, 1) := by decide +kernel
theorem dX8_dishNamed_1 : decode cX8_dishNamed 1 = .ok (.istore_n 3, 1) := by decide +kernel
theorem dX8_dishNamed_2 : decode cX8_dishNamed 2 = .ok (.iload_n 3, 1) := by decide +kernel
theorem dX8_dishNamed_3 : decode cX8_dishNamed 3 = .ok (.aload_n 0, 1) := by decide +kernel
theorem dX8_dishNamed_4 : decode cX8_dishNamed 4 = .ok (.getfield 32, 3) := by decide +kernel
theorem dX8_dishNamed_7 : decode cX8_dishNamed 7 = .ok (.if_icmp .ge 22, 3) := by decide +kernel
theorem dX8_dishNamed_10 : decode cX8_dishNamed 10 = .ok (.aload_n 0, 1) := by decide +kernel
theorem dX8_dishNamed_11 : decode cX8_dishNamed 11 = .ok (.getfield 22, 3) := by decide +kernel
theorem dX8_dishNamed_14 : decode cX8_dishNamed 14 = .ok (.iload_n 3, 1) := by decide +kernel
theorem dX8_dishNamed_15 : decode cX8_dishNamed 15 = .ok (.laload, 1) := by decide +kernel
theorem dX8_dishNamed_16 : decode cX8_dishNamed 16 = .ok (.lload_n 1, 1) := by decide +kernel
theorem dX8_dishNamed_17 : decode cX8_dishNamed 17 = .ok (.lcmp, 1) := by decide +kernel
theorem dX8_dishNamed_18 : decode cX8_dishNamed 18 = .ok (.ifCond .ne 5, 3) := by decide +kernel
theorem dX8_dishNamed_21 : decode cX8_dishNamed 21 = .ok (.iload_n 3, 1) := by decide +kernel
theorem dX8_dishNamed_22 : decode cX8_dishNamed 22 = .ok (.ireturn, 1) := by decide +kernel
theorem dX8_dishNamed_23 : decode cX8_dishNamed 23 = .ok (.iinc 3 1, 3) := by decide +kernel
theorem dX8_dishNamed_26 : decode cX8_dishNamed 26 = .ok (.goto (-24), 3) := by decide +kernel
theorem dX8_dishNamed_29 : decode cX8_dishNamed 29 = .ok (.iconst (-1), 1) := by decide +kernel
theorem dX8_dishNamed_30 : decode cX8_dishNamed 30 = .ok (.ireturn, 1) := by decide +kernel
theorem dX8_forget_0 : decode cX8_forget 0 = .ok (.aload_n 0, 1) := by decide +kernel
theorem dX8_forget_1 : decode cX8_forget 1 = .ok (.iconst 0, 1) := by decide +kernel
theorem dX8_forget_2 : decode cX8_forget 2 = .ok (.putfield 28, 3) := by decide +kernel
theorem dX8_forget_5 : decode cX8_forget 5 = .ok (.aload_n 0, 1) := by decide +kernel
theorem dX8_forget_6 : decode cX8_forget 6 = .ok (.iconst 0, 1) := by decide +kernel
theorem dX8_forget_7 : decode cX8_forget 7 = .ok (.putfield 32, 3) := by decide +kernel
theorem dX8_forget_10 : decode cX8_forget 10 = .ok (.aload_n 0, 1) := by decide +kernel
theorem dX8_forget_11 : decode cX8_forget 11 = .ok (.iconst 0, 1) := by decide +kernel
theorem dX8_forget_12 : decode cX8_forget 12 = .ok (.putfield 35, 3) := by decide +kernel
theorem dX8_forget_15 : decode cX8_forget 15 = .ok (.aload_n 0, 1) := by decide +kernel
theorem dX8_forget_16 : decode cX8_forget 16 = .ok (.iconst 0, 1) := by decide +kernel
theorem dX8_forget_17 : decode cX8_forget 17 = .ok (.putfield 38, 3) := by decide +kernel
theorem dX8_forget_20 : decode cX8_forget 20 = .ok (.return_, 1) := by decide +kernel
theorem dX8_personNamed_0 : decode cX8_personNamed 0 = .ok (.iconst 0, 1) := by decide +kernel
theorem dX8_personNamed_1 : decode cX8_personNamed 1 = .ok (.istore_n 3, 1) := by decide +kernel
theorem dX8_personNamed_2 : decode cX8_personNamed 2 = .ok (.iload_n 3, 1) := by decide +kernel
theorem dX8_personNamed_3 : decode cX8_personNamed 3 = .ok (.aload_n 0, 1) := by decide +kernel
theorem dX8_personNamed_4 : decode cX8_personNamed 4 = .ok (.getfield 28, 3) := by decide +kernel
theorem dX8_personNamed_7 : decode cX8_personNamed 7 = .ok (.if_icmp .ge 22, 3) := by decide +kernel
theorem dX8_personNamed_10 : decode cX8_personNamed 10 = .ok (.aload_n 0, 1) := by decide +kernel
theorem dX8_personNamed_11 : decode cX8_personNamed 11 = .ok (.getfield 9, 3) := by decide +kernel
theorem dX8_personNamed_14 : decode cX8_personNamed 14 = .ok (.iload_n 3, 1) := by decide +kernel
theorem dX8_personNamed_15 : decode cX8_personNamed 15 = .ok (.laload, 1) := by decide +kernel
theorem dX8_personNamed_16 : decode cX8_personNamed 16 = .ok (.lload_n 1, 1) := by decide +kernel
theorem dX8_personNamed_17 : decode cX8_personNamed 17 = .ok (.lcmp, 1) := by decide +kernel
theorem dX8_personNamed_18 : decode cX8_personNamed 18 = .ok (.ifCond .ne 5, 3) := by decide +kernel
theorem dX8_personNamed_21 : decode cX8_personNamed 21 = .ok (.iload_n 3, 1) := by decide +kernel
theorem dX8_personNamed_22 : decode cX8_personNamed 22 = .ok (.ireturn, 1) := by decide +kernel
theorem dX8_personNamed_23 : decode cX8_personNamed 23 = .ok (.iinc 3 1, 3) := by decide +kernel
theorem dX8_personNamed_26 : decode cX8_personNamed 26 = .ok (.goto (-24), 3) := by decide +kernel
theorem dX8_personNamed_29 : decode cX8_personNamed 29 = .ok (.iconst (-1), 1) := by decide +kernel
theorem dX8_personNamed_30 : decode cX8_personNamed 30 = .ok (.ireturn, 1) := by decide +kernel
theorem dX9_newName_0 : decode cX9_newName 0 = .ok (.aload_n 1, 1) := by decide +kernel
theorem dX9_newName_1 : decode cX9_newName 1 = .ok (.getfield 44, 3) := by decide +kernel
theorem dX9_newName_4 : decode cX9_newName 4 = .ok (.bipush 100, 2) := by decide +kernel
theorem dX9_newName_6 : decode cX9_newName 6 = .ok (.if_icmp .eq 9, 3) := by decide +kernel
theorem dX9_newName_9 : decode cX9_newName 9 = .ok (.aload_n 1, 1) := by decide +kernel
theorem dX9_newName_10 : decode cX9_newName 10 = .ok (.iconst 1, 1) := by decide +kernel
theorem dX9_newName_11 : decode cX9_newName 11 = .ok (.invokevirtual 67, 3) := by decide +kernel
theorem dX9_newName_14 : decode cX9_newName 14 = .ok (.ireturn, 1) := by decide +kernel
theorem dX9_newName_15 : decode cX9_newName 15 = .ok (.aload_n 0, 1) := by decide +kernel
theorem dX9_newName_16 : decode cX9_newName 16 = .ok (.getfield 12, 3) := by decide +kernel
theorem dX9_newName_19 : decode cX9_newName 19 = .ok (.aload_n 1, 1) := by decide +kernel
theorem dX9_newName_20 : decode cX9_newName 20 = .ok (.getfield 71, 3) := by decide +kernel
theorem dX9_newName_23 : decode cX9_newName 23 = .ok (.invokevirtual 75, 3) := by decide +kernel
theorem dX9_newName_26 : decode cX9_newName 26 = .ok (.iconst (-1), 1) := by decide +kernel
theorem dX9_newName_27 : decode cX9_newName 27 = .ok (.if_icmp .ne 18, 3) := by decide +kernel
theorem dX9_newName_30 : decode cX9_newName 30 = .ok (.aload_n 0, 1) := by decide +kernel
theorem dX9_newName_31 : decode cX9_newName 31 = .ok (.getfield 12, 3) := by decide +kernel
theorem dX9_newName_34 : decode cX9_newName 34 = .ok (.aload_n 1, 1) := by decide +kernel
theorem dX9_newName_35 : decode cX9_newName 35 = .ok (.getfield 71, 3) := by decide +kernel
theorem dX9_newName_38 : decode cX9_newName 38 = .ok (.invokevirtual 79, 3) := by decide +kernel
theorem dX9_newName_41 : decode cX9_newName 41 = .ok (.iconst (-1), 1) := by decide +kernel
theorem dX9_newName_42 : decode cX9_newName 42 = .ok (.if_icmp .eq 9, 3) := by decide +kernel
theorem dX9_newName_45 : decode cX9_newName 45 = .ok (.aload_n 1, 1) := by decide +kernel
theorem dX9_newName_46 : decode cX9_newName 46 = .ok (.iconst 3, 1) := by decide +kernel
theorem dX9_newName_47 : decode cX9_newName 47 = .ok (.invokevirtual 67, 3) := by decide +kernel
theorem dX9_newName_50 : decode cX9_newName 50 = .ok (.ireturn, 1) := by decide +kernel
theorem dX9_newName_51 : decode cX9_newName 51 = .ok (.aload_n 1, 1) := by decide +kernel
theorem dX9_newName_52 : decode cX9_newName 52 = .ok (.invokevirtual 82, 3) := by decide +kernel
theorem dX9_newName_55 : decode cX9_newName 55 = .ok (.iconst 1, 1) := by decide +kernel
theorem dX9_newName_56 : decode cX9_newName 56 = .ok (.ireturn, 1) := by decide +kernel
theorem dX9_readDish_0 : decode cX9_readDish 0 = .ok (.aload_n 0, 1) := by decide +kernel
theorem dX9_readDish_1 : decode cX9_readDish 1 = .ok (.getfield 12, 3) := by decide +kernel
theorem dX9_readDish_4 : decode cX9_readDish 4 = .ok (.getfield 113, 3) := by decide +kernel
theorem dX9_readDish_7 : decode cX9_readDish 7 = .ok (.bipush 6, 2) := by decide +kernel
theorem dX9_readDish_9 : decode cX9_readDish 9 = .ok (.if_icmp .lt 9, 3) := by decide +kernel
theorem dX9_readDish_12 : decode cX9_readDish 12 = .ok (.aload_n 1, 1) := by decide +kernel
theorem dX9_readDish_13 : decode cX9_readDish 13 = .ok (.iconst 4, 1) := by decide +kernel
theorem dX9_readDish_14 : decode cX9_readDish 14 = .ok (.invokevirtual 67, 3) := by decide +kernel
theorem dX9_readDish_17 : decode cX9_readDish 17 = .ok (.ireturn, 1) := by decide +kernel
theorem dX9_readDish_18 : decode cX9_readDish 18 = .ok (.aload_n 1, 1) := by decide +kernel
theorem dX9_readDish_19 : decode cX9_readDish 19 = .ok (.invokevirtual 82, 3) := by decide +kernel
theorem dX9_readDish_22 : decode cX9_readDish 22 = .ok (.aload_n 1, 1) := by decide +kernel
theorem dX9_readDish_23 : decode cX9_readDish 23 = .ok (.getfield 71, 3) := by decide +kernel
theorem dX9_readDish_26 : decode cX9_readDish 26 = .ok (.lstore_n 2, 1) := by decide +kernel
theorem dX9_readDish_27 : decode cX9_readDish 27 = .ok (.aload_n 0, 1) := by decide +kernel
theorem dX9_readDish_28 : decode cX9_readDish 28 = .ok (.aload_n 1, 1) := by decide +kernel
theorem dX9_readDish_29 : decode cX9_readDish 29 = .ok (.invokevirtual 88, 3) := by decide +kernel
theorem dX9_readDish_32 : decode cX9_readDish 32 = .ok (.ifCond .ne 5, 3) := by decide +kernel
theorem dX9_readDish_35 : decode cX9_readDish 35 = .ok (.iconst 0, 1) := by decide +kernel
theorem dX9_readDish_36 : decode cX9_readDish 36 = .ok (.ireturn, 1) := by decide +kernel
theorem dX9_readDish_37 : decode cX9_readDish 37 = .ok (.aload_n 1, 1) := by decide +kernel
theorem dX9_readDish_38 : decode cX9_readDish 38 = .ok (.iconst 0, 1) := by decide +kernel
theorem dX9_readDish_39 : decode cX9_readDish 39 = .ok (.bipush 99, 2) := by decide +kernel
theorem dX9_readDish_41 : decode cX9_readDish 41 = .ok (.invokevirtual 91, 3) := by decide +kernel
theorem dX9_readDish_44 : decode cX9_readDish 44 = .ok (.istore 4, 2) := by decide +kernel
theorem dX9_readDish_46 : decode cX9_readDish 46 = .ok (.iload 4, 2) := by decide +kernel
theorem dX9_readDish_48 : decode cX9_readDish 48 = .ok (.iconst (-1), 1) := by decide +kernel
theorem dX9_readDish_49 : decode cX9_readDish 49 = .ok (.if_icmp .ne 5, 3) := by decide +kernel
theorem dX9_readDish_52 : decode cX9_readDish 52 = .ok (.iconst 0, 1) := by decide +kernel
theorem dX9_readDish_53 : decode cX9_readDish 53 = .ok (.ireturn, 1) := by decide +kernel
theorem dX9_readDish_54 : decode cX9_readDish 54 = .ok (.iconst 0, 1) := by decide +kernel
theorem dX9_readDish_55 : decode cX9_readDish 55 = .ok (.istore 5, 2) := by decide +kernel
theorem dX9_readDish_57 : decode cX9_readDish 57 = .ok (.aload_n 1, 1) := by decide +kernel
theorem dX9_readDish_58 : decode cX9_readDish 58 = .ok (.getfield 44, 3) := by decide +kernel
theorem dX9_readDish_61 : decode cX9_readDish 61 = .ok (.bipush 6, 2) := by decide +kernel
theorem dX9_readDish_63 : decode cX9_readDish 63 = .ok (.if_icmp .ne 24, 3) := by decide +kernel
theorem dX9_readDish_66 : decode cX9_readDish 66 = .ok (.aload_n 1, 1) := by decide +kernel
theorem dX9_readDish_67 : decode cX9_readDish 67 = .ok (.invokevirtual 82, 3) := by decide +kernel
theorem dX9_readDish_70 : decode cX9_readDish 70 = .ok (.aload_n 1, 1) := by decide +kernel
theorem dX9_readDish_71 : decode cX9_readDish 71 = .ok (.iconst 1, 1) := by decide +kernel
theorem dX9_readDish_72 : decode cX9_readDish 72 = .ok (.bipush 9, 2) := by decide +kernel
theorem dX9_readDish_74 : decode cX9_readDish 74 = .ok (.invokevirtual 91, 3) := by decide +kernel
theorem dX9_readDish_77 : decode cX9_readDish 77 = .ok (.istore 5, 2) := by decide +kernel
theorem dX9_readDish_79 : decode cX9_readDish 79 = .ok (.iload 5, 2) := by decide +kernel
theorem dX9_readDish_81 : decode cX9_readDish 81 = .ok (.iconst (-1), 1) := by decide +kernel
theorem dX9_readDish_82 : decode cX9_readDish 82 = .ok (.if_icmp .ne 5, 3) := by decide +kernel
theorem dX9_readDish_85 : decode cX9_readDish 85 = .ok (.iconst 0, 1) := by decide +kernel
theorem dX9_readDish_86 : decode cX9_readDish 86 = .ok (.ireturn, 1) := by decide +kernel
theorem dX9_readDish_87 : decode cX9_readDish 87 = .ok (.aload_n 0, 1) := by decide +kernel
theorem dX9_readDish_88 : decode cX9_readDish 88 = .ok (.getfield 12, 3) := by decide +kernel
theorem dX9_readDish_91 : decode cX9_readDish 91 = .ok (.getfield 116, 3) := by decide +kernel
theorem dX9_readDish_94 : decode cX9_readDish 94 = .ok (.aload_n 0, 1) := by decide +kernel
theorem dX9_readDish_95 : decode cX9_readDish 95 = .ok (.getfield 12, 3) := by decide +kernel
theorem dX9_readDish_98 : decode cX9_readDish 98 = .ok (.getfield 113, 3) := by decide +kernel
theorem dX9_readDish_101 : decode cX9_readDish 101 = .ok (.lload_n 2, 1) := by decide +kernel
theorem dX9_readDish_102 : decode cX9_readDish 102 = .ok (.lastore, 1) := by decide +kernel
theorem dX9_readDish_103 : decode cX9_readDish 103 = .ok (.aload_n 0, 1) := by decide +kernel
theorem dX9_readDish_104 : decode cX9_readDish 104 = .ok (.getfield 12, 3) := by decide +kernel
theorem dX9_readDish_107 : decode cX9_readDish 107 = .ok (.getfield 119, 3) := by decide +kernel
theorem dX9_readDish_110 : decode cX9_readDish 110 = .ok (.aload_n 0, 1) := by decide +kernel
theorem dX9_readDish_111 : decode cX9_readDish 111 = .ok (.getfield 12, 3) := by decide +kernel
theorem dX9_readDish_114 : decode cX9_readDish 114 = .ok (.getfield 113, 3) := by decide +kernel
theorem dX9_readDish_117 : decode cX9_readDish 117 = .ok (.iload 5, 2) := by decide +kernel
theorem dX9_readDish_119 : decode cX9_readDish 119 = .ok (.iastore, 1) := by decide +kernel
theorem dX9_readDish_120 : decode cX9_readDish 120 = .ok (.aload_n 0, 1) := by decide +kernel
theorem dX9_readDish_121 : decode cX9_readDish 121 = .ok (.getfield 23, 3) := by decide +kernel
theorem dX9_readDish_124 : decode cX9_readDish 124 = .ok (.getfield 122, 3) := by decide +kernel
theorem dX9_readDish_127 : decode cX9_readDish 127 = .ok (.aload_n 0, 1) := by decide +kernel
theorem dX9_readDish_128 : decode cX9_readDish 128 = .ok (.getfield 12, 3) := by decide +kernel
theorem dX9_readDish_131 : decode cX9_readDish 131 = .ok (.getfield 113, 3) := by decide +kernel
theorem dX9_readDish_134 : decode cX9_readDish 134 = .ok (.iload 4, 2) := by decide +kernel
theorem dX9_readDish_136 : decode cX9_readDish 136 = .ok (.iastore, 1) := by decide +kernel
theorem dX9_readDish_137 : decode cX9_readDish 137 = .ok (.aload_n 0, 1) := by decide +kernel
theorem dX9_readDish_138 : decode cX9_readDish 138 = .ok (.getfield 12, 3) := by decide +kernel
theorem dX9_readDish_141 : decode cX9_readDish 141 = .ok (.dup, 1) := by decide +kernel
theorem dX9_readDish_142 : decode cX9_readDish 142 = .ok (.getfield 113, 3) := by decide +kernel
theorem dX9_readDish_145 : decode cX9_readDish 145 = .ok (.iconst 1, 1) := by decide +kernel
theorem dX9_readDish_146 : decode cX9_readDish 146 = .ok (.iadd, 1) := by decide +kernel
theorem dX9_readDish_147 : decode cX9_readDish 147 = .ok (.putfield 113, 3) := by decide +kernel
theorem dX9_readDish_150 : decode cX9_readDish 150 = .ok (.aload_n 1, 1) := by decide +kernel
theorem dX9_readDish_151 : decode cX9_readDish 151 = .ok (.bipush 59, 2) := by decide +kernel
theorem dX9_readDish_153 : decode cX9_readDish 153 = .ok (.invokevirtual 110, 3) := by decide +kernel
theorem dX9_readDish_156 : decode cX9_readDish 156 = .ok (.ireturn, 1) := by decide +kernel
theorem dX9_readDogs_0 : decode cX9_readDogs 0 = .ok (.aload_n 0, 1) := by decide +kernel
theorem dX9_readDogs_1 : decode cX9_readDogs 1 = .ok (.getfield 31, 3) := by decide +kernel
theorem dX9_readDogs_4 : decode cX9_readDogs 4 = .ok (.ifCond .eq 9, 3) := by decide +kernel
theorem dX9_readDogs_7 : decode cX9_readDogs 7 = .ok (.aload_n 1, 1) := by decide +kernel
theorem dX9_readDogs_8 : decode cX9_readDogs 8 = .ok (.iconst 3, 1) := by decide +kernel
theorem dX9_readDogs_9 : decode cX9_readDogs 9 = .ok (.invokevirtual 67, 3) := by decide +kernel
theorem dX9_readDogs_12 : decode cX9_readDogs 12 = .ok (.ireturn, 1) := by decide +kernel
theorem dX9_readDogs_13 : decode cX9_readDogs 13 = .ok (.aload_n 0, 1) := by decide +kernel
theorem dX9_readDogs_14 : decode cX9_readDogs 14 = .ok (.iconst 1, 1) := by decide +kernel
theorem dX9_readDogs_15 : decode cX9_readDogs 15 = .ok (.putfield 31, 3) := by decide +kernel
theorem dX9_readDogs_18 : decode cX9_readDogs 18 = .ok (.aload_n 1, 1) := by decide +kernel
theorem dX9_readDogs_19 : decode cX9_readDogs 19 = .ok (.invokevirtual 82, 3) := by decide +kernel
theorem dX9_readDogs_22 : decode cX9_readDogs 22 = .ok (.aload_n 0, 1) := by decide +kernel
theorem dX9_readDogs_23 : decode cX9_readDogs 23 = .ok (.getfield 12, 3) := by decide +kernel
theorem dX9_readDogs_26 : decode cX9_readDogs 26 = .ok (.aload_n 1, 1) := by decide +kernel
theorem dX9_readDogs_27 : decode cX9_readDogs 27 = .ok (.iconst 0, 1) := by decide +kernel
theorem dX9_readDogs_28 : decode cX9_readDogs 28 = .ok (.bipush 9, 2) := by decide +kernel
theorem dX9_readDogs_30 : decode cX9_readDogs 30 = .ok (.invokevirtual 91, 3) := by decide +kernel
theorem dX9_readDogs_33 : decode cX9_readDogs 33 = .ok (.putfield 135, 3) := by decide +kernel
theorem dX9_readDogs_36 : decode cX9_readDogs 36 = .ok (.aload_n 0, 1) := by decide +kernel
theorem dX9_readDogs_37 : decode cX9_readDogs 37 = .ok (.getfield 12, 3) := by decide +kernel
theorem dX9_readDogs_40 : decode cX9_readDogs 40 = .ok (.getfield 135, 3) := by decide +kernel
theorem dX9_readDogs_43 : decode cX9_readDogs 43 = .ok (.iconst (-1), 1) := by decide +kernel
theorem dX9_readDogs_44 : decode cX9_readDogs 44 = .ok (.if_icmp .eq 16, 3) := by decide +kernel
theorem dX9_readDogs_47 : decode cX9_readDogs 47 = .ok (.aload_n 1, 1) := by decide +kernel
theorem dX9_readDogs_48 : decode cX9_readDogs 48 = .ok (.bipush 59, 2) := by decide +kernel
theorem dX9_readDogs_50 : decode cX9_readDogs 50 = .ok (.invokevirtual 110, 3) := by decide +kernel
theorem dX9_readDogs_53 : decode cX9_readDogs 53 = .ok (.ifCond .eq 7, 3) := by decide +kernel
theorem dX9_readDogs_56 : decode cX9_readDogs 56 = .ok (.iconst 1, 1) := by decide +kernel
theorem dX9_readDogs_57 : decode cX9_readDogs 57 = .ok (.goto 4, 3) := by decide +kernel
theorem dX9_readDogs_60 : decode cX9_readDogs 60 = .ok (.iconst 0, 1) := by decide +kernel
theorem dX9_readDogs_61 : decode cX9_readDogs 61 = .ok (.ireturn, 1) := by decide +kernel
theorem dX9_readLaw_0 : decode cX9_readLaw 0 = .ok (.aload_n 0, 1) := by decide +kernel
theorem dX9_readLaw_1 : decode cX9_readLaw 1 = .ok (.getfield 27, 3) := by decide +kernel
theorem dX9_readLaw_4 : decode cX9_readLaw 4 = .ok (.ifCond .eq 9, 3) := by decide +kernel
theorem dX9_readLaw_7 : decode cX9_readLaw 7 = .ok (.aload_n 1, 1) := by decide +kernel
theorem dX9_readLaw_8 : decode cX9_readLaw 8 = .ok (.iconst 3, 1) := by decide +kernel
theorem dX9_readLaw_9 : decode cX9_readLaw 9 = .ok (.invokevirtual 67, 3) := by decide +kernel
theorem dX9_readLaw_12 : decode cX9_readLaw 12 = .ok (.ireturn, 1) := by decide +kernel
theorem dX9_readLaw_13 : decode cX9_readLaw 13 = .ok (.aload_n 0, 1) := by decide +kernel
theorem dX9_readLaw_14 : decode cX9_readLaw 14 = .ok (.iconst 1, 1) := by decide +kernel
theorem dX9_readLaw_15 : decode cX9_readLaw 15 = .ok (.putfield 27, 3) := by decide +kernel
theorem dX9_readLaw_18 : decode cX9_readLaw 18 = .ok (.aload_n 1, 1) := by decide +kernel
theorem dX9_readLaw_19 : decode cX9_readLaw 19 = .ok (.invokevirtual 82, 3) := by decide +kernel
theorem dX9_readLaw_22 : decode cX9_readLaw 22 = .ok (.aload_n 1, 1) := by decide +kernel
theorem dX9_readLaw_23 : decode cX9_readLaw 23 = .ok (.getfield 44, 3) := by decide +kernel
theorem dX9_readLaw_26 : decode cX9_readLaw 26 = .ok (.bipush 7, 2) := by decide +kernel
theorem dX9_readLaw_28 : decode cX9_readLaw 28 = .ok (.if_icmp .ne 14, 3) := by decide +kernel
theorem dX9_readLaw_31 : decode cX9_readLaw 31 = .ok (.aload_n 0, 1) := by decide +kernel
theorem dX9_readLaw_32 : decode cX9_readLaw 32 = .ok (.getfield 12, 3) := by decide +kernel
theorem dX9_readLaw_35 : decode cX9_readLaw 35 = .ok (.iconst 0, 1) := by decide +kernel
theorem dX9_readLaw_36 : decode cX9_readLaw 36 = .ok (.putfield 132, 3) := by decide +kernel
theorem dX9_readLaw_39 : decode cX9_readLaw 39 = .ok (.goto 49, 3) := by decide +kernel
theorem dX9_readLaw_42 : decode cX9_readLaw 42 = .ok (.aload_n 1, 1) := by decide +kernel
theorem dX9_readLaw_43 : decode cX9_readLaw 43 = .ok (.getfield 44, 3) := by decide +kernel
theorem dX9_readLaw_46 : decode cX9_readLaw 46 = .ok (.bipush 8, 2) := by decide +kernel
theorem dX9_readLaw_48 : decode cX9_readLaw 48 = .ok (.if_icmp .ne 14, 3) := by decide +kernel
theorem dX9_readLaw_51 : decode cX9_readLaw 51 = .ok (.aload_n 0, 1) := by decide +kernel
theorem dX9_readLaw_52 : decode cX9_readLaw 52 = .ok (.getfield 12, 3) := by decide +kernel
theorem dX9_readLaw_55 : decode cX9_readLaw 55 = .ok (.iconst 1, 1) := by decide +kernel
theorem dX9_readLaw_56 : decode cX9_readLaw 56 = .ok (.putfield 132, 3) := by decide +kernel
theorem dX9_readLaw_59 : decode cX9_readLaw 59 = .ok (.goto 29, 3) := by decide +kernel
theorem dX9_readLaw_62 : decode cX9_readLaw 62 = .ok (.aload_n 1, 1) := by decide +kernel
theorem dX9_readLaw_63 : decode cX9_readLaw 63 = .ok (.getfield 44, 3) := by decide +kernel
theorem dX9_readLaw_66 : decode cX9_readLaw 66 = .ok (.bipush 9, 2) := by decide +kernel
theorem dX9_readLaw_68 : decode cX9_readLaw 68 = .ok (.if_icmp .ne 14, 3) := by decide +kernel
theorem dX9_readLaw_71 : decode cX9_readLaw 71 = .ok (.aload_n 0, 1) := by decide +kernel
theorem dX9_readLaw_72 : decode cX9_readLaw 72 = .ok (.getfield 12, 3) := by decide +kernel
theorem dX9_readLaw_75 : decode cX9_readLaw 75 = .ok (.iconst 2, 1) := by decide +kernel
theorem dX9_readLaw_76 : decode cX9_readLaw 76 = .ok (.putfield 132, 3) := by decide +kernel
theorem dX9_readLaw_79 : decode cX9_readLaw 79 = .ok (.goto 9, 3) := by decide +kernel
theorem dX9_readLaw_82 : decode cX9_readLaw 82 = .ok (.aload_n 1, 1) := by decide +kernel
theorem dX9_readLaw_83 : decode cX9_readLaw 83 = .ok (.iconst 1, 1) := by decide +kernel
theorem dX9_readLaw_84 : decode cX9_readLaw 84 = .ok (.invokevirtual 67, 3) := by decide +kernel
theorem dX9_readLaw_87 : decode cX9_readLaw 87 = .ok (.ireturn, 1) := by decide +kernel
theorem dX9_readLaw_88 : decode cX9_readLaw 88 = .ok (.aload_n 1, 1) := by decide +kernel
theorem dX9_readLaw_89 : decode cX9_readLaw 89 = .ok (.invokevirtual 82, 3) := by decide +kernel
theorem dX9_readLaw_92 : decode cX9_readLaw 92 = .ok (.aload_n 1, 1) := by decide +kernel
theorem dX9_readLaw_93 : decode cX9_readLaw 93 = .ok (.bipush 59, 2) := by decide +kernel
theorem dX9_readLaw_95 : decode cX9_readLaw 95 = .ok (.invokevirtual 110, 3) := by decide +kernel
theorem dX9_readLaw_98 : decode cX9_readLaw 98 = .ok (.ireturn, 1) := by decide +kernel
theorem rc_2 : Rg 2 2 2 := ⟨by decide, by decide⟩
theorem rc_3 : Rg 3 3 3 := ⟨by decide, by decide⟩
theorem rc_4 : Rg 4 4 4 := ⟨by decide, by decide⟩
theorem rc_6 : Rg 6 6 6 := ⟨by decide, by decide⟩
theorem rc_7 : Rg 7 7 7 := ⟨by decide, by decide⟩
theorem rc_8 : Rg 8 8 8 := ⟨by decide, by decide⟩
theorem rc_9 : Rg 9 9 9 := ⟨by decide, by decide⟩
theorem rc_10 : Rg 10 10 10 := ⟨by decide, by decide⟩
theorem rc_32 : Rg 32 32 32 := ⟨by decide, by decide⟩
theorem rc_42 : Rg 42 42 42 := ⟨by decide, by decide⟩
theorem rc_99 : Rg 99 99 99 := ⟨by decide, by decide⟩
theorem rc_101 : Rg 101 101 101 := ⟨by decide, by decide⟩
theorem rc_102 : Rg 102 102 102 := ⟨by decide, by decide⟩
theorem rc_103 : Rg 103 103 103 := ⟨by decide, by decide⟩
set_option maxRecDepth 100000 in
set_option maxHeartbeats 8000000 in
theorem c_X10_readToken {l : Launch} {D : va_G} {cy : Nat → ClassId} {L : List Nat} {κ ln : Nat → Nat} {R : Nat → Nat → Option Nat} {I : Nat → Nat → Int32} {J : Nat → Nat → Int64} {ow : Nat → Nat × Nat} (W9 : ∀ a ∈ L, Shp L κ ln R ow a) {x : Nat} (hLx : x ∈ L) (hkx : κ x = 10) (a0 : Int32) (ra0 : Rg 0 899 a0) (hU : Iv L κ R ow I) : CtI l yX10_readToken cX10_readToken 8 (some .int) { frames := 1, cells := 0, slots := 0, locals := 24 } D cy L κ ln R I J [.ref x, .int a0] (fun r I2 J2 => Iv L κ R ow I2 ∧ Fq L κ ow [1006, 70200, 70300] I I2 ∧ Fq L κ ow [70400] J J2 ∧ Rg 0 940 r) := by
  refine CtI.of (by decide +kernel) (Nat.le_of_ble_eq_true rfl) ?_
  intro p e s m below meth c B K
  have C := B.1
  have hF : Fq L κ ow [1006, 70200, 70300] I I := fq_rf
  have hG : Fq L κ ow [70400] J J := fq_rf
  obtain ⟨b_473108, hb_473108, hb_473108L, hb_473108k, hb_473108n, hb_473108o⟩ := shp_a (W9 x hLx) hkx 0 13 940 rfl (by decide)
  refine g_lo (is := [0, 1]) (lo2 := [(0, .ref x), (1, .int a0)]) rfl ?_
  have j_205 : ∀ (I_473109 : Nat → Nat → Int32) (J_473110 : Nat → Nat → Int64) (hU_473111 : Iv L κ R ow I_473109) (hF_473112 : Fq L κ ow [1006, 70200, 70300] I I_473109) (hG_473113 : Fq L κ ow [70400] J J_473110) (v_473114 : Int32) (rv_473114 : Rg 0 899 v_473114) (v_473115 : Int32) (v_473116 : Int32) (y_473117 : Int64) (v_473118 : Int32) (v_473119 : Int32) (rv_473119 : Rg 0 940 v_473119) (v_473120 : Int32) (rv_473120 : Rg 0 940 v_473120) (q_473121 : I_473109 x 5 = v_473120), WG p l e { frames := 1, cells := 0, slots := 0, locals := 24 } s m ([.ref x, .int a0] : List Value).toArray below meth c 8 0 0 (MQ below (Qi_ D cy L κ ln R (fun r I2 J2 => Iv L κ R ow I2 ∧ Fq L κ ow [1006, 70200, 70300] I I2 ∧ Fq L κ ow [70400] J J2 ∧ Rg 0 940 r)) ([.ref x, .int a0] : List Value).toArray s 0 0 (Al_ L)) D cy (Al_ L) s.heap L κ ln R I_473109 J_473110 205 [(0, .ref x), (1, .int v_473114), (2, .int v_473115), (3, .int v_473116), (4, .long y_473117), (6, .int v_473118), (7, .int v_473119)] [] := by
    intro I_473109 J_473110 hU_473111 hF_473112 hG_473113 v_473114 rv_473114 v_473115 v_473116 y_473117 v_473118 v_473119 rv_473119 v_473120 rv_473120 q_473121
    refine g_aload_n C 0 dX10_readToken_205 rfl rfl ?_
    refine g_bipush C (v := 103) dX10_readToken_206 (by decide) ?_
    refine g_iload_n C 1 dX10_readToken_208 rfl rfl ?_
    refine g_lconst C (v := 0) dX10_readToken_209 (by decide) ?_
    refine g_callVV C K (c_X10_addToken W9 hLx hkx 103 v_473114 0 (rg_w rc_103 (by decide) (by decide)) (rg_w rv_473114 (by decide) (by decide)) hU_473111) hLx hkx (by decide) rfl v_10_80 rfl ⟨rfl, rfl⟩ ⟨Nat.le_of_ble_eq_true rfl, Nat.le_of_ble_eq_true rfl⟩ (Nat.le_of_ble_eq_true rfl) ⟨Nat.le_of_ble_eq_true rfl, Nat.le_of_ble_eq_true rfl⟩ dX10_readToken_210 rfl (st := []) (fun I_473123 J_473124 h_473125 => ?_)
    obtain ⟨hUI_473123, hFI_473123, hGJ_473124⟩ := h_473125
    have hF_473126 := fq_tr hF_473112 hFI_473123 (by decide)
    have hG_473127 := fq_tr hG_473113 hGJ_473124 (by decide)
    refine g_iload C 6 dX10_readToken_213 rfl ?_
    exact g_zret (ty := .int) (r := v_473119) B K rfl (rfl) ⟨hUI_473123, hF_473126, hG_473127, rv_473119⟩ dX10_readToken_215
  have j_183 : ∀ (I_473128 : Nat → Nat → Int32) (J_473129 : Nat → Nat → Int64) (hU_473130 : Iv L κ R ow I_473128) (hF_473131 : Fq L κ ow [1006, 70200, 70300] I I_473128) (hG_473132 : Fq L κ ow [70400] J J_473129) (v_473133 : Int32) (rv_473133 : Rg 0 899 v_473133) (v_473134 : Int32) (v_473135 : Int32) (y_473136 : Int64) (v_473137 : Int32) (v_473138 : Int32) (rv_473138 : Rg 0 940 v_473138) (v_473139 : Int32) (rv_473139 : Rg 0 940 v_473139) (q_473140 : I_473128 x 5 = v_473139), WG p l e { frames := 1, cells := 0, slots := 0, locals := 24 } s m ([.ref x, .int a0] : List Value).toArray below meth c 8 0 0 (MQ below (Qi_ D cy L κ ln R (fun r I2 J2 => Iv L κ R ow I2 ∧ Fq L κ ow [1006, 70200, 70300] I I2 ∧ Fq L κ ow [70400] J J2 ∧ Rg 0 940 r)) ([.ref x, .int a0] : List Value).toArray s 0 0 (Al_ L)) D cy (Al_ L) s.heap L κ ln R I_473128 J_473129 183 [(0, .ref x), (1, .int v_473133), (2, .int v_473134), (3, .int v_473135), (4, .long y_473136), (6, .int v_473137), (7, .int v_473138)] [] := by
    intro I_473128 J_473129 hU_473130 hF_473131 hG_473132 v_473133 rv_473133 v_473134 v_473135 y_473136 v_473137 v_473138 rv_473138 v_473139 rv_473139 q_473140
    refine g_iload_n C 2 dX10_readToken_183 rfl rfl ?_
    refine g_if_ne C (tgt := 205) dX10_readToken_184 (by decide) (fun h_473141 => ?_) (fun h_473141 => ?_)
    · skip
      have n_473142 : ¬ v_473134 = 0 := h_473141
      refine g_lo (is := [0, 1, 2, 3, 4, 5, 6]) (lo2 := [(0, .ref x), (1, .int v_473133), (2, .int v_473134), (3, .int v_473135), (4, .long y_473136), (6, .int v_473137), (7, .int v_473138)]) rfl ?_
      exact j_205 I_473128 J_473129 hU_473130 hF_473131 hG_473132 v_473133 (rv_473133) v_473134 v_473135 y_473136 v_473137 v_473138 (rv_473138) v_473139 (rv_473139) q_473140
    · skip
      have r_473143 := (⟨(eq_rg (h_473141) rc_0).1, (eq_rg (h_473141) rc_0).2⟩ : Rg 0 0 v_473134)
      refine g_iload_n C 3 dX10_readToken_187 rfl rfl ?_
      refine g_iconst C (v := 3) dX10_readToken_188 (by decide) ?_
      refine g_icmp_gt C (tgt := 205) dX10_readToken_189 (by decide) (fun h_473144 => ?_) (fun h_473144 => ?_)
      · skip
        have r_473145 := lt_r (lo := 4) (h_473144) rc_3 (rg_all v_473135) (by decide)
        refine g_lo (is := [0, 1, 2, 3, 4, 5, 6]) (lo2 := [(0, .ref x), (1, .int v_473133), (2, .int v_473134), (3, .int v_473135), (4, .long y_473136), (6, .int v_473137), (7, .int v_473138)]) rfl ?_
        exact j_205 I_473128 J_473129 hU_473130 hF_473131 hG_473132 v_473133 (rv_473133) v_473134 v_473135 y_473136 v_473137 v_473138 (rv_473138) v_473139 (rv_473139) q_473140
      · skip
        have r_473146 := le_l (nlt h_473144) (rg_all v_473135) rc_3
        refine g_aload_n C 0 dX10_readToken_192 rfl rfl ?_
        refine g_bipush C (v := 101) dX10_readToken_193 (by decide) ?_
        refine g_iload_n C 1 dX10_readToken_195 rfl rfl ?_
        refine g_iload C 5 dX10_readToken_196 rfl ?_
        obtain ⟨y_473147, hy_473147⟩ : ∃ z, Int32.toInt64 v_473137 = z := ⟨_, rfl⟩
        refine g_i2l C (v := y_473147) dX10_readToken_198 hy_473147 ?_
        refine g_callVV C K (c_X10_addToken W9 hLx hkx 101 v_473133 y_473147 (rg_w rc_101 (by decide) (by decide)) (rg_w rv_473133 (by decide) (by decide)) hU_473130) hLx hkx (by decide) rfl v_10_80 rfl ⟨rfl, rfl⟩ ⟨Nat.le_of_ble_eq_true rfl, Nat.le_of_ble_eq_true rfl⟩ (Nat.le_of_ble_eq_true rfl) ⟨Nat.le_of_ble_eq_true rfl, Nat.le_of_ble_eq_true rfl⟩ dX10_readToken_199 rfl (st := []) (fun I_473149 J_473150 h_473151 => ?_)
        obtain ⟨hUI_473149, hFI_473149, hGJ_473150⟩ := h_473151
        have hF_473152 := fq_tr hF_473131 hFI_473149 (by decide)
        have hG_473153 := fq_tr hG_473132 hGJ_473150 (by decide)
        refine g_goto C (tgt := 213) dX10_readToken_202 (by decide) ?_
        refine g_iload C 6 dX10_readToken_213 rfl ?_
        exact g_zret (ty := .int) (r := v_473138) B K rfl (rfl) ⟨hUI_473149, hF_473152, hG_473153, rv_473138⟩ dX10_readToken_215
  have j_118 : ∀ (I_473154 : Nat → Nat → Int32) (J_473155 : Nat → Nat → Int64) (hU_473156 : Iv L κ R ow I_473154) (hF_473157 : Fq L κ ow [1006, 70200, 70300] I I_473154) (hG_473158 : Fq L κ ow [70400] J J_473155) (v_473159 : Int32) (rv_473159 : Rg 0 899 v_473159) (v_473160 : Int32) (v_473161 : Int32) (y_473162 : Int64) (v_473163 : Int32) (v_473164 : Int32) (rv_473164 : Rg 0 940 v_473164) (v_473165 : Int32) (rv_473165 : Rg 0 940 v_473165) (q_473166 : I_473154 x 5 = v_473165), WG p l e { frames := 1, cells := 0, slots := 0, locals := 24 } s m ([.ref x, .int a0] : List Value).toArray below meth c 8 0 0 (MQ below (Qi_ D cy L κ ln R (fun r I2 J2 => Iv L κ R ow I2 ∧ Fq L κ ow [1006, 70200, 70300] I I2 ∧ Fq L κ ow [70400] J J2 ∧ Rg 0 940 r)) ([.ref x, .int a0] : List Value).toArray s 0 0 (Al_ L)) D cy (Al_ L) s.heap L κ ln R I_473154 J_473155 118 [(0, .ref x), (1, .int v_473159), (2, .int v_473160), (3, .int v_473161), (4, .long y_473162), (6, .int v_473163), (7, .int v_473164)] [] := by
    intro I_473154 J_473155 hU_473156 hF_473157 hG_473158 v_473159 rv_473159 v_473160 v_473161 y_473162 v_473163 v_473164 rv_473164 v_473165 rv_473165 q_473166
    refine g_iload C 6 dX10_readToken_118 rfl ?_
    refine g_iload_n C 1 dX10_readToken_120 rfl rfl ?_
    refine g_icmp_ne C (tgt := 157) dX10_readToken_121 (by decide) (fun h_473167 => ?_) (fun h_473167 => ?_)
    · skip
      refine g_iload_n C 3 dX10_readToken_157 rfl rfl ?_
      refine g_if_ne C (tgt := 183) dX10_readToken_158 (by decide) (fun h_473168 => ?_) (fun h_473168 => ?_)
      · skip
        have n_473169 : ¬ v_473161 = 0 := h_473168
        refine g_lo (is := [0, 1, 2, 3, 4, 5, 6]) (lo2 := [(0, .ref x), (1, .int v_473159), (2, .int v_473160), (3, .int v_473161), (4, .long y_473162), (6, .int v_473163), (7, .int v_473164)]) rfl ?_
        exact j_183 I_473154 J_473155 hU_473156 hF_473157 hG_473158 v_473159 (rv_473159) v_473160 v_473161 y_473162 v_473163 v_473164 (rv_473164) v_473165 (rv_473165) q_473166
      · skip
        have r_473170 := (⟨(eq_rg (h_473168) rc_0).1, (eq_rg (h_473168) rc_0).2⟩ : Rg 0 0 v_473161)
        refine g_iload_n C 2 dX10_readToken_161 rfl rfl ?_
        refine g_bipush C (v := 7) dX10_readToken_162 (by decide) ?_
        refine g_icmp_gt C (tgt := 183) dX10_readToken_164 (by decide) (fun h_473171 => ?_) (fun h_473171 => ?_)
        · skip
          have r_473172 := lt_r (lo := 8) (h_473171) rc_7 (rg_all v_473160) (by decide)
          refine g_lo (is := [0, 1, 2, 3, 4, 5, 6]) (lo2 := [(0, .ref x), (1, .int v_473159), (2, .int v_473160), (3, .int v_473161), (4, .long y_473162), (6, .int v_473163), (7, .int v_473164)]) rfl ?_
          exact j_183 I_473154 J_473155 hU_473156 hF_473157 hG_473158 v_473159 (rv_473159) v_473160 v_473161 y_473162 v_473163 v_473164 (rv_473164) v_473165 (rv_473165) q_473166
        · skip
          have r_473173 := le_l (nlt h_473171) (rg_all v_473160) rc_7
          refine g_aload_n C 0 dX10_readToken_167 rfl rfl ?_
          refine g_aload_n C 0 dX10_readToken_168 rfl rfl ?_
          refine g_lload C 4 dX10_readToken_169 rfl ?_
          refine g_callVI C K (c_X10_tokenOfWord W9 hLx hkx y_473162  hU_473156) hLx hkx (by decide) rfl v_10_97 rfl ⟨rfl, rfl⟩ ⟨Nat.le_of_ble_eq_true rfl, Nat.le_of_ble_eq_true rfl⟩ (Nat.le_of_ble_eq_true rfl) ⟨Nat.le_of_ble_eq_true rfl, Nat.le_of_ble_eq_true rfl⟩ dX10_readToken_171 rfl (st := [.ref x]) (fun x_473174 I_473175 J_473176 h_473177 => ?_)
          obtain ⟨rfl, rfl, rx_473174⟩ := h_473177
          refine g_iload_n C 1 dX10_readToken_174 rfl rfl ?_
          refine g_lload C 4 dX10_readToken_175 rfl ?_
          refine g_callVV C K (c_X10_addToken W9 hLx hkx x_473174 v_473159 y_473162 (rg_w rx_473174 (by decide) (by decide)) (rg_w rv_473159 (by decide) (by decide)) hU_473156) hLx hkx (by decide) rfl v_10_80 rfl ⟨rfl, rfl⟩ ⟨Nat.le_of_ble_eq_true rfl, Nat.le_of_ble_eq_true rfl⟩ (Nat.le_of_ble_eq_true rfl) ⟨Nat.le_of_ble_eq_true rfl, Nat.le_of_ble_eq_true rfl⟩ dX10_readToken_177 rfl (st := []) (fun I_473179 J_473180 h_473181 => ?_)
          obtain ⟨hUI_473179, hFI_473179, hGJ_473180⟩ := h_473181
          have hF_473182 := fq_tr hF_473157 hFI_473179 (by decide)
          have hG_473183 := fq_tr hG_473158 hGJ_473180 (by decide)
          refine g_goto C (tgt := 213) dX10_readToken_180 (by decide) ?_
          refine g_iload C 6 dX10_readToken_213 rfl ?_
          exact g_zret (ty := .int) (r := v_473164) B K rfl (rfl) ⟨hUI_473179, hF_473182, hG_473183, rv_473164⟩ dX10_readToken_215
    · skip
      have r_473184 := (⟨(rv_473164).1, (eq_rg (h_473167) rv_473159).2⟩ : Rg 0 899 v_473164)
      refine g_aload_n C 0 dX10_readToken_124 rfl rfl ?_
      refine g_aload_n C 0 dX10_readToken_125 rfl rfl ?_
      refine g_getR C K hLx hkx f_10_9 hb_473108 dX10_readToken_126 ?_
      refine g_iload_n C 1 dX10_readToken_129 rfl rfl ?_
      obtain ⟨x_473185, hx_473185, rx_473185⟩ := ex_get (I := I_473154) (a := b_473108) (j := v_473159.toNatClampNeg) (lo := (-128)) (hi := 127) hU_473156.1 hb_473108L (ro_a hb_473108k (by decide) hb_473108o hkx rfl) (rfl)
      refine h_bald C K hb_473108L hb_473108k (v := x_473185) (v_473159.toNatClampNeg) (rfl) (ix_0 rv_473159 (by decide)) (ix_lt rv_473159 (by decide) hb_473108n (by decide)) hx_473185 dX10_readToken_130 ?_
      refine g_callSI C K (c_X10_isSign W9 x_473185 (rx_473185) hU_473156) s_10_94 rfl ⟨rfl, rfl⟩ ⟨Nat.le_of_ble_eq_true rfl, Nat.le_of_ble_eq_true rfl⟩ (Nat.le_of_ble_eq_true rfl) ⟨Nat.le_of_ble_eq_true rfl, Nat.le_of_ble_eq_true rfl⟩ dX10_readToken_131 rfl (st := [.ref x]) (fun x_473186 I_473187 J_473188 h_473189 => ?_)
      obtain ⟨rfl, rfl, rx_473186⟩ := h_473189
      refine g_if_eq C (tgt := 146) dX10_readToken_134 (by decide) (fun h_473190 => ?_) (fun h_473190 => ?_)
      · skip
        have r_473191 := (⟨(rx_473186).1, (eq_rg (h_473190) rc_0).2⟩ : Rg 0 0 x_473186)
        refine g_bipush C (v := 103) dX10_readToken_146 (by decide) ?_
        refine g_iload_n C 1 dX10_readToken_148 rfl rfl ?_
        refine g_lconst C (v := 0) dX10_readToken_149 (by decide) ?_
        refine g_callVV C K (c_X10_addToken W9 hLx hkx 103 v_473159 0 (rg_w rc_103 (by decide) (by decide)) (rg_w rv_473159 (by decide) (by decide)) hU_473156) hLx hkx (by decide) rfl v_10_80 rfl ⟨rfl, rfl⟩ ⟨Nat.le_of_ble_eq_true rfl, Nat.le_of_ble_eq_true rfl⟩ (Nat.le_of_ble_eq_true rfl) ⟨Nat.le_of_ble_eq_true rfl, Nat.le_of_ble_eq_true rfl⟩ dX10_readToken_150 rfl (st := []) (fun I_473193 J_473194 h_473195 => ?_)
        obtain ⟨hUI_473193, hFI_473193, hGJ_473194⟩ := h_473195
        have hF_473196 := fq_tr hF_473157 hFI_473193 (by decide)
        have hG_473197 := fq_tr hG_473158 hGJ_473194 (by decide)
        refine g_iload_n C 1 dX10_readToken_153 rfl rfl ?_
        refine g_iconst C (v := 1) dX10_readToken_154 (by decide) ?_
        obtain ⟨x_473198, hx_473198, rx_473198, tx_473198⟩ := ex_add 1 900 rv_473159 rc_1 (by decide) (by decide) (by decide) (by decide)
        refine g_iadd C (v := x_473198) dX10_readToken_155 hx_473198 ?_
        exact g_zret (ty := .int) (r := x_473198) B K rfl (rfl) ⟨hUI_473193, hF_473196, hG_473197, rg_w rx_473198 (by decide) (by decide)⟩ dX10_readToken_156
      · skip
        have n_473199 : ¬ x_473186 = 0 := h_473190
        have r_473200 := ne_lo (lo := 1) n_473199 rx_473186 rc_0 rfl (by decide)
        refine g_aload_n C 0 dX10_readToken_137 rfl rfl ?_
        refine g_getR C K hLx hkx f_10_9 hb_473108 dX10_readToken_138 ?_
        refine g_iload_n C 1 dX10_readToken_141 rfl rfl ?_
        obtain ⟨x_473201, hx_473201, rx_473201⟩ := ex_get (I := I_473154) (a := b_473108) (j := v_473159.toNatClampNeg) (lo := (-128)) (hi := 127) hU_473156.1 hb_473108L (ro_a hb_473108k (by decide) hb_473108o hkx rfl) (rfl)
        refine h_bald C K hb_473108L hb_473108k (v := x_473201) (v_473159.toNatClampNeg) (rfl) (ix_0 rv_473159 (by decide)) (ix_lt rv_473159 (by decide) hb_473108n (by decide)) hx_473201 dX10_readToken_142 ?_
        refine g_goto C (tgt := 148) dX10_readToken_143 (by decide) ?_
        refine g_iload_n C 1 dX10_readToken_148 rfl rfl ?_
        refine g_lconst C (v := 0) dX10_readToken_149 (by decide) ?_
        refine g_callVV C K (c_X10_addToken W9 hLx hkx x_473201 v_473159 0 (rx_473201) (rg_w rv_473159 (by decide) (by decide)) hU_473156) hLx hkx (by decide) rfl v_10_80 rfl ⟨rfl, rfl⟩ ⟨Nat.le_of_ble_eq_true rfl, Nat.le_of_ble_eq_true rfl⟩ (Nat.le_of_ble_eq_true rfl) ⟨Nat.le_of_ble_eq_true rfl, Nat.le_of_ble_eq_true rfl⟩ dX10_readToken_150 rfl (st := []) (fun I_473203 J_473204 h_473205 => ?_)
        obtain ⟨hUI_473203, hFI_473203, hGJ_473204⟩ := h_473205
        have hF_473206 := fq_tr hF_473157 hFI_473203 (by decide)
        have hG_473207 := fq_tr hG_473158 hGJ_473204 (by decide)
        refine g_iload_n C 1 dX10_readToken_153 rfl rfl ?_
        refine g_iconst C (v := 1) dX10_readToken_154 (by decide) ?_
        obtain ⟨x_473208, hx_473208, rx_473208, tx_473208⟩ := ex_add 1 900 rv_473159 rc_1 (by decide) (by decide) (by decide) (by decide)
        refine g_iadd C (v := x_473208) dX10_readToken_155 hx_473208 ?_
        exact g_zret (ty := .int) (r := x_473208) B K rfl (rfl) ⟨hUI_473203, hF_473206, hG_473207, rg_w rx_473208 (by decide) (by decide)⟩ dX10_readToken_156
  have l_13 : ∀ (n_13 : Nat) (I_473209 : Nat → Nat → Int32) (J_473210 : Nat → Nat → Int64) (hU_473211 : Iv L κ R ow I_473209) (hF_473212 : Fq L κ ow [1006, 70200, 70300] I I_473209) (hG_473213 : Fq L κ ow [70400] J J_473210) (v_473214 : Int32) (rv_473214 : Rg 0 899 v_473214) (v_473215 : Int32) (v_473216 : Int32) (y_473217 : Int64) (v_473218 : Int32) (v_473219 : Int32) (rv_473219 : Rg 0 940 v_473219) (hm_473220 : 940 < (v_473219 : Int32).toInt + (n_13 : Int)), WG p l e { frames := 1, cells := 0, slots := 0, locals := 24 } s m ([.ref x, .int a0] : List Value).toArray below meth c 8 0 0 (MQ below (Qi_ D cy L κ ln R (fun r I2 J2 => Iv L κ R ow I2 ∧ Fq L κ ow [1006, 70200, 70300] I I2 ∧ Fq L κ ow [70400] J J2 ∧ Rg 0 940 r)) ([.ref x, .int a0] : List Value).toArray s 0 0 (Al_ L)) D cy (Al_ L) s.heap L κ ln R I_473209 J_473210 13 [(0, .ref x), (1, .int v_473214), (2, .int v_473215), (3, .int v_473216), (4, .long y_473217), (6, .int v_473218), (7, .int v_473219)] [] := by
    intro n_13
    induction n_13 with
    | zero =>
      intro I_473209 J_473210 hU_473211 hF_473212 hG_473213 v_473214 rv_473214 v_473215 v_473216 y_473217 v_473218 v_473219 rv_473219 hm_473220
      exact ms_0 rv_473219 hm_473220
    | succ n_13 ih_13 =>
      intro I_473209 J_473210 hU_473211 hF_473212 hG_473213 v_473214 rv_473214 v_473215 v_473216 y_473217 v_473218 v_473219 rv_473219 hm_473220
      have j_112 : ∀ (I_473221 : Nat → Nat → Int32) (J_473222 : Nat → Nat → Int64) (hU_473223 : Iv L κ R ow I_473221) (hF_473224 : Fq L κ ow [1006, 70200, 70300] I I_473221) (hG_473225 : Fq L κ ow [70400] J J_473222) (v_473226 : Int32) (rv_473226 : Rg 0 899 v_473226) (v_473227 : Int32) (v_473228 : Int32) (y_473229 : Int64) (v_473230 : Int32) (v_473231 : Int32) (rv_473231 : Rg 0 939 v_473231) (v_473232 : Int32) (rv_473232 : Rg 1 940 v_473232) (q_473233 : I_473221 x 5 = v_473232) (hm_473234 : 940 < (v_473231 : Int32).toInt + ((n_13 + 1 : Nat) : Int)), WG p l e { frames := 1, cells := 0, slots := 0, locals := 24 } s m ([.ref x, .int a0] : List Value).toArray below meth c 8 0 0 (MQ below (Qi_ D cy L κ ln R (fun r I2 J2 => Iv L κ R ow I2 ∧ Fq L κ ow [1006, 70200, 70300] I I2 ∧ Fq L κ ow [70400] J J2 ∧ Rg 0 940 r)) ([.ref x, .int a0] : List Value).toArray s 0 0 (Al_ L)) D cy (Al_ L) s.heap L κ ln R I_473221 J_473222 112 [(0, .ref x), (1, .int v_473226), (2, .int v_473227), (3, .int v_473228), (4, .long y_473229), (6, .int v_473230), (7, .int v_473231)] [] := by
        intro I_473221 J_473222 hU_473223 hF_473224 hG_473225 v_473226 rv_473226 v_473227 v_473228 y_473229 v_473230 v_473231 rv_473231 v_473232 rv_473232 q_473233 hm_473234
        obtain ⟨x_473235, hx_473235, rx_473235, tx_473235⟩ := ex_add (y := 1) 1 940 rv_473231 rc_1 (by decide) (by decide) (by decide) (by decide)
        refine g_iinc C dX10_readToken_112 (k := 6) (v := x_473235) rfl hx_473235 (by decide) (lo2 := [(7, .int x_473235), (0, .ref x), (1, .int v_473226), (2, .int v_473227), (3, .int v_473228), (4, .long y_473229), (6, .int v_473230)]) rfl ?_
        refine g_goto C (tgt := 13) dX10_readToken_115 (by decide) ?_
        refine g_lo (is := [1, 2, 3, 4, 5, 6, 0]) (lo2 := [(0, .ref x), (1, .int v_473226), (2, .int v_473227), (3, .int v_473228), (4, .long y_473229), (6, .int v_473230), (7, .int x_473235)]) rfl ?_
        exact ih_13 I_473221 J_473222 hU_473223 hF_473224 hG_473225 v_473226 (rv_473226) v_473227 v_473228 y_473229 v_473230 x_473235 (rg_w rx_473235 (by decide) (by decide)) (ms_1 hm_473234 (ti_k tx_473235 rc_1) (by decide))
      have j_58 : ∀ (I_473236 : Nat → Nat → Int32) (J_473237 : Nat → Nat → Int64) (hU_473238 : Iv L κ R ow I_473236) (hF_473239 : Fq L κ ow [1006, 70200, 70300] I I_473236) (hG_473240 : Fq L κ ow [70400] J J_473237) (v_473241 : Int32) (rv_473241 : Rg 0 899 v_473241) (v_473242 : Int32) (v_473243 : Int32) (y_473244 : Int64) (v_473245 : Int32) (v_473246 : Int32) (rv_473246 : Rg 0 939 v_473246) (v_473247 : Int32) (rv_473247 : Rg 1 940 v_473247) (q_473248 : I_473236 x 5 = v_473247) (hm_473249 : 940 < (v_473246 : Int32).toInt + ((n_13 + 1 : Nat) : Int)), WG p l e { frames := 1, cells := 0, slots := 0, locals := 24 } s m ([.ref x, .int a0] : List Value).toArray below meth c 8 0 0 (MQ below (Qi_ D cy L κ ln R (fun r I2 J2 => Iv L κ R ow I2 ∧ Fq L κ ow [1006, 70200, 70300] I I2 ∧ Fq L κ ow [70400] J J2 ∧ Rg 0 940 r)) ([.ref x, .int a0] : List Value).toArray s 0 0 (Al_ L)) D cy (Al_ L) s.heap L κ ln R I_473236 J_473237 58 [(0, .ref x), (1, .int v_473241), (2, .int v_473242), (3, .int v_473243), (4, .long y_473244), (6, .int v_473245), (7, .int v_473246)] [] := by
        intro I_473236 J_473237 hU_473238 hF_473239 hG_473240 v_473241 rv_473241 v_473242 v_473243 y_473244 v_473245 v_473246 rv_473246 v_473247 rv_473247 q_473248 hm_473249
        refine g_aload_n C 0 dX10_readToken_58 rfl rfl ?_
        refine g_getR C K hLx hkx f_10_9 hb_473108 dX10_readToken_59 ?_
        refine g_iload C 6 dX10_readToken_62 rfl ?_
        obtain ⟨x_473250, hx_473250, rx_473250⟩ := ex_get (I := I_473236) (a := b_473108) (j := v_473246.toNatClampNeg) (lo := (-128)) (hi := 127) hU_473238.1 hb_473108L (ro_a hb_473108k (by decide) hb_473108o hkx rfl) (rfl)
        refine h_bald C K hb_473108L hb_473108k (v := x_473250) (v_473246.toNatClampNeg) (rfl) (ix_0 rv_473246 (by decide)) (ix_lt rv_473246 (by decide) hb_473108n (by decide)) hx_473250 dX10_readToken_64 ?_
        refine g_callSI C K (c_X10_isLetter W9 x_473250 (rx_473250) hU_473238) s_10_87 rfl ⟨rfl, rfl⟩ ⟨Nat.le_of_ble_eq_true rfl, Nat.le_of_ble_eq_true rfl⟩ (Nat.le_of_ble_eq_true rfl) ⟨Nat.le_of_ble_eq_true rfl, Nat.le_of_ble_eq_true rfl⟩ dX10_readToken_65 rfl (st := []) (fun x_473251 I_473252 J_473253 h_473254 => ?_)
        obtain ⟨rfl, rfl, rx_473251⟩ := h_473254
        refine g_if_eq C (tgt := 91) dX10_readToken_68 (by decide) (fun h_473255 => ?_) (fun h_473255 => ?_)
        · skip
          have r_473256 := (⟨(rx_473251).1, (eq_rg (h_473255) rc_0).2⟩ : Rg 0 0 x_473251)
          refine g_iload C 5 dX10_readToken_91 rfl ?_
          refine g_bipush C (v := 10) dX10_readToken_93 (by decide) ?_
          obtain ⟨x_473257, hx_473257, rx_473257⟩ := ex_any (z0 := v_473245 * 10)
          refine g_imul C (v := x_473257) dX10_readToken_95 hx_473257 ?_
          refine g_aload_n C 0 dX10_readToken_96 rfl rfl ?_
          refine g_getR C K hLx hkx f_10_9 hb_473108 dX10_readToken_97 ?_
          refine g_iload C 6 dX10_readToken_100 rfl ?_
          obtain ⟨x_473258, hx_473258, rx_473258⟩ := ex_get (I := I_473236) (a := b_473108) (j := v_473246.toNatClampNeg) (lo := (-128)) (hi := 127) hU_473238.1 hb_473108L (ro_a hb_473108k (by decide) hb_473108o hkx rfl) (rfl)
          refine h_bald C K hb_473108L hb_473108k (v := x_473258) (v_473246.toNatClampNeg) (rfl) (ix_0 rv_473246 (by decide)) (ix_lt rv_473246 (by decide) hb_473108n (by decide)) hx_473258 dX10_readToken_102 ?_
          obtain ⟨x_473259, hx_473259, rx_473259⟩ := ex_any (z0 := x_473257 + x_473258)
          refine g_iadd C (v := x_473259) dX10_readToken_103 hx_473259 ?_
          refine g_bipush C (v := 48) dX10_readToken_104 (by decide) ?_
          obtain ⟨x_473260, hx_473260, rx_473260⟩ := ex_any (z0 := x_473259 - 48)
          refine g_isub C (v := x_473260) dX10_readToken_106 hx_473260 ?_
          refine g_istore C dX10_readToken_107 (by decide) (lo2 := [(6, .int x_473260), (0, .ref x), (1, .int v_473241), (2, .int v_473242), (3, .int v_473243), (4, .long y_473244), (7, .int v_473246)]) rfl ?_
          obtain ⟨x_473261, hx_473261, rx_473261⟩ := ex_any (z0 := v_473243 + 1)
          refine g_iinc C dX10_readToken_109 (k := 4) (v := x_473261) rfl hx_473261 (by decide) (lo2 := [(3, .int x_473261), (6, .int x_473260), (0, .ref x), (1, .int v_473241), (2, .int v_473242), (4, .long y_473244), (7, .int v_473246)]) rfl ?_
          refine g_lo (is := [2, 3, 4, 0, 5, 1, 6]) (lo2 := [(0, .ref x), (1, .int v_473241), (2, .int v_473242), (3, .int x_473261), (4, .long y_473244), (6, .int x_473260), (7, .int v_473246)]) rfl ?_
          exact j_112 I_473236 J_473237 hU_473238 hF_473239 hG_473240 v_473241 (rv_473241) v_473242 x_473261 y_473244 x_473260 v_473246 (rv_473246) v_473247 (rv_473247) q_473248 hm_473249
        · skip
          have n_473262 : ¬ x_473251 = 0 := h_473255
          have r_473263 := ne_lo (lo := 1) n_473262 rx_473251 rc_0 rfl (by decide)
          refine g_lload C 4 dX10_readToken_71 rfl ?_
          refine g_aload_n C 0 dX10_readToken_73 rfl rfl ?_
          refine g_getR C K hLx hkx f_10_9 hb_473108 dX10_readToken_74 ?_
          refine g_iload C 6 dX10_readToken_77 rfl ?_
          obtain ⟨x_473264, hx_473264, rx_473264⟩ := ex_get (I := I_473236) (a := b_473108) (j := v_473246.toNatClampNeg) (lo := (-128)) (hi := 127) hU_473238.1 hb_473108L (ro_a hb_473108k (by decide) hb_473108o hkx rfl) (rfl)
          refine h_bald C K hb_473108L hb_473108k (v := x_473264) (v_473246.toNatClampNeg) (rfl) (ix_0 rv_473246 (by decide)) (ix_lt rv_473246 (by decide) hb_473108n (by decide)) hx_473264 dX10_readToken_79 ?_
          refine g_callSL C K (c_X10_withLetter W9 y_473244 x_473264 (rx_473264) hU_473238) s_10_66 rfl ⟨rfl, rfl⟩ ⟨Nat.le_of_ble_eq_true rfl, Nat.le_of_ble_eq_true rfl⟩ (Nat.le_of_ble_eq_true rfl) ⟨Nat.le_of_ble_eq_true rfl, Nat.le_of_ble_eq_true rfl⟩ dX10_readToken_80 rfl (st := []) (fun x_473265 I_473266 J_473267 h_473268 => ?_)
          obtain ⟨rfl, rfl⟩ := h_473268
          refine g_lstore C dX10_readToken_83 (by decide) (lo2 := [(4, .long x_473265), (0, .ref x), (1, .int v_473241), (2, .int v_473242), (3, .int v_473243), (6, .int v_473245), (7, .int v_473246)]) rfl ?_
          obtain ⟨x_473269, hx_473269, rx_473269⟩ := ex_any (z0 := v_473242 + 1)
          refine g_iinc C dX10_readToken_85 (k := 3) (v := x_473269) rfl hx_473269 (by decide) (lo2 := [(2, .int x_473269), (4, .long x_473265), (0, .ref x), (1, .int v_473241), (3, .int v_473243), (6, .int v_473245), (7, .int v_473246)]) rfl ?_
          refine g_goto C (tgt := 112) dX10_readToken_88 (by decide) ?_
          refine g_lo (is := [2, 3, 0, 4, 1, 5, 6]) (lo2 := [(0, .ref x), (1, .int v_473241), (2, .int x_473269), (3, .int v_473243), (4, .long x_473265), (6, .int v_473245), (7, .int v_473246)]) rfl ?_
          exact j_112 I_473236 J_473237 hU_473238 hF_473239 hG_473240 v_473241 (rv_473241) x_473269 v_473243 x_473265 v_473245 v_473246 (rv_473246) v_473247 (rv_473247) q_473248 hm_473249
      refine g_iload C 6 dX10_readToken_13 rfl ?_
      refine g_aload_n C 0 dX10_readToken_15 rfl rfl ?_
      obtain ⟨x_473270, hx_473270, rx_473270⟩ := ex_get (I := I_473209) (a := x) (j := 5) (lo := 0) (hi := 940) hU_473211.1 hLx (ro_o hkx (by decide)) rfl
      refine g_getI C K hLx hkx f_10_29 (v := x_473270) hx_473270 dX10_readToken_16 ?_
      refine g_icmp_ge C (tgt := 118) dX10_readToken_19 (by decide) (fun h_473271 => ?_) (fun h_473271 => ?_)
      · skip
        refine g_lo (is := [0, 1, 2, 3, 4, 5, 6]) (lo2 := [(0, .ref x), (1, .int v_473214), (2, .int v_473215), (3, .int v_473216), (4, .long y_473217), (6, .int v_473218), (7, .int v_473219)]) rfl ?_
        exact j_118 I_473209 J_473210 hU_473211 hF_473212 hG_473213 v_473214 (rv_473214) v_473215 v_473216 y_473217 v_473218 v_473219 (rv_473219) x_473270 (rx_473270) hx_473270
      · skip
        have r_473272 := lt_l (hi := 939) (nle h_473271) rv_473219 rx_473270 (by decide)
        have r_473273 := lt_r (lo := 1) (nle h_473271) rv_473219 rx_473270 (by decide)
        refine g_iload C 6 dX10_readToken_22 rfl ?_
        refine g_aload_n C 0 dX10_readToken_24 rfl rfl ?_
        refine g_getR C K hLx hkx f_10_9 hb_473108 dX10_readToken_25 ?_
        refine g_alenB C K hb_473108L hb_473108k (v := 940) (by rw [hb_473108n]; rfl) dX10_readToken_28 ?_
        refine g_icmp_ge C (tgt := 118) dX10_readToken_29 (by decide) (fun h_473274 => ?_) (fun h_473274 => ?_)
        · skip
          have r_473275 := le_r (h_473274) rc_940 r_473272
          exact rg_no r_473275 (by decide)
        · skip
          refine g_aload_n C 0 dX10_readToken_32 rfl rfl ?_
          refine g_getR C K hLx hkx f_10_9 hb_473108 dX10_readToken_33 ?_
          refine g_iload C 6 dX10_readToken_36 rfl ?_
          obtain ⟨x_473276, hx_473276, rx_473276⟩ := ex_get (I := I_473209) (a := b_473108) (j := v_473219.toNatClampNeg) (lo := (-128)) (hi := 127) hU_473211.1 hb_473108L (ro_a hb_473108k (by decide) hb_473108o hkx rfl) (rfl)
          refine h_bald C K hb_473108L hb_473108k (v := x_473276) (v_473219.toNatClampNeg) (rfl) (ix_0 r_473272 (by decide)) (ix_lt r_473272 (by decide) hb_473108n (by decide)) hx_473276 dX10_readToken_38 ?_
          refine g_callSI C K (c_X10_isLetter W9 x_473276 (rx_473276) hU_473211) s_10_87 rfl ⟨rfl, rfl⟩ ⟨Nat.le_of_ble_eq_true rfl, Nat.le_of_ble_eq_true rfl⟩ (Nat.le_of_ble_eq_true rfl) ⟨Nat.le_of_ble_eq_true rfl, Nat.le_of_ble_eq_true rfl⟩ dX10_readToken_39 rfl (st := []) (fun x_473277 I_473278 J_473279 h_473280 => ?_)
          obtain ⟨rfl, rfl, rx_473277⟩ := h_473280
          refine g_if_ne C (tgt := 58) dX10_readToken_42 (by decide) (fun h_473281 => ?_) (fun h_473281 => ?_)
          · skip
            have n_473282 : ¬ x_473277 = 0 := h_473281
            have r_473283 := ne_lo (lo := 1) n_473282 rx_473277 rc_0 rfl (by decide)
            refine g_lo (is := [0, 1, 2, 3, 4, 5, 6]) (lo2 := [(0, .ref x), (1, .int v_473214), (2, .int v_473215), (3, .int v_473216), (4, .long y_473217), (6, .int v_473218), (7, .int v_473219)]) rfl ?_
            exact j_58 I_473209 J_473210 hU_473211 hF_473212 hG_473213 v_473214 (rv_473214) v_473215 v_473216 y_473217 v_473218 v_473219 (r_473272) x_473270 (r_473273) hx_473270 hm_473220
          · skip
            have r_473284 := (⟨(rx_473277).1, (eq_rg (h_473281) rc_0).2⟩ : Rg 0 0 x_473277)
            refine g_aload_n C 0 dX10_readToken_45 rfl rfl ?_
            refine g_getR C K hLx hkx f_10_9 hb_473108 dX10_readToken_46 ?_
            refine g_iload C 6 dX10_readToken_49 rfl ?_
            obtain ⟨x_473285, hx_473285, rx_473285⟩ := ex_get (I := I_473209) (a := b_473108) (j := v_473219.toNatClampNeg) (lo := (-128)) (hi := 127) hU_473211.1 hb_473108L (ro_a hb_473108k (by decide) hb_473108o hkx rfl) (rfl)
            refine h_bald C K hb_473108L hb_473108k (v := x_473285) (v_473219.toNatClampNeg) (rfl) (ix_0 r_473272 (by decide)) (ix_lt r_473272 (by decide) hb_473108n (by decide)) hx_473285 dX10_readToken_51 ?_
            refine g_callSI C K (c_X10_isDigit W9 x_473285 (rx_473285) hU_473211) s_10_91 rfl ⟨rfl, rfl⟩ ⟨Nat.le_of_ble_eq_true rfl, Nat.le_of_ble_eq_true rfl⟩ (Nat.le_of_ble_eq_true rfl) ⟨Nat.le_of_ble_eq_true rfl, Nat.le_of_ble_eq_true rfl⟩ dX10_readToken_52 rfl (st := []) (fun x_473286 I_473287 J_473288 h_473289 => ?_)
            obtain ⟨rfl, rfl, rx_473286⟩ := h_473289
            refine g_if_eq C (tgt := 118) dX10_readToken_55 (by decide) (fun h_473290 => ?_) (fun h_473290 => ?_)
            · skip
              have r_473291 := (⟨(rx_473286).1, (eq_rg (h_473290) rc_0).2⟩ : Rg 0 0 x_473286)
              refine g_lo (is := [0, 1, 2, 3, 4, 5, 6]) (lo2 := [(0, .ref x), (1, .int v_473214), (2, .int v_473215), (3, .int v_473216), (4, .long y_473217), (6, .int v_473218), (7, .int v_473219)]) rfl ?_
              exact j_118 I_473209 J_473210 hU_473211 hF_473212 hG_473213 v_473214 (rv_473214) v_473215 v_473216 y_473217 v_473218 v_473219 (rg_w r_473272 (by decide) (by decide)) x_473270 (rg_w r_473273 (by decide) (by decide)) hx_473270
            · skip
              have n_473292 : ¬ x_473286 = 0 := h_473290
              have r_473293 := ne_lo (lo := 1) n_473292 rx_473286 rc_0 rfl (by decide)
              refine g_lo (is := [0, 1, 2, 3, 4, 5, 6]) (lo2 := [(0, .ref x), (1, .int v_473214), (2, .int v_473215), (3, .int v_473216), (4, .long y_473217), (6, .int v_473218), (7, .int v_473219)]) rfl ?_
              exact j_58 I_473209 J_473210 hU_473211 hF_473212 hG_473213 v_473214 (rv_473214) v_473215 v_473216 y_473217 v_473218 v_473219 (r_473272) x_473270 (r_473273) hx_473270 hm_473220
  refine g_iconst C (v := 0) dX10_readToken_0 (by decide) ?_
  refine g_istore_n C dX10_readToken_1 rfl (by decide) (lo2 := [(2, .int 0), (0, .ref x), (1, .int a0)]) rfl ?_
  refine g_iconst C (v := 0) dX10_readToken_2 (by decide) ?_
  refine g_istore_n C dX10_readToken_3 rfl (by decide) (lo2 := [(3, .int 0), (2, .int 0), (0, .ref x), (1, .int a0)]) rfl ?_
  refine g_lconst C (v := 0) dX10_readToken_4 (by decide) ?_
  refine g_lstore C dX10_readToken_5 (by decide) (lo2 := [(4, .long 0), (3, .int 0), (2, .int 0), (0, .ref x), (1, .int a0)]) rfl ?_
  refine g_iconst C (v := 0) dX10_readToken_7 (by decide) ?_
  refine g_istore C dX10_readToken_8 (by decide) (lo2 := [(6, .int 0), (4, .long 0), (3, .int 0), (2, .int 0), (0, .ref x), (1, .int a0)]) rfl ?_
  refine g_iload_n C 5 dX10_readToken_10 rfl rfl ?_
  refine g_istore C dX10_readToken_11 (by decide) (lo2 := [(7, .int a0), (6, .int 0), (4, .long 0), (3, .int 0), (2, .int 0), (0, .ref x), (1, .int a0)]) rfl ?_
  refine g_lo (is := [5, 6, 4, 3, 2, 1, 0]) (lo2 := [(0, .ref x), (1, .int a0), (2, .int 0), (3, .int 0), (4, .long 0), (6, .int 0), (7, .int a0)]) rfl ?_
  exact l_13 941 I J hU hF hG a0 (ra0) 0 0 0 0 a0 (rg_w ra0 (by decide) (by decide)) (ms_s (a := 0) (b := 940) (N := 941) (rg_w ra0 (by decide) (by decide)) (by decide))
set_option maxRecDepth 100000 in
set_option maxHeartbeats 8000000 in
theorem c_X10_begin {l : Launch} {D : va_G} {cy : Nat → ClassId} {L : List Nat} {κ ln : Nat → Nat} {R : Nat → Nat → Option Nat} {I : Nat → Nat → Int32} {J : Nat → Nat → Int64} {ow : Nat → Nat × Nat} (W9 : ∀ a ∈ L, Shp L κ ln R ow a) {x : Nat} (hLx : x ∈ L) (hkx : κ x = 10) (a0 : Int32) (ra0 : Rg 200 900 a0) (hU : Iv L κ R ow I) : CtV l yX10_begin cX10_begin 5 none { frames := 2, cells := 0, slots := 0, locals := 60 } D cy L κ ln R I J [.ref x, .int a0] (fun I2 J2 => Iv L κ R ow I2 ∧ Fq L κ ow [1006, 1007, 1008, 1009, 1011, 1012, 70200, 70300] I I2 ∧ Fq L κ ow [1010, 70400] J J2) := by
  refine CtV.of (by decide +kernel) (Nat.le_of_ble_eq_true rfl) ?_
  intro p e s m below meth c B K
  have C := B.1
  have hF : Fq L κ ow [1006, 1007, 1008, 1009, 1011, 1012, 70200, 70300] I I := fq_rf
  have hG : Fq L κ ow [1010, 70400] J J := fq_rf
  obtain ⟨b_476803, hb_476803, hb_476803L, hb_476803k, hb_476803n, hb_476803o⟩ := shp_a (W9 x hLx) hkx 0 13 940 rfl (by decide)
  refine g_lo (is := [0, 1]) (lo2 := [(0, .ref x), (1, .int a0)]) rfl ?_
  have l_27 : ∀ (n_27 : Nat) (I_476804 : Nat → Nat → Int32) (J_476805 : Nat → Nat → Int64) (hU_476806 : Iv L κ R ow I_476804) (hF_476807 : Fq L κ ow [1006, 1007, 1008, 1009, 1011, 1012, 70200, 70300] I I_476804) (hG_476808 : Fq L κ ow [1010, 70400] J J_476805) (v_476809 : Int32) (rv_476809 : Rg 200 900 v_476809) (v_476810 : Int32) (rv_476810 : Rg 0 900 v_476810) (v_476811 : Int32) (rv_476811 : Rg 0 940 v_476811) (v_476812 : Int32) (rv_476812 : Rg 0 900 v_476812) (v_476813 : Int32) (rv_476813 : Rg 0 940 v_476813) (q_476814 : I_476804 x 5 = v_476813) (hm_476815 : 900 < (v_476812 : Int32).toInt + (n_27 : Int)), WG p l e { frames := 2, cells := 0, slots := 0, locals := 60 } s m ([.ref x, .int a0] : List Value).toArray below meth c 5 0 0 (MQ below (Qv_ D cy L κ ln R (fun I2 J2 => Iv L κ R ow I2 ∧ Fq L κ ow [1006, 1007, 1008, 1009, 1011, 1012, 70200, 70300] I I2 ∧ Fq L κ ow [1010, 70400] J J2)) ([.ref x, .int a0] : List Value).toArray s 0 0 (Al_ L)) D cy (Al_ L) s.heap L κ ln R I_476804 J_476805 27 [(0, .ref x), (1, .int v_476809), (2, .int v_476810), (3, .int v_476811), (4, .int v_476812)] [] := by
    intro n_27
    induction n_27 with
    | zero =>
      intro I_476804 J_476805 hU_476806 hF_476807 hG_476808 v_476809 rv_476809 v_476810 rv_476810 v_476811 rv_476811 v_476812 rv_476812 v_476813 rv_476813 q_476814 hm_476815
      exact ms_0 rv_476812 hm_476815
    | succ n_27 ih_27 =>
      intro I_476804 J_476805 hU_476806 hF_476807 hG_476808 v_476809 rv_476809 v_476810 rv_476810 v_476811 rv_476811 v_476812 rv_476812 v_476813 rv_476813 q_476814 hm_476815
      have j_70 : ∀ (I_476816 : Nat → Nat → Int32) (J_476817 : Nat → Nat → Int64) (hU_476818 : Iv L κ R ow I_476816) (hF_476819 : Fq L κ ow [1006, 1007, 1008, 1009, 1011, 1012, 70200, 70300] I I_476816) (hG_476820 : Fq L κ ow [1010, 70400] J J_476817) (v_476821 : Int32) (rv_476821 : Rg 200 900 v_476821) (v_476822 : Int32) (rv_476822 : Rg 1 900 v_476822) (v_476823 : Int32) (rv_476823 : Rg 0 940 v_476823) (v_476824 : Int32) (rv_476824 : Rg 0 899 v_476824) (v_476825 : Int32) (rv_476825 : Rg 0 940 v_476825) (q_476826 : I_476816 x 5 = v_476825) (hm_476827 : 900 < (v_476824 : Int32).toInt + ((n_27 + 1 : Nat) : Int)), WG p l e { frames := 2, cells := 0, slots := 0, locals := 60 } s m ([.ref x, .int a0] : List Value).toArray below meth c 5 0 0 (MQ below (Qv_ D cy L κ ln R (fun I2 J2 => Iv L κ R ow I2 ∧ Fq L κ ow [1006, 1007, 1008, 1009, 1011, 1012, 70200, 70300] I I2 ∧ Fq L κ ow [1010, 70400] J J2)) ([.ref x, .int a0] : List Value).toArray s 0 0 (Al_ L)) D cy (Al_ L) s.heap L κ ln R I_476816 J_476817 70 [(0, .ref x), (1, .int v_476821), (2, .int v_476822), (3, .int v_476823), (4, .int v_476824)] [] := by
        intro I_476816 J_476817 hU_476818 hF_476819 hG_476820 v_476821 rv_476821 v_476822 rv_476822 v_476823 rv_476823 v_476824 rv_476824 v_476825 rv_476825 q_476826 hm_476827
        obtain ⟨x_476828, hx_476828, rx_476828, tx_476828⟩ := ex_add (y := 1) 1 900 rv_476824 rc_1 (by decide) (by decide) (by decide) (by decide)
        refine g_iinc C dX10_begin_70 (k := 4) (v := x_476828) rfl hx_476828 (by decide) (lo2 := [(4, .int x_476828), (0, .ref x), (1, .int v_476821), (2, .int v_476822), (3, .int v_476823)]) rfl ?_
        refine g_goto C (tgt := 27) dX10_begin_73 (by decide) ?_
        refine g_lo (is := [1, 2, 3, 4, 0]) (lo2 := [(0, .ref x), (1, .int v_476821), (2, .int v_476822), (3, .int v_476823), (4, .int x_476828)]) rfl ?_
        exact ih_27 I_476816 J_476817 hU_476818 hF_476819 hG_476820 v_476821 (rv_476821) v_476822 (rg_w rv_476822 (by decide) (by decide)) v_476823 (rv_476823) x_476828 (rg_w rx_476828 (by decide) (by decide)) v_476825 (rv_476825) q_476826 (ms_1 hm_476827 (ti_k tx_476828 rc_1) (by decide))
      refine g_iload C 4 dX10_begin_27 rfl ?_
      refine g_iload_n C 2 dX10_begin_29 rfl rfl ?_
      refine g_icmp_ge C (tgt := 76) dX10_begin_30 (by decide) (fun h_476829 => ?_) (fun h_476829 => ?_)
      · skip
        refine g_aload_n C 0 dX10_begin_76 rfl rfl ?_
        refine g_aload_n C 0 dX10_begin_77 rfl rfl ?_
        refine g_getI C K hLx hkx f_10_29 (v := v_476813) q_476814 dX10_begin_78 ?_
        refine g_iload_n C 1 dX10_begin_81 rfl rfl ?_
        refine g_icmp_le C (tgt := 90) dX10_begin_82 (by decide) (fun h_476830 => ?_) (fun h_476830 => ?_)
        · skip
          have r_476831 := le_l (h_476830) rv_476813 rv_476809
          refine g_bipush C (v := 102) dX10_begin_90 (by decide) ?_
          refine g_iload_n C 2 dX10_begin_92 rfl rfl ?_
          refine g_lconst C (v := 0) dX10_begin_93 (by decide) ?_
          refine g_callVV C K (c_X10_addToken W9 hLx hkx 102 v_476810 0 (rg_w rc_102 (by decide) (by decide)) (rv_476810) hU_476806) hLx hkx (by decide) rfl v_10_80 rfl ⟨rfl, rfl⟩ ⟨Nat.le_of_ble_eq_true rfl, Nat.le_of_ble_eq_true rfl⟩ (Nat.le_of_ble_eq_true rfl) ⟨Nat.le_of_ble_eq_true rfl, Nat.le_of_ble_eq_true rfl⟩ dX10_begin_94 rfl (st := []) (fun I_476833 J_476834 h_476835 => ?_)
          obtain ⟨hUI_476833, hFI_476833, hGJ_476834⟩ := h_476835
          have hF_476836 := fq_tr hF_476807 hFI_476833 (by decide)
          have hG_476837 := fq_tr hG_476808 hGJ_476834 (by decide)
          refine g_aload_n C 0 dX10_begin_97 rfl rfl ?_
          refine g_iconst C (v := 0) dX10_begin_98 (by decide) ?_
          refine h_putI C K hLx hkx f_10_49 p_10_11 dX10_begin_99 (fun I_476838 hI_476838 => ?_)
          have hU_476839 := iv_put W9 hUI_476833 hI_476838 (ro_o hkx (by decide)) (lo := (-2147483648)) (hi := 2147483647) (rfl) (rg_all _) rfl
          have hF_476840 := fq_puto hF_476836 hI_476838 hkx (by decide) (by decide)
          refine g_aload_n C 0 dX10_begin_102 rfl rfl ?_
          refine g_iconst C (v := 0) dX10_begin_103 (by decide) ?_
          refine h_putI C K hLx hkx f_10_52 p_10_12 dX10_begin_104 (fun I_476841 hI_476841 => ?_)
          have hU_476842 := iv_put W9 hU_476839 hI_476841 (ro_o hkx (by decide)) (lo := (-2147483648)) (hi := 2147483647) (rfl) (rg_all _) rfl
          have hF_476843 := fq_puto hF_476840 hI_476841 hkx (by decide) (by decide)
          refine g_aload_n C 0 dX10_begin_107 rfl rfl ?_
          refine g_iconst C (v := (-1)) dX10_begin_108 (by decide) ?_
          refine h_putI C K hLx hkx f_10_36 p_10_7 dX10_begin_109 (fun I_476844 hI_476844 => ?_)
          have hU_476845 := iv_put W9 hU_476842 hI_476844 (ro_o hkx (by decide)) (lo := (-1)) (hi := 900) (rfl) (rg_w rc_m1 (by decide) (by decide)) rfl
          have hF_476846 := fq_puto hF_476843 hI_476844 hkx (by decide) (by decide)
          refine g_aload_n C 0 dX10_begin_112 rfl rfl ?_
          refine g_callVV C K (c_X10_advance W9 hLx hkx   hU_476845) hLx hkx (by decide) rfl v_10_84 rfl ⟨rfl, rfl⟩ ⟨Nat.le_of_ble_eq_true rfl, Nat.le_of_ble_eq_true rfl⟩ (Nat.le_of_ble_eq_true rfl) ⟨Nat.le_of_ble_eq_true rfl, Nat.le_of_ble_eq_true rfl⟩ dX10_begin_113 rfl (st := []) (fun I_476848 J_476849 h_476850 => ?_)
          obtain ⟨hUI_476848, hFI_476848, hGJ_476849⟩ := h_476850
          have hF_476851 := fq_tr hF_476846 hFI_476848 (by decide)
          have hG_476852 := fq_tr hG_476837 hGJ_476849 (by decide)
          exact g_vret B K rfl ⟨hUI_476848, hF_476851, hG_476852⟩ dX10_begin_116
        · skip
          have r_476853 := lt_r (lo := 201) (nle h_476830) rv_476809 rv_476813 (by decide)
          refine g_bipush C (v := 103) dX10_begin_85 (by decide) ?_
          refine g_goto C (tgt := 92) dX10_begin_87 (by decide) ?_
          refine g_iload_n C 2 dX10_begin_92 rfl rfl ?_
          refine g_lconst C (v := 0) dX10_begin_93 (by decide) ?_
          refine g_callVV C K (c_X10_addToken W9 hLx hkx 103 v_476810 0 (rg_w rc_103 (by decide) (by decide)) (rv_476810) hU_476806) hLx hkx (by decide) rfl v_10_80 rfl ⟨rfl, rfl⟩ ⟨Nat.le_of_ble_eq_true rfl, Nat.le_of_ble_eq_true rfl⟩ (Nat.le_of_ble_eq_true rfl) ⟨Nat.le_of_ble_eq_true rfl, Nat.le_of_ble_eq_true rfl⟩ dX10_begin_94 rfl (st := []) (fun I_476855 J_476856 h_476857 => ?_)
          obtain ⟨hUI_476855, hFI_476855, hGJ_476856⟩ := h_476857
          have hF_476858 := fq_tr hF_476807 hFI_476855 (by decide)
          have hG_476859 := fq_tr hG_476808 hGJ_476856 (by decide)
          refine g_aload_n C 0 dX10_begin_97 rfl rfl ?_
          refine g_iconst C (v := 0) dX10_begin_98 (by decide) ?_
          refine h_putI C K hLx hkx f_10_49 p_10_11 dX10_begin_99 (fun I_476860 hI_476860 => ?_)
          have hU_476861 := iv_put W9 hUI_476855 hI_476860 (ro_o hkx (by decide)) (lo := (-2147483648)) (hi := 2147483647) (rfl) (rg_all _) rfl
          have hF_476862 := fq_puto hF_476858 hI_476860 hkx (by decide) (by decide)
          refine g_aload_n C 0 dX10_begin_102 rfl rfl ?_
          refine g_iconst C (v := 0) dX10_begin_103 (by decide) ?_
          refine h_putI C K hLx hkx f_10_52 p_10_12 dX10_begin_104 (fun I_476863 hI_476863 => ?_)
          have hU_476864 := iv_put W9 hU_476861 hI_476863 (ro_o hkx (by decide)) (lo := (-2147483648)) (hi := 2147483647) (rfl) (rg_all _) rfl
          have hF_476865 := fq_puto hF_476862 hI_476863 hkx (by decide) (by decide)
          refine g_aload_n C 0 dX10_begin_107 rfl rfl ?_
          refine g_iconst C (v := (-1)) dX10_begin_108 (by decide) ?_
          refine h_putI C K hLx hkx f_10_36 p_10_7 dX10_begin_109 (fun I_476866 hI_476866 => ?_)
          have hU_476867 := iv_put W9 hU_476864 hI_476866 (ro_o hkx (by decide)) (lo := (-1)) (hi := 900) (rfl) (rg_w rc_m1 (by decide) (by decide)) rfl
          have hF_476868 := fq_puto hF_476865 hI_476866 hkx (by decide) (by decide)
          refine g_aload_n C 0 dX10_begin_112 rfl rfl ?_
          refine g_callVV C K (c_X10_advance W9 hLx hkx   hU_476867) hLx hkx (by decide) rfl v_10_84 rfl ⟨rfl, rfl⟩ ⟨Nat.le_of_ble_eq_true rfl, Nat.le_of_ble_eq_true rfl⟩ (Nat.le_of_ble_eq_true rfl) ⟨Nat.le_of_ble_eq_true rfl, Nat.le_of_ble_eq_true rfl⟩ dX10_begin_113 rfl (st := []) (fun I_476870 J_476871 h_476872 => ?_)
          obtain ⟨hUI_476870, hFI_476870, hGJ_476871⟩ := h_476872
          have hF_476873 := fq_tr hF_476868 hFI_476870 (by decide)
          have hG_476874 := fq_tr hG_476859 hGJ_476871 (by decide)
          exact g_vret B K rfl ⟨hUI_476870, hF_476873, hG_476874⟩ dX10_begin_116
      · skip
        have r_476875 := lt_l (hi := 899) (nle h_476829) rv_476812 rv_476810 (by decide)
        have r_476876 := lt_r (lo := 1) (nle h_476829) rv_476812 rv_476810 (by decide)
        refine g_iload C 4 dX10_begin_33 rfl ?_
        refine g_iload_n C 3 dX10_begin_35 rfl rfl ?_
        refine g_icmp_lt C (tgt := 70) dX10_begin_36 (by decide) (fun h_476877 => ?_) (fun h_476877 => ?_)
        · skip
          have r_476878 := lt_r (lo := 1) (h_476877) r_476875 rv_476811 (by decide)
          refine g_lo (is := [0, 1, 2, 3, 4]) (lo2 := [(0, .ref x), (1, .int v_476809), (2, .int v_476810), (3, .int v_476811), (4, .int v_476812)]) rfl ?_
          exact j_70 I_476804 J_476805 hU_476806 hF_476807 hG_476808 v_476809 (rv_476809) v_476810 (r_476876) v_476811 (rg_w r_476878 (by decide) (by decide)) v_476812 (r_476875) v_476813 (rv_476813) q_476814 hm_476815
        · skip
          have r_476879 := le_l (nlt h_476877) rv_476811 r_476875
          refine g_aload_n C 0 dX10_begin_39 rfl rfl ?_
          refine g_getR C K hLx hkx f_10_9 hb_476803 dX10_begin_40 ?_
          refine g_iload C 4 dX10_begin_43 rfl ?_
          obtain ⟨x_476880, hx_476880, rx_476880⟩ := ex_get (I := I_476804) (a := b_476803) (j := v_476812.toNatClampNeg) (lo := (-128)) (hi := 127) hU_476806.1 hb_476803L (ro_a hb_476803k (by decide) hb_476803o hkx rfl) (rfl)
          refine h_bald C K hb_476803L hb_476803k (v := x_476880) (v_476812.toNatClampNeg) (rfl) (ix_0 r_476875 (by decide)) (ix_lt r_476875 (by decide) hb_476803n (by decide)) hx_476880 dX10_begin_45 ?_
          refine g_bipush C (v := 32) dX10_begin_46 (by decide) ?_
          refine g_icmp_eq C (tgt := 70) dX10_begin_48 (by decide) (fun h_476881 => ?_) (fun h_476881 => ?_)
          · skip
            have r_476882 := (⟨(eq_rg (h_476881) rc_32).1, (eq_rg (h_476881) rc_32).2⟩ : Rg 32 32 x_476880)
            refine g_lo (is := [0, 1, 2, 3, 4]) (lo2 := [(0, .ref x), (1, .int v_476809), (2, .int v_476810), (3, .int v_476811), (4, .int v_476812)]) rfl ?_
            exact j_70 I_476804 J_476805 hU_476806 hF_476807 hG_476808 v_476809 (rv_476809) v_476810 (r_476876) v_476811 (rg_w r_476879 (by decide) (by decide)) v_476812 (r_476875) v_476813 (rv_476813) q_476814 hm_476815
          · skip
            have n_476883 : ¬ x_476880 = 32 := h_476881
            refine g_aload_n C 0 dX10_begin_51 rfl rfl ?_
            refine g_getR C K hLx hkx f_10_9 hb_476803 dX10_begin_52 ?_
            refine g_iload C 4 dX10_begin_55 rfl ?_
            obtain ⟨x_476884, hx_476884, rx_476884⟩ := ex_get (I := I_476804) (a := b_476803) (j := v_476812.toNatClampNeg) (lo := (-128)) (hi := 127) hU_476806.1 hb_476803L (ro_a hb_476803k (by decide) hb_476803o hkx rfl) (rfl)
            refine h_bald C K hb_476803L hb_476803k (v := x_476884) (v_476812.toNatClampNeg) (rfl) (ix_0 r_476875 (by decide)) (ix_lt r_476875 (by decide) hb_476803n (by decide)) hx_476884 dX10_begin_57 ?_
            refine g_bipush C (v := 10) dX10_begin_58 (by decide) ?_
            refine g_icmp_eq C (tgt := 70) dX10_begin_60 (by decide) (fun h_476885 => ?_) (fun h_476885 => ?_)
            · skip
              have r_476886 := (⟨(eq_rg (h_476885) rc_10).1, (eq_rg (h_476885) rc_10).2⟩ : Rg 10 10 x_476884)
              refine g_lo (is := [0, 1, 2, 3, 4]) (lo2 := [(0, .ref x), (1, .int v_476809), (2, .int v_476810), (3, .int v_476811), (4, .int v_476812)]) rfl ?_
              exact j_70 I_476804 J_476805 hU_476806 hF_476807 hG_476808 v_476809 (rv_476809) v_476810 (r_476876) v_476811 (rg_w r_476879 (by decide) (by decide)) v_476812 (r_476875) v_476813 (rv_476813) q_476814 hm_476815
            · skip
              have n_476887 : ¬ x_476884 = 10 := h_476885
              refine g_aload_n C 0 dX10_begin_63 rfl rfl ?_
              refine g_iload C 4 dX10_begin_64 rfl ?_
              refine g_callVI C K (c_X10_readToken W9 hLx hkx v_476812 (r_476875) hU_476806) hLx hkx (by decide) rfl v_10_76 rfl ⟨rfl, rfl⟩ ⟨Nat.le_of_ble_eq_true rfl, Nat.le_of_ble_eq_true rfl⟩ (Nat.le_of_ble_eq_true rfl) ⟨Nat.le_of_ble_eq_true rfl, Nat.le_of_ble_eq_true rfl⟩ dX10_begin_66 rfl (st := []) (fun x_476888 I_476889 J_476890 h_476891 => ?_)
              obtain ⟨hUI_476889, hFI_476889, hGJ_476890, rx_476888⟩ := h_476891
              have hF_476892 := fq_tr hF_476807 hFI_476889 (by decide)
              have hG_476893 := fq_tr hG_476808 hGJ_476890 (by decide)
              refine g_istore_n C dX10_begin_69 rfl (by decide) (lo2 := [(3, .int x_476888), (0, .ref x), (1, .int v_476809), (2, .int v_476810), (4, .int v_476812)]) rfl ?_
              refine g_lo (is := [1, 2, 3, 0, 4]) (lo2 := [(0, .ref x), (1, .int v_476809), (2, .int v_476810), (3, .int x_476888), (4, .int v_476812)]) rfl ?_
              exact j_70 I_476889 J_476890 hUI_476889 hF_476892 hG_476893 v_476809 (rv_476809) v_476810 (r_476876) x_476888 (rx_476888) v_476812 (r_476875) v_476813 (rv_476813) (fq_at hFI_476889 hLx hkx (by decide) (by decide) q_476814) hm_476815
  refine g_aload_n C 0 dX10_begin_0 rfl rfl ?_
  obtain ⟨x_476894, hx_476894, rx_476894⟩ := ex_get (I := I) (a := x) (j := 5) (lo := 0) (hi := 940) hU.1 hLx (ro_o hkx (by decide)) rfl
  refine g_getI C K hLx hkx f_10_29 (v := x_476894) hx_476894 dX10_begin_1 ?_
  refine g_iload_n C 1 dX10_begin_4 rfl rfl ?_
  obtain ⟨x_476895, hx_476895, rx_476895⟩ := ex_min 0 900 rx_476894 ra0 (by decide) (by decide) (by decide)
  refine g_mmin C (v := x_476895) mw_10_70 w_min (Nat.le_of_ble_eq_true rfl) (Nat.le_of_ble_eq_true rfl) ⟨Nat.le_of_ble_eq_true rfl, Nat.le_of_ble_eq_true rfl⟩ (hx_476895) dX10_begin_5 ?_
  refine g_aload_n C 0 dX10_begin_8 rfl rfl ?_
  refine g_getR C K hLx hkx f_10_9 hb_476803 dX10_begin_9 ?_
  refine g_alenB C K hb_476803L hb_476803k (v := 940) (by rw [hb_476803n]; rfl) dX10_begin_12 ?_
  obtain ⟨x_476896, hx_476896, rx_476896⟩ := ex_min 0 900 rx_476895 rc_940 (by decide) (by decide) (by decide)
  refine g_mmin C (v := x_476896) mw_10_70 w_min (Nat.le_of_ble_eq_true rfl) (Nat.le_of_ble_eq_true rfl) ⟨Nat.le_of_ble_eq_true rfl, Nat.le_of_ble_eq_true rfl⟩ (hx_476896) dX10_begin_13 ?_
  refine g_istore_n C dX10_begin_16 rfl (by decide) (lo2 := [(2, .int x_476896), (0, .ref x), (1, .int a0)]) rfl ?_
  refine g_iconst C (v := 0) dX10_begin_17 (by decide) ?_
  refine g_istore_n C dX10_begin_18 rfl (by decide) (lo2 := [(3, .int 0), (2, .int x_476896), (0, .ref x), (1, .int a0)]) rfl ?_
  refine g_aload_n C 2 dX10_begin_19 rfl rfl ?_
  refine g_iconst C (v := 0) dX10_begin_20 (by decide) ?_
  refine h_putI C K hLx hkx f_10_33 p_10_6 dX10_begin_21 (fun I_476897 hI_476897 => ?_)
  have hU_476898 := iv_put W9 hU hI_476897 (ro_o hkx (by decide)) (lo := 0) (hi := 901) (rfl) (rg_w rc_0 (by decide) (by decide)) rfl
  have hF_476899 := fq_puto hF hI_476897 hkx (by decide) (by decide)
  refine g_iconst C (v := 0) dX10_begin_24 (by decide) ?_
  refine g_istore C dX10_begin_25 (by decide) (lo2 := [(4, .int 0), (3, .int 0), (2, .int x_476896), (0, .ref x), (1, .int a0)]) rfl ?_
  refine g_lo (is := [3, 4, 2, 1, 0]) (lo2 := [(0, .ref x), (1, .int a0), (2, .int x_476896), (3, .int 0), (4, .int 0)]) rfl ?_
  exact l_27 901 I_476897 J hU_476898 hF_476899 hG a0 (ra0) x_476896 (rx_476896) 0 (rg_w rc_0 (by decide) (by decide)) 0 (rg_w rc_0 (by decide) (by decide)) x_476894 (rx_476894) (kp_j hI_476897 (by decide) hx_476894) (ms_s (a := 0) (b := 900) (N := 901) (rg_w rc_0 (by decide) (by decide)) (by decide))
set_option maxRecDepth 100000 in
set_option maxHeartbeats 8000000 in
theorem c_X1_forget {l : Launch} {D : va_G} {cy : Nat → ClassId} {L : List Nat} {κ ln : Nat → Nat} {R : Nat → Nat → Option Nat} {I : Nat → Nat → Int32} {J : Nat → Nat → Int64} {ow : Nat → Nat × Nat} (W9 : ∀ a ∈ L, Shp L κ ln R ow a) {x : Nat} (hLx : x ∈ L) (hkx : κ x = 1) (hU : Iv L κ R ow I) : CtV l yX1_forget cX1_forget 2 none { frames := 0, cells := 0, slots := 0, locals := 0 } D cy L κ ln R I J [.ref x] (fun I2 J2 => Iv L κ R ow I2 ∧ Fq L κ ow [107, 108, 109, 110, 111, 112, 16100, 16200, 16300, 16400, 16500, 16600] I I2 ∧ Fq L κ ow [] J J2) := by
  refine CtV.of (by decide +kernel) (Nat.le_of_ble_eq_true rfl) ?_
  intro p e s m below meth c B K
  have C := B.1
  have hF : Fq L κ ow [107, 108, 109, 110, 111, 112, 16100, 16200, 16300, 16400, 16500, 16600] I I := fq_rf
  have hG : Fq L κ ow [] J J := fq_rf
  obtain ⟨b_477251, hb_477251, hb_477251L, hb_477251k, hb_477251n, hb_477251o⟩ := shp_a (W9 x hLx) hkx 4 14 7 rfl (by decide)
  obtain ⟨b_477252, hb_477252, hb_477252L, hb_477252k, hb_477252n, hb_477252o⟩ := shp_a (W9 x hLx) hkx 2 14 42 rfl (by decide)
  obtain ⟨b_477253, hb_477253, hb_477253L, hb_477253k, hb_477253n, hb_477253o⟩ := shp_a (W9 x hLx) hkx 3 14 7 rfl (by decide)
  obtain ⟨b_477254, hb_477254, hb_477254L, hb_477254k, hb_477254n, hb_477254o⟩ := shp_a (W9 x hLx) hkx 1 14 6 rfl (by decide)
  obtain ⟨b_477255, hb_477255, hb_477255L, hb_477255k, hb_477255n, hb_477255o⟩ := shp_a (W9 x hLx) hkx 5 14 7 rfl (by decide)
  obtain ⟨b_477256, hb_477256, hb_477256L, hb_477256k, hb_477256n, hb_477256o⟩ := shp_a (W9 x hLx) hkx 6 14 7 rfl (by decide)
  refine g_lo (is := [0]) (lo2 := [(0, .ref x)]) rfl ?_
  have l_44 : ∀ (n_44 : Nat) (I_477257 : Nat → Nat → Int32) (J_477258 : Nat → Nat → Int64) (hU_477259 : Iv L κ R ow I_477257) (hF_477260 : Fq L κ ow [107, 108, 109, 110, 111, 112, 16100, 16200, 16300, 16400, 16500, 16600] I I_477257) (hG_477261 : Fq L κ ow [] J J_477258) (v_477262 : Int32) (rv_477262 : Rg 0 7 v_477262) (hm_477263 : 7 < (v_477262 : Int32).toInt + (n_44 : Int)), WG p l e { frames := 0, cells := 0, slots := 0, locals := 0 } s m ([.ref x] : List Value).toArray below meth c 2 0 0 (MQ below (Qv_ D cy L κ ln R (fun I2 J2 => Iv L κ R ow I2 ∧ Fq L κ ow [107, 108, 109, 110, 111, 112, 16100, 16200, 16300, 16400, 16500, 16600] I I2 ∧ Fq L κ ow [] J J2)) ([.ref x] : List Value).toArray s 0 0 (Al_ L)) D cy (Al_ L) s.heap L κ ln R I_477257 J_477258 44 [(0, .ref x), (1, .int v_477262)] [] := by
    intro n_44
    induction n_44 with
    | zero =>
      intro I_477257 J_477258 hU_477259 hF_477260 hG_477261 v_477262 rv_477262 hm_477263
      exact ms_0 rv_477262 hm_477263
    | succ n_44 ih_44 =>
      intro I_477257 J_477258 hU_477259 hF_477260 hG_477261 v_477262 rv_477262 hm_477263
      refine g_iload_n C 1 dX1_forget_44 rfl rfl ?_
      refine g_bipush C (v := 7) dX1_forget_45 (by decide) ?_
      refine g_icmp_ge C (tgt := 84) dX1_forget_47 (by decide) (fun h_477264 => ?_) (fun h_477264 => ?_)
      · skip
        have r_477265 := le_r (h_477264) rc_7 rv_477262
        refine g_aload_n C 0 dX1_forget_84 rfl rfl ?_
        refine g_iconst C (v := 0) dX1_forget_85 (by decide) ?_
        refine h_putI C K hLx hkx f_1_30 p_1_7 dX1_forget_86 (fun I_477266 hI_477266 => ?_)
        have hU_477267 := iv_put W9 hU_477259 hI_477266 (ro_o hkx (by decide)) (lo := (-2147483648)) (hi := 2147483647) (rfl) (rg_all _) rfl
        have hF_477268 := fq_puto hF_477260 hI_477266 hkx (by decide) (by decide)
        refine g_aload_n C 0 dX1_forget_89 rfl rfl ?_
        refine g_iconst C (v := 0) dX1_forget_90 (by decide) ?_
        refine h_putI C K hLx hkx f_1_34 p_1_8 dX1_forget_91 (fun I_477269 hI_477269 => ?_)
        have hU_477270 := iv_put W9 hU_477267 hI_477269 (ro_o hkx (by decide)) (lo := (-2147483648)) (hi := 2147483647) (rfl) (rg_all _) rfl
        have hF_477271 := fq_puto hF_477268 hI_477269 hkx (by decide) (by decide)
        refine g_aload_n C 0 dX1_forget_94 rfl rfl ?_
        refine g_iconst C (v := 0) dX1_forget_95 (by decide) ?_
        refine h_putI C K hLx hkx f_1_37 p_1_9 dX1_forget_96 (fun I_477272 hI_477272 => ?_)
        have hU_477273 := iv_put W9 hU_477270 hI_477272 (ro_o hkx (by decide)) (lo := (-2147483648)) (hi := 2147483647) (rfl) (rg_all _) rfl
        have hF_477274 := fq_puto hF_477271 hI_477272 hkx (by decide) (by decide)
        refine g_aload_n C 0 dX1_forget_99 rfl rfl ?_
        refine g_iconst C (v := 0) dX1_forget_100 (by decide) ?_
        refine h_putI C K hLx hkx f_1_40 p_1_10 dX1_forget_101 (fun I_477275 hI_477275 => ?_)
        have hU_477276 := iv_put W9 hU_477273 hI_477275 (ro_o hkx (by decide)) (lo := (-2147483648)) (hi := 2147483647) (rfl) (rg_all _) rfl
        have hF_477277 := fq_puto hF_477274 hI_477275 hkx (by decide) (by decide)
        refine g_aload_n C 0 dX1_forget_104 rfl rfl ?_
        refine g_iconst C (v := 0) dX1_forget_105 (by decide) ?_
        refine h_putI C K hLx hkx f_1_43 p_1_11 dX1_forget_106 (fun I_477278 hI_477278 => ?_)
        have hU_477279 := iv_put W9 hU_477276 hI_477278 (ro_o hkx (by decide)) (lo := (-2147483648)) (hi := 2147483647) (rfl) (rg_all _) rfl
        have hF_477280 := fq_puto hF_477277 hI_477278 hkx (by decide) (by decide)
        refine g_aload_n C 0 dX1_forget_109 rfl rfl ?_
        refine g_iconst C (v := 0) dX1_forget_110 (by decide) ?_
        refine h_putI C K hLx hkx f_1_46 p_1_12 dX1_forget_111 (fun I_477281 hI_477281 => ?_)
        have hU_477282 := iv_put W9 hU_477279 hI_477281 (ro_o hkx (by decide)) (lo := (-2147483648)) (hi := 2147483647) (rfl) (rg_all _) rfl
        have hF_477283 := fq_puto hF_477280 hI_477281 hkx (by decide) (by decide)
        exact g_vret B K rfl ⟨hU_477282, hF_477283, hG_477261⟩ dX1_forget_114
      · skip
        have r_477284 := lt_l (hi := 6) (nle h_477264) rv_477262 rc_7 (by decide)
        refine g_aload_n C 0 dX1_forget_50 rfl rfl ?_
        refine g_getR C K hLx hkx f_1_18 hb_477253 dX1_forget_51 ?_
        refine g_iload_n C 1 dX1_forget_54 rfl rfl ?_
        refine g_iconst C (v := 0) dX1_forget_55 (by decide) ?_
        refine h_iast C K hb_477253L hb_477253k (v_477262.toNatClampNeg) (rfl) (ix_0 r_477284 (by decide)) (ix_lt r_477284 (by decide) hb_477253n (by decide)) dX1_forget_56 (fun I_477285 hI_477285 => ?_)
        have hU_477286 := iv_put W9 hU_477259 hI_477285 (ro_a hb_477253k (by decide) hb_477253o hkx rfl) (lo := (-2147483648)) (hi := 2147483647) (rfl) (rg_all _) rfl
        have hF_477287 := fq_puta hF_477260 hI_477285 (ro_a hb_477253k (by decide) hb_477253o hkx rfl) (by decide) (by decide)
        refine g_aload_n C 0 dX1_forget_57 rfl rfl ?_
        refine g_getR C K hLx hkx f_1_21 hb_477251 dX1_forget_58 ?_
        refine g_iload_n C 1 dX1_forget_61 rfl rfl ?_
        refine g_iconst C (v := 0) dX1_forget_62 (by decide) ?_
        refine h_iast C K hb_477251L hb_477251k (v_477262.toNatClampNeg) (rfl) (ix_0 r_477284 (by decide)) (ix_lt r_477284 (by decide) hb_477251n (by decide)) dX1_forget_63 (fun I_477288 hI_477288 => ?_)
        have hU_477289 := iv_put W9 hU_477286 hI_477288 (ro_a hb_477251k (by decide) hb_477251o hkx rfl) (lo := (-2147483648)) (hi := 2147483647) (rfl) (rg_all _) rfl
        have hF_477290 := fq_puta hF_477287 hI_477288 (ro_a hb_477251k (by decide) hb_477251o hkx rfl) (by decide) (by decide)
        refine g_aload_n C 0 dX1_forget_64 rfl rfl ?_
        refine g_getR C K hLx hkx f_1_24 hb_477255 dX1_forget_65 ?_
        refine g_iload_n C 1 dX1_forget_68 rfl rfl ?_
        refine g_iconst C (v := 0) dX1_forget_69 (by decide) ?_
        refine h_iast C K hb_477255L hb_477255k (v_477262.toNatClampNeg) (rfl) (ix_0 r_477284 (by decide)) (ix_lt r_477284 (by decide) hb_477255n (by decide)) dX1_forget_70 (fun I_477291 hI_477291 => ?_)
        have hU_477292 := iv_put W9 hU_477289 hI_477291 (ro_a hb_477255k (by decide) hb_477255o hkx rfl) (lo := (-2147483648)) (hi := 2147483647) (rfl) (rg_all _) rfl
        have hF_477293 := fq_puta hF_477290 hI_477291 (ro_a hb_477255k (by decide) hb_477255o hkx rfl) (by decide) (by decide)
        refine g_aload_n C 0 dX1_forget_71 rfl rfl ?_
        refine g_getR C K hLx hkx f_1_27 hb_477256 dX1_forget_72 ?_
        refine g_iload_n C 1 dX1_forget_75 rfl rfl ?_
        refine g_iconst C (v := 0) dX1_forget_76 (by decide) ?_
        refine h_iast C K hb_477256L hb_477256k (v_477262.toNatClampNeg) (rfl) (ix_0 r_477284 (by decide)) (ix_lt r_477284 (by decide) hb_477256n (by decide)) dX1_forget_77 (fun I_477294 hI_477294 => ?_)
        have hU_477295 := iv_put W9 hU_477292 hI_477294 (ro_a hb_477256k (by decide) hb_477256o hkx rfl) (lo := (-2147483648)) (hi := 2147483647) (rfl) (rg_all _) rfl
        have hF_477296 := fq_puta hF_477293 hI_477294 (ro_a hb_477256k (by decide) hb_477256o hkx rfl) (by decide) (by decide)
        obtain ⟨x_477297, hx_477297, rx_477297, tx_477297⟩ := ex_add (y := 1) 1 7 r_477284 rc_1 (by decide) (by decide) (by decide) (by decide)
        refine g_iinc C dX1_forget_78 (k := 1) (v := x_477297) rfl hx_477297 (by decide) (lo2 := [(1, .int x_477297), (0, .ref x)]) rfl ?_
        refine g_goto C (tgt := 44) dX1_forget_81 (by decide) ?_
        refine g_lo (is := [1, 0]) (lo2 := [(0, .ref x), (1, .int x_477297)]) rfl ?_
        exact ih_44 I_477294 J_477258 hU_477295 hF_477296 hG_477261 x_477297 (rg_w rx_477297 (by decide) (by decide)) (ms_1 hm_477263 (ti_k tx_477297 rc_1) (by decide))
  have l_23 : ∀ (n_23 : Nat) (I_477298 : Nat → Nat → Int32) (J_477299 : Nat → Nat → Int64) (hU_477300 : Iv L κ R ow I_477298) (hF_477301 : Fq L κ ow [107, 108, 109, 110, 111, 112, 16100, 16200, 16300, 16400, 16500, 16600] I I_477298) (hG_477302 : Fq L κ ow [] J J_477299) (v_477303 : Int32) (rv_477303 : Rg 0 42 v_477303) (hm_477304 : 42 < (v_477303 : Int32).toInt + (n_23 : Int)), WG p l e { frames := 0, cells := 0, slots := 0, locals := 0 } s m ([.ref x] : List Value).toArray below meth c 2 0 0 (MQ below (Qv_ D cy L κ ln R (fun I2 J2 => Iv L κ R ow I2 ∧ Fq L κ ow [107, 108, 109, 110, 111, 112, 16100, 16200, 16300, 16400, 16500, 16600] I I2 ∧ Fq L κ ow [] J J2)) ([.ref x] : List Value).toArray s 0 0 (Al_ L)) D cy (Al_ L) s.heap L κ ln R I_477298 J_477299 23 [(0, .ref x), (1, .int v_477303)] [] := by
    intro n_23
    induction n_23 with
    | zero =>
      intro I_477298 J_477299 hU_477300 hF_477301 hG_477302 v_477303 rv_477303 hm_477304
      exact ms_0 rv_477303 hm_477304
    | succ n_23 ih_23 =>
      intro I_477298 J_477299 hU_477300 hF_477301 hG_477302 v_477303 rv_477303 hm_477304
      refine g_iload_n C 1 dX1_forget_23 rfl rfl ?_
      refine g_bipush C (v := 42) dX1_forget_24 (by decide) ?_
      refine g_icmp_ge C (tgt := 42) dX1_forget_26 (by decide) (fun h_477305 => ?_) (fun h_477305 => ?_)
      · skip
        have r_477306 := le_r (h_477305) rc_42 rv_477303
        refine g_iconst C (v := 0) dX1_forget_42 (by decide) ?_
        refine g_istore_n C dX1_forget_43 rfl (by decide) (lo2 := [(1, .int 0), (0, .ref x)]) rfl ?_
        refine g_lo (is := [1, 0]) (lo2 := [(0, .ref x), (1, .int 0)]) rfl ?_
        exact l_44 8 I_477298 J_477299 hU_477300 hF_477301 hG_477302 0 (rg_w rc_0 (by decide) (by decide)) (ms_s (a := 0) (b := 7) (N := 8) (rg_w rc_0 (by decide) (by decide)) (by decide))
      · skip
        have r_477307 := lt_l (hi := 41) (nle h_477305) rv_477303 rc_42 (by decide)
        refine g_aload_n C 0 dX1_forget_29 rfl rfl ?_
        refine g_getR C K hLx hkx f_1_15 hb_477252 dX1_forget_30 ?_
        refine g_iload_n C 1 dX1_forget_33 rfl rfl ?_
        refine g_iconst C (v := 0) dX1_forget_34 (by decide) ?_
        refine h_iast C K hb_477252L hb_477252k (v_477303.toNatClampNeg) (rfl) (ix_0 r_477307 (by decide)) (ix_lt r_477307 (by decide) hb_477252n (by decide)) dX1_forget_35 (fun I_477308 hI_477308 => ?_)
        have hU_477309 := iv_put W9 hU_477300 hI_477308 (ro_a hb_477252k (by decide) hb_477252o hkx rfl) (lo := (-2147483648)) (hi := 2147483647) (rfl) (rg_all _) rfl
        have hF_477310 := fq_puta hF_477301 hI_477308 (ro_a hb_477252k (by decide) hb_477252o hkx rfl) (by decide) (by decide)
        obtain ⟨x_477311, hx_477311, rx_477311, tx_477311⟩ := ex_add (y := 1) 1 42 r_477307 rc_1 (by decide) (by decide) (by decide) (by decide)
        refine g_iinc C dX1_forget_36 (k := 1) (v := x_477311) rfl hx_477311 (by decide) (lo2 := [(1, .int x_477311), (0, .ref x)]) rfl ?_
        refine g_goto C (tgt := 23) dX1_forget_39 (by decide) ?_
        refine g_lo (is := [1, 0]) (lo2 := [(0, .ref x), (1, .int x_477311)]) rfl ?_
        exact ih_23 I_477308 J_477299 hU_477309 hF_477310 hG_477302 x_477311 (rg_w rx_477311 (by decide) (by decide)) (ms_1 hm_477304 (ti_k tx_477311 rc_1) (by decide))
  have l_2 : ∀ (n_2 : Nat) (I_477312 : Nat → Nat → Int32) (J_477313 : Nat → Nat → Int64) (hU_477314 : Iv L κ R ow I_477312) (hF_477315 : Fq L κ ow [107, 108, 109, 110, 111, 112, 16100, 16200, 16300, 16400, 16500, 16600] I I_477312) (hG_477316 : Fq L κ ow [] J J_477313) (v_477317 : Int32) (rv_477317 : Rg 0 6 v_477317) (hm_477318 : 6 < (v_477317 : Int32).toInt + (n_2 : Int)), WG p l e { frames := 0, cells := 0, slots := 0, locals := 0 } s m ([.ref x] : List Value).toArray below meth c 2 0 0 (MQ below (Qv_ D cy L κ ln R (fun I2 J2 => Iv L κ R ow I2 ∧ Fq L κ ow [107, 108, 109, 110, 111, 112, 16100, 16200, 16300, 16400, 16500, 16600] I I2 ∧ Fq L κ ow [] J J2)) ([.ref x] : List Value).toArray s 0 0 (Al_ L)) D cy (Al_ L) s.heap L κ ln R I_477312 J_477313 2 [(0, .ref x), (1, .int v_477317)] [] := by
    intro n_2
    induction n_2 with
    | zero =>
      intro I_477312 J_477313 hU_477314 hF_477315 hG_477316 v_477317 rv_477317 hm_477318
      exact ms_0 rv_477317 hm_477318
    | succ n_2 ih_2 =>
      intro I_477312 J_477313 hU_477314 hF_477315 hG_477316 v_477317 rv_477317 hm_477318
      refine g_iload_n C 1 dX1_forget_2 rfl rfl ?_
      refine g_bipush C (v := 6) dX1_forget_3 (by decide) ?_
      refine g_icmp_ge C (tgt := 21) dX1_forget_5 (by decide) (fun h_477319 => ?_) (fun h_477319 => ?_)
      · skip
        have r_477320 := le_r (h_477319) rc_6 rv_477317
        refine g_iconst C (v := 0) dX1_forget_21 (by decide) ?_
        refine g_istore_n C dX1_forget_22 rfl (by decide) (lo2 := [(1, .int 0), (0, .ref x)]) rfl ?_
        refine g_lo (is := [1, 0]) (lo2 := [(0, .ref x), (1, .int 0)]) rfl ?_
        exact l_23 43 I_477312 J_477313 hU_477314 hF_477315 hG_477316 0 (rg_w rc_0 (by decide) (by decide)) (ms_s (a := 0) (b := 42) (N := 43) (rg_w rc_0 (by decide) (by decide)) (by decide))
      · skip
        have r_477321 := lt_l (hi := 5) (nle h_477319) rv_477317 rc_6 (by decide)
        refine g_aload_n C 0 dX1_forget_8 rfl rfl ?_
        refine g_getR C K hLx hkx f_1_9 hb_477254 dX1_forget_9 ?_
        refine g_iload_n C 1 dX1_forget_12 rfl rfl ?_
        refine g_iconst C (v := 0) dX1_forget_13 (by decide) ?_
        refine h_iast C K hb_477254L hb_477254k (v_477317.toNatClampNeg) (rfl) (ix_0 r_477321 (by decide)) (ix_lt r_477321 (by decide) hb_477254n (by decide)) dX1_forget_14 (fun I_477322 hI_477322 => ?_)
        have hU_477323 := iv_put W9 hU_477314 hI_477322 (ro_a hb_477254k (by decide) hb_477254o hkx rfl) (lo := (-2147483648)) (hi := 2147483647) (rfl) (rg_all _) rfl
        have hF_477324 := fq_puta hF_477315 hI_477322 (ro_a hb_477254k (by decide) hb_477254o hkx rfl) (by decide) (by decide)
        obtain ⟨x_477325, hx_477325, rx_477325, tx_477325⟩ := ex_add (y := 1) 1 6 r_477321 rc_1 (by decide) (by decide) (by decide) (by decide)
        refine g_iinc C dX1_forget_15 (k := 1) (v := x_477325) rfl hx_477325 (by decide) (lo2 := [(1, .int x_477325), (0, .ref x)]) rfl ?_
        refine g_goto C (tgt := 2) dX1_forget_18 (by decide) ?_
        refine g_lo (is := [1, 0]) (lo2 := [(0, .ref x), (1, .int x_477325)]) rfl ?_
        exact ih_2 I_477322 J_477313 hU_477323 hF_477324 hG_477316 x_477325 (rg_w rx_477325 (by decide) (by decide)) (ms_1 hm_477318 (ti_k tx_477325 rc_1) (by decide))
  refine g_iconst C (v := 0) dX1_forget_0 (by decide) ?_
  refine g_istore_n C dX1_forget_1 rfl (by decide) (lo2 := [(1, .int 0), (0, .ref x)]) rfl ?_
  refine g_lo (is := [1, 0]) (lo2 := [(0, .ref x), (1, .int 0)]) rfl ?_
  exact l_2 7 I J hU hF hG 0 (rg_w rc_0 (by decide) (by decide)) (ms_s (a := 0) (b := 6) (N := 7) (rg_w rc_0 (by decide) (by decide)) (by decide))
set_option maxRecDepth 100000 in
set_option maxHeartbeats 8000000 in
theorem c_X8_forget {l : Launch} {D : va_G} {cy : Nat → ClassId} {L : List Nat} {κ ln : Nat → Nat} {R : Nat → Nat → Option Nat} {I : Nat → Nat → Int32} {J : Nat → Nat → Int64} {ow : Nat → Nat × Nat} (W9 : ∀ a ∈ L, Shp L κ ln R ow a) {x : Nat} (hLx : x ∈ L) (hkx : κ x = 8) (hU : Iv L κ R ow I) : CtV l yX8_forget cX8_forget 1 none { frames := 0, cells := 0, slots := 0, locals := 0 } D cy L κ ln R I J [.ref x] (fun I2 J2 => Iv L κ R ow I2 ∧ Fq L κ ow [805, 806, 807, 808] I I2 ∧ Fq L κ ow [] J J2) := by
  refine CtV.of (by decide +kernel) (Nat.le_of_ble_eq_true rfl) ?_
  intro p e s m below meth c B K
  have C := B.1
  have hF : Fq L κ ow [805, 806, 807, 808] I I := fq_rf
  have hG : Fq L κ ow [] J J := fq_rf
  refine g_lo (is := [0]) (lo2 := [(0, .ref x)]) rfl ?_
  refine g_aload_n C 0 dX8_forget_0 rfl rfl ?_
  refine g_iconst C (v := 0) dX8_forget_1 (by decide) ?_
  refine h_putI C K hLx hkx f_8_28 p_8_5 dX8_forget_2 (fun I_477350 hI_477350 => ?_)
  have hU_477351 := iv_put W9 hU hI_477350 (ro_o hkx (by decide)) (lo := 0) (hi := 7) (rfl) (rg_w rc_0 (by decide) (by decide)) rfl
  have hF_477352 := fq_puto hF hI_477350 hkx (by decide) (by decide)
  refine g_aload_n C 0 dX8_forget_5 rfl rfl ?_
  refine g_iconst C (v := 0) dX8_forget_6 (by decide) ?_
  refine h_putI C K hLx hkx f_8_32 p_8_6 dX8_forget_7 (fun I_477353 hI_477353 => ?_)
  have hU_477354 := iv_put W9 hU_477351 hI_477353 (ro_o hkx (by decide)) (lo := 0) (hi := 6) (rfl) (rg_w rc_0 (by decide) (by decide)) rfl
  have hF_477355 := fq_puto hF_477352 hI_477353 hkx (by decide) (by decide)
  refine g_aload_n C 0 dX8_forget_10 rfl rfl ?_
  refine g_iconst C (v := 0) dX8_forget_11 (by decide) ?_
  refine h_putI C K hLx hkx f_8_35 p_8_7 dX8_forget_12 (fun I_477356 hI_477356 => ?_)
  have hU_477357 := iv_put W9 hU_477354 hI_477356 (ro_o hkx (by decide)) (lo := (-2147483648)) (hi := 2147483647) (rfl) (rg_all _) rfl
  have hF_477358 := fq_puto hF_477355 hI_477356 hkx (by decide) (by decide)
  refine g_aload_n C 0 dX8_forget_15 rfl rfl ?_
  refine g_iconst C (v := 0) dX8_forget_16 (by decide) ?_
  refine h_putI C K hLx hkx f_8_38 p_8_8 dX8_forget_17 (fun I_477359 hI_477359 => ?_)
  have hU_477360 := iv_put W9 hU_477357 hI_477359 (ro_o hkx (by decide)) (lo := (-2147483648)) (hi := 2147483647) (rfl) (rg_all _) rfl
  have hF_477361 := fq_puto hF_477358 hI_477359 hkx (by decide) (by decide)
  exact g_vret B K rfl ⟨hU_477360, hF_477361, hG⟩ dX8_forget_20
set_option maxRecDepth 100000 in
set_option maxHeartbeats 8000000 in
theorem c_X10_fail {l : Launch} {D : va_G} {cy : Nat → ClassId} {L : List Nat} {κ ln : Nat → Nat} {R : Nat → Nat → Option Nat} {I : Nat → Nat → Int32} {J : Nat → Nat → Int64} {ow : Nat → Nat × Nat} (W9 : ∀ a ∈ L, Shp L κ ln R ow a) {x : Nat} (hLx : x ∈ L) (hkx : κ x = 10) (a0 : Int32) (ra0 : Rg 1 4 a0) (hU : Iv L κ R ow I) : CtI l yX10_fail cX10_fail 2 (some .boolean) { frames := 0, cells := 0, slots := 0, locals := 0 } D cy L κ ln R I J [.ref x, .int a0] (fun r I2 J2 => Iv L κ R ow I2 ∧ Fq L κ ow [1011, 1012] I I2 ∧ Fq L κ ow [] J J2 ∧ Rg 0 0 r) := by
  refine CtI.of (by decide +kernel) (Nat.le_of_ble_eq_true rfl) ?_
  intro p e s m below meth c B K
  have C := B.1
  have hF : Fq L κ ow [1011, 1012] I I := fq_rf
  have hG : Fq L κ ow [] J J := fq_rf
  refine g_lo (is := [0, 1]) (lo2 := [(0, .ref x), (1, .int a0)]) rfl ?_
  refine g_aload_n C 0 dX10_fail_0 rfl rfl ?_
  obtain ⟨x_477384, hx_477384, rx_477384⟩ := ex_get (I := I) (a := x) (j := 11) (lo := (-2147483648)) (hi := 2147483647) hU.1 hLx (ro_o hkx (by decide)) rfl
  refine g_getI C K hLx hkx f_10_49 (v := x_477384) hx_477384 dX10_fail_1 ?_
  refine g_if_ne C (tgt := 20) dX10_fail_4 (by decide) (fun h_477385 => ?_) (fun h_477385 => ?_)
  · skip
    have n_477386 : ¬ x_477384 = 0 := h_477385
    refine g_iconst C (v := 0) dX10_fail_20 (by decide) ?_
    exact g_zret (ty := .boolean) (r := 0) B K rfl (rfl) ⟨hU, hF, hG, rc_0⟩ dX10_fail_21
  · skip
    have r_477387 := (⟨(eq_rg (h_477385) rc_0).1, (eq_rg (h_477385) rc_0).2⟩ : Rg 0 0 x_477384)
    refine g_aload_n C 0 dX10_fail_7 rfl rfl ?_
    refine g_iload_n C 1 dX10_fail_8 rfl rfl ?_
    refine h_putI C K hLx hkx f_10_49 p_10_11 dX10_fail_9 (fun I_477388 hI_477388 => ?_)
    have hU_477389 := iv_put W9 hU hI_477388 (ro_o hkx (by decide)) (lo := (-2147483648)) (hi := 2147483647) (rfl) (rg_all _) rfl
    have hF_477390 := fq_puto hF hI_477388 hkx (by decide) (by decide)
    refine g_aload_n C 0 dX10_fail_12 rfl rfl ?_
    refine g_aload_n C 0 dX10_fail_13 rfl rfl ?_
    obtain ⟨x_477391, hx_477391, rx_477391⟩ := ex_get (I := I_477388) (a := x) (j := 9) (lo := (-2147483648)) (hi := 2147483647) hU_477389.1 hLx (ro_o hkx (by decide)) rfl
    refine g_getI C K hLx hkx f_10_42 (v := x_477391) hx_477391 dX10_fail_14 ?_
    refine h_putI C K hLx hkx f_10_52 p_10_12 dX10_fail_17 (fun I_477392 hI_477392 => ?_)
    have hU_477393 := iv_put W9 hU_477389 hI_477392 (ro_o hkx (by decide)) (lo := (-2147483648)) (hi := 2147483647) (rfl) (rx_477391) rfl
    have hF_477394 := fq_puto hF_477390 hI_477392 hkx (by decide) (by decide)
    refine g_iconst C (v := 0) dX10_fail_20 (by decide) ?_
    exact g_zret (ty := .boolean) (r := 0) B K rfl (rfl) ⟨hU_477393, hF_477394, hG, rc_0⟩ dX10_fail_21
set_option maxRecDepth 100000 in
set_option maxHeartbeats 8000000 in
theorem c_X10_take {l : Launch} {D : va_G} {cy : Nat → ClassId} {L : List Nat} {κ ln : Nat → Nat} {R : Nat → Nat → Option Nat} {I : Nat → Nat → Int32} {J : Nat → Nat → Int64} {ow : Nat → Nat × Nat} (W9 : ∀ a ∈ L, Shp L κ ln R ow a) {x : Nat} (hLx : x ∈ L) (hkx : κ x = 10) (a0 : Int32) (ra0 : Rg 41 102 a0) (hU : Iv L κ R ow I) : CtI l yX10_take cX10_take 2 (some .boolean) { frames := 1, cells := 0, slots := 0, locals := 21 } D cy L κ ln R I J [.ref x, .int a0] (fun r I2 J2 => Iv L κ R ow I2 ∧ Fq L κ ow [1007, 1008, 1009, 1011, 1012] I I2 ∧ Fq L κ ow [1010] J J2 ∧ Rg 0 1 r) := by
  refine CtI.of (by decide +kernel) (Nat.le_of_ble_eq_true rfl) ?_
  intro p e s m below meth c B K
  have C := B.1
  have hF : Fq L κ ow [1007, 1008, 1009, 1011, 1012] I I := fq_rf
  have hG : Fq L κ ow [1010] J J := fq_rf
  refine g_lo (is := [0, 1]) (lo2 := [(0, .ref x), (1, .int a0)]) rfl ?_
  refine g_aload_n C 0 dX10_take_0 rfl rfl ?_
  obtain ⟨x_477425, hx_477425, rx_477425⟩ := ex_get (I := I) (a := x) (j := 8) (lo := (-2147483648)) (hi := 2147483647) hU.1 hLx (ro_o hkx (by decide)) rfl
  refine g_getI C K hLx hkx f_10_39 (v := x_477425) hx_477425 dX10_take_1 ?_
  refine g_iload_n C 1 dX10_take_4 rfl rfl ?_
  refine g_icmp_eq C (tgt := 14) dX10_take_5 (by decide) (fun h_477426 => ?_) (fun h_477426 => ?_)
  · skip
    have r_477427 := (⟨(eq_rg (h_477426) ra0).1, (eq_rg (h_477426) ra0).2⟩ : Rg 41 102 x_477425)
    refine g_aload_n C 0 dX10_take_14 rfl rfl ?_
    refine g_callVV C K (c_X10_advance W9 hLx hkx   hU) hLx hkx (by decide) rfl v_10_84 rfl ⟨rfl, rfl⟩ ⟨Nat.le_of_ble_eq_true rfl, Nat.le_of_ble_eq_true rfl⟩ (Nat.le_of_ble_eq_true rfl) ⟨Nat.le_of_ble_eq_true rfl, Nat.le_of_ble_eq_true rfl⟩ dX10_take_15 rfl (st := []) (fun I_477429 J_477430 h_477431 => ?_)
    obtain ⟨hUI_477429, hFI_477429, hGJ_477430⟩ := h_477431
    have hF_477432 := fq_tr hF hFI_477429 (by decide)
    have hG_477433 := fq_tr hG hGJ_477430 (by decide)
    refine g_iconst C (v := 1) dX10_take_18 (by decide) ?_
    exact g_zret (ty := .boolean) (r := 1) B K rfl (rfl) ⟨hUI_477429, hF_477432, hG_477433, rg_w rc_1 (by decide) (by decide)⟩ dX10_take_19
  · skip
    refine g_aload_n C 0 dX10_take_8 rfl rfl ?_
    refine g_iconst C (v := 1) dX10_take_9 (by decide) ?_
    refine g_callVI C K (c_X10_fail W9 hLx hkx 1 (rg_w rc_1 (by decide) (by decide)) hU) hLx hkx (by decide) rfl v_10_101 rfl ⟨rfl, rfl⟩ ⟨Nat.le_of_ble_eq_true rfl, Nat.le_of_ble_eq_true rfl⟩ (Nat.le_of_ble_eq_true rfl) ⟨Nat.le_of_ble_eq_true rfl, Nat.le_of_ble_eq_true rfl⟩ dX10_take_10 rfl (st := []) (fun x_477434 I_477435 J_477436 h_477437 => ?_)
    obtain ⟨hUI_477435, hFI_477435, hGJ_477436, rx_477434⟩ := h_477437
    have hF_477438 := fq_tr hF hFI_477435 (by decide)
    have hG_477439 := fq_tr hG hGJ_477436 (by decide)
    exact g_zret (ty := .boolean) (r := x_477434) B K rfl (nar_z (rg_w rx_477434 (by decide) (by decide))) ⟨hUI_477435, hF_477438, hG_477439, rg_w rx_477434 (by decide) (by decide)⟩ dX10_take_13
set_option maxRecDepth 100000 in
set_option maxHeartbeats 8000000 in
theorem c_X10_takeNumber {l : Launch} {D : va_G} {cy : Nat → ClassId} {L : List Nat} {κ ln : Nat → Nat} {R : Nat → Nat → Option Nat} {I : Nat → Nat → Int32} {J : Nat → Nat → Int64} {ow : Nat → Nat × Nat} (W9 : ∀ a ∈ L, Shp L κ ln R ow a) {x : Nat} (hLx : x ∈ L) (hkx : κ x = 10) (a0 : Int32) (a1 : Int32) (ra0 : Rg 0 1 a0) (ra1 : Rg 1 999 a1) (hU : Iv L κ R ow I) : CtI l yX10_takeNumber cX10_takeNumber 4 (some .int) { frames := 1, cells := 0, slots := 0, locals := 21 } D cy L κ ln R I J [.ref x, .int a0, .int a1] (fun r I2 J2 => Iv L κ R ow I2 ∧ Fq L κ ow [1007, 1008, 1009, 1011, 1012] I I2 ∧ Fq L κ ow [1010] J J2 ∧ Rg (-2147483648) 2147483647 r) := by
  refine CtI.of (by decide +kernel) (Nat.le_of_ble_eq_true rfl) ?_
  intro p e s m below meth c B K
  have C := B.1
  have hF : Fq L κ ow [1007, 1008, 1009, 1011, 1012] I I := fq_rf
  have hG : Fq L κ ow [1010] J J := fq_rf
  refine g_lo (is := [0, 1, 2]) (lo2 := [(0, .ref x), (1, .int a0), (2, .int a1)]) rfl ?_
  have j_37 : ∀ (I_477512 : Nat → Nat → Int32) (J_477513 : Nat → Nat → Int64) (hU_477514 : Iv L κ R ow I_477512) (hF_477515 : Fq L κ ow [1007, 1008, 1009, 1011, 1012] I I_477512) (hG_477516 : Fq L κ ow [1010] J J_477513) (v_477517 : Int32) (rv_477517 : Rg 0 1 v_477517) (v_477518 : Int32) (rv_477518 : Rg 1 999 v_477518) (v_477519 : Int32) (rv_477519 : Rg 101 101 v_477519) (q_477520 : I_477512 x 8 = v_477519), WG p l e { frames := 1, cells := 0, slots := 0, locals := 21 } s m ([.ref x, .int a0, .int a1] : List Value).toArray below meth c 4 0 0 (MQ below (Qi_ D cy L κ ln R (fun r I2 J2 => Iv L κ R ow I2 ∧ Fq L κ ow [1007, 1008, 1009, 1011, 1012] I I2 ∧ Fq L κ ow [1010] J J2 ∧ Rg (-2147483648) 2147483647 r)) ([.ref x, .int a0, .int a1] : List Value).toArray s 0 0 (Al_ L)) D cy (Al_ L) s.heap L κ ln R I_477512 J_477513 37 [(0, .ref x), (1, .int v_477517), (2, .int v_477518)] [] := by
    intro I_477512 J_477513 hU_477514 hF_477515 hG_477516 v_477517 rv_477517 v_477518 rv_477518 v_477519 rv_477519 q_477520
    refine g_aload_n C 0 dX10_takeNumber_37 rfl rfl ?_
    refine g_iconst C (v := 2) dX10_takeNumber_38 (by decide) ?_
    refine g_callVI C K (c_X10_fail W9 hLx hkx 2 (rg_w rc_2 (by decide) (by decide)) hU_477514) hLx hkx (by decide) rfl v_10_101 rfl ⟨rfl, rfl⟩ ⟨Nat.le_of_ble_eq_true rfl, Nat.le_of_ble_eq_true rfl⟩ (Nat.le_of_ble_eq_true rfl) ⟨Nat.le_of_ble_eq_true rfl, Nat.le_of_ble_eq_true rfl⟩ dX10_takeNumber_39 rfl (st := []) (fun x_477521 I_477522 J_477523 h_477524 => ?_)
    obtain ⟨hUI_477522, hFI_477522, hGJ_477523, rx_477521⟩ := h_477524
    have hF_477525 := fq_tr hF_477515 hFI_477522 (by decide)
    have hG_477526 := fq_tr hG_477516 hGJ_477523 (by decide)
    refine g_pop C dX10_takeNumber_42 rfl ?_
    refine g_iconst C (v := (-1)) dX10_takeNumber_43 (by decide) ?_
    exact g_zret (ty := .int) (r := (-1)) B K rfl (rfl) ⟨hUI_477522, hF_477525, hG_477526, rg_all _⟩ dX10_takeNumber_44
  refine g_aload_n C 0 dX10_takeNumber_0 rfl rfl ?_
  obtain ⟨x_477527, hx_477527, rx_477527⟩ := ex_get (I := I) (a := x) (j := 8) (lo := (-2147483648)) (hi := 2147483647) hU.1 hLx (ro_o hkx (by decide)) rfl
  refine g_getI C K hLx hkx f_10_39 (v := x_477527) hx_477527 dX10_takeNumber_1 ?_
  refine g_bipush C (v := 101) dX10_takeNumber_4 (by decide) ?_
  refine g_icmp_eq C (tgt := 17) dX10_takeNumber_6 (by decide) (fun h_477528 => ?_) (fun h_477528 => ?_)
  · skip
    have r_477529 := (⟨(eq_rg (h_477528) rc_101).1, (eq_rg (h_477528) rc_101).2⟩ : Rg 101 101 x_477527)
    refine g_aload_n C 0 dX10_takeNumber_17 rfl rfl ?_
    obtain ⟨y_477530, hy_477530⟩ : ∃ z, J x 10 = z := ⟨_, rfl⟩
    refine g_getJ C K hLx hkx f_10_45 (v := y_477530) hy_477530 dX10_takeNumber_18 ?_
    refine g_iload_n C 1 dX10_takeNumber_21 rfl rfl ?_
    obtain ⟨y_477531, hy_477531⟩ : ∃ z, Int32.toInt64 a0 = z := ⟨_, rfl⟩
    refine g_i2l C (v := y_477531) dX10_takeNumber_22 hy_477531 ?_
    refine g_lcmp C dX10_takeNumber_23 (fun x_477532 rx_477532 => ?_)
    refine g_if_lt C (tgt := 37) dX10_takeNumber_24 (by decide) (fun h_477533 => ?_) (fun h_477533 => ?_)
    · skip
      have r_477534 := lt_l (hi := (-1)) (h_477533) rx_477532 rc_0 (by decide)
      refine g_lo (is := [0, 1, 2]) (lo2 := [(0, .ref x), (1, .int a0), (2, .int a1)]) rfl ?_
      exact j_37 I J hU hF hG a0 (ra0) a1 (ra1) x_477527 (r_477529) hx_477527
    · skip
      have r_477535 := le_r (nlt h_477533) rc_0 rx_477532
      refine g_aload_n C 0 dX10_takeNumber_27 rfl rfl ?_
      obtain ⟨y_477536, hy_477536⟩ : ∃ z, J x 10 = z := ⟨_, rfl⟩
      refine g_getJ C K hLx hkx f_10_45 (v := y_477536) hy_477536 dX10_takeNumber_28 ?_
      refine g_iload_n C 2 dX10_takeNumber_31 rfl rfl ?_
      obtain ⟨y_477537, hy_477537⟩ : ∃ z, Int32.toInt64 a1 = z := ⟨_, rfl⟩
      refine g_i2l C (v := y_477537) dX10_takeNumber_32 hy_477537 ?_
      refine g_lcmp C dX10_takeNumber_33 (fun x_477538 rx_477538 => ?_)
      refine g_if_le C (tgt := 45) dX10_takeNumber_34 (by decide) (fun h_477539 => ?_) (fun h_477539 => ?_)
      · skip
        have r_477540 := le_l (h_477539) rx_477538 rc_0
        refine g_aload_n C 0 dX10_takeNumber_45 rfl rfl ?_
        obtain ⟨y_477541, hy_477541⟩ : ∃ z, J x 10 = z := ⟨_, rfl⟩
        refine g_getJ C K hLx hkx f_10_45 (v := y_477541) hy_477541 dX10_takeNumber_46 ?_
        obtain ⟨x_477542, hx_477542, rx_477542⟩ := ex_any (z0 := Int64.toInt32 y_477541)
        refine g_l2i C (v := x_477542) dX10_takeNumber_49 hx_477542 ?_
        refine g_istore_n C dX10_takeNumber_50 rfl (by decide) (lo2 := [(3, .int x_477542), (0, .ref x), (1, .int a0), (2, .int a1)]) rfl ?_
        refine g_aload_n C 1 dX10_takeNumber_51 rfl rfl ?_
        refine g_callVV C K (c_X10_advance W9 hLx hkx   hU) hLx hkx (by decide) rfl v_10_84 rfl ⟨rfl, rfl⟩ ⟨Nat.le_of_ble_eq_true rfl, Nat.le_of_ble_eq_true rfl⟩ (Nat.le_of_ble_eq_true rfl) ⟨Nat.le_of_ble_eq_true rfl, Nat.le_of_ble_eq_true rfl⟩ dX10_takeNumber_52 rfl (st := []) (fun I_477544 J_477545 h_477546 => ?_)
        obtain ⟨hUI_477544, hFI_477544, hGJ_477545⟩ := h_477546
        have hF_477547 := fq_tr hF hFI_477544 (by decide)
        have hG_477548 := fq_tr hG hGJ_477545 (by decide)
        refine g_iload_n C 0 dX10_takeNumber_55 rfl rfl ?_
        exact g_zret (ty := .int) (r := x_477542) B K rfl (rfl) ⟨hUI_477544, hF_477547, hG_477548, rx_477542⟩ dX10_takeNumber_56
      · skip
        have r_477549 := lt_r (lo := 1) (nle h_477539) rc_0 rx_477538 (by decide)
        refine g_lo (is := [0, 1, 2]) (lo2 := [(0, .ref x), (1, .int a0), (2, .int a1)]) rfl ?_
        exact j_37 I J hU hF hG a0 (ra0) a1 (ra1) x_477527 (r_477529) hx_477527
  · skip
    have n_477550 : ¬ x_477527 = 101 := h_477528
    refine g_aload_n C 0 dX10_takeNumber_9 rfl rfl ?_
    refine g_iconst C (v := 1) dX10_takeNumber_10 (by decide) ?_
    refine g_callVI C K (c_X10_fail W9 hLx hkx 1 (rg_w rc_1 (by decide) (by decide)) hU) hLx hkx (by decide) rfl v_10_101 rfl ⟨rfl, rfl⟩ ⟨Nat.le_of_ble_eq_true rfl, Nat.le_of_ble_eq_true rfl⟩ (Nat.le_of_ble_eq_true rfl) ⟨Nat.le_of_ble_eq_true rfl, Nat.le_of_ble_eq_true rfl⟩ dX10_takeNumber_11 rfl (st := []) (fun x_477551 I_477552 J_477553 h_477554 => ?_)
    obtain ⟨hUI_477552, hFI_477552, hGJ_477553, rx_477551⟩ := h_477554
    have hF_477555 := fq_tr hF hFI_477552 (by decide)
    have hG_477556 := fq_tr hG hGJ_477553 (by decide)
    refine g_pop C dX10_takeNumber_14 rfl ?_
    refine g_iconst C (v := (-1)) dX10_takeNumber_15 (by decide) ?_
    exact g_zret (ty := .int) (r := (-1)) B K rfl (rfl) ⟨hUI_477552, hF_477555, hG_477556, rg_all _⟩ dX10_takeNumber_16
set_option maxRecDepth 100000 in
set_option maxHeartbeats 8000000 in
theorem c_X8_dishNamed {l : Launch} {D : va_G} {cy : Nat → ClassId} {L : List Nat} {κ ln : Nat → Nat} {R : Nat → Nat → Option Nat} {I : Nat → Nat → Int32} {J : Nat → Nat → Int64} {ow : Nat → Nat × Nat} (W9 : ∀ a ∈ L, Shp L κ ln R ow a) {x : Nat} (hLx : x ∈ L) (hkx : κ x = 8) (a0 : Int64) (hU : Iv L κ R ow I) : CtI l yX8_dishNamed cX8_dishNamed 4 (some .int) { frames := 0, cells := 0, slots := 0, locals := 0 } D cy L κ ln R I J [.ref x, .long a0] (fun r I2 J2 => I = I2 ∧ J = J2 ∧ Rg (-1) 5 r) := by
  refine CtI.of (by decide +kernel) (Nat.le_of_ble_eq_true rfl) ?_
  intro p e s m below meth c B K
  have C := B.1
  obtain ⟨b_477637, hb_477637, hb_477637L, hb_477637k, hb_477637n, hb_477637o⟩ := shp_a (W9 x hLx) hkx 3 15 6 rfl (by decide)
  refine g_lo (is := [0, 1]) (lo2 := [(0, .ref x), (1, .long a0)]) rfl ?_
  have l_2 : ∀ (n_2 : Nat) (y_477638 : Int64) (v_477639 : Int32) (rv_477639 : Rg 0 6 v_477639) (hm_477640 : 6 < (v_477639 : Int32).toInt + (n_2 : Int)), WG p l e { frames := 0, cells := 0, slots := 0, locals := 0 } s m ([.ref x, .long a0] : List Value).toArray below meth c 4 0 0 (MQ below (Qi_ D cy L κ ln R (fun r I2 J2 => I = I2 ∧ J = J2 ∧ Rg (-1) 5 r)) ([.ref x, .long a0] : List Value).toArray s 0 0 (Al_ L)) D cy (Al_ L) s.heap L κ ln R I J 2 [(0, .ref x), (1, .long y_477638), (3, .int v_477639)] [] := by
    intro n_2
    induction n_2 with
    | zero =>
      intro y_477638 v_477639 rv_477639 hm_477640
      exact ms_0 rv_477639 hm_477640
    | succ n_2 ih_2 =>
      intro y_477638 v_477639 rv_477639 hm_477640
      refine g_iload_n C 2 dX8_dishNamed_2 rfl rfl ?_
      refine g_aload_n C 0 dX8_dishNamed_3 rfl rfl ?_
      obtain ⟨x_477641, hx_477641, rx_477641⟩ := ex_get (I := I) (a := x) (j := 6) (lo := 0) (hi := 6) hU.1 hLx (ro_o hkx (by decide)) rfl
      refine g_getI C K hLx hkx f_8_32 (v := x_477641) hx_477641 dX8_dishNamed_4 ?_
      refine g_icmp_ge C (tgt := 29) dX8_dishNamed_7 (by decide) (fun h_477642 => ?_) (fun h_477642 => ?_)
      · skip
        refine g_iconst C (v := (-1)) dX8_dishNamed_29 (by decide) ?_
        exact g_zret (ty := .int) (r := (-1)) B K rfl (rfl) ⟨rfl, rfl, rg_w rc_m1 (by decide) (by decide)⟩ dX8_dishNamed_30
      · skip
        have r_477643 := lt_l (hi := 5) (nle h_477642) rv_477639 rx_477641 (by decide)
        have r_477644 := lt_r (lo := 1) (nle h_477642) rv_477639 rx_477641 (by decide)
        refine g_aload_n C 0 dX8_dishNamed_10 rfl rfl ?_
        refine g_getR C K hLx hkx f_8_22 hb_477637 dX8_dishNamed_11 ?_
        refine g_iload_n C 2 dX8_dishNamed_14 rfl rfl ?_
        obtain ⟨y_477645, hy_477645⟩ : ∃ z, J b_477637 (v_477639.toNatClampNeg) = z := ⟨_, rfl⟩
        refine h_lald C K hb_477637L hb_477637k (v := y_477645) (v_477639.toNatClampNeg) (rfl) (ix_0 r_477643 (by decide)) (ix_lt r_477643 (by decide) hb_477637n (by decide)) hy_477645 dX8_dishNamed_15 ?_
        refine g_lload_n C 1 dX8_dishNamed_16 rfl rfl ?_
        refine g_lcmp C dX8_dishNamed_17 (fun x_477646 rx_477646 => ?_)
        refine g_if_ne C (tgt := 23) dX8_dishNamed_18 (by decide) (fun h_477647 => ?_) (fun h_477647 => ?_)
        · skip
          have n_477648 : ¬ x_477646 = 0 := h_477647
          obtain ⟨x_477649, hx_477649, rx_477649, tx_477649⟩ := ex_add (y := 1) 1 6 r_477643 rc_1 (by decide) (by decide) (by decide) (by decide)
          refine g_iinc C dX8_dishNamed_23 (k := 2) (v := x_477649) rfl hx_477649 (by decide) (lo2 := [(3, .int x_477649), (0, .ref x), (1, .long y_477638)]) rfl ?_
          refine g_goto C (tgt := 2) dX8_dishNamed_26 (by decide) ?_
          refine g_lo (is := [1, 2, 0]) (lo2 := [(0, .ref x), (1, .long y_477638), (3, .int x_477649)]) rfl ?_
          exact ih_2 y_477638 x_477649 (rg_w rx_477649 (by decide) (by decide)) (ms_1 hm_477640 (ti_k tx_477649 rc_1) (by decide))
        · skip
          have r_477650 := (⟨(eq_rg (h_477647) rc_0).1, (eq_rg (h_477647) rc_0).2⟩ : Rg 0 0 x_477646)
          refine g_iload_n C 2 dX8_dishNamed_21 rfl rfl ?_
          exact g_zret (ty := .int) (r := v_477639) B K rfl (rfl) ⟨rfl, rfl, rg_w r_477643 (by decide) (by decide)⟩ dX8_dishNamed_22
  refine g_iconst C (v := 0) dX8_dishNamed_0 (by decide) ?_
  refine g_istore_n C dX8_dishNamed_1 rfl (by decide) (lo2 := [(3, .int 0), (0, .ref x), (1, .long a0)]) rfl ?_
  refine g_lo (is := [1, 2, 0]) (lo2 := [(0, .ref x), (1, .long a0), (3, .int 0)]) rfl ?_
  exact l_2 7 a0 0 (rg_w rc_0 (by decide) (by decide)) (ms_s (a := 0) (b := 6) (N := 7) (rg_w rc_0 (by decide) (by decide)) (by decide))
set_option maxRecDepth 100000 in
set_option maxHeartbeats 8000000 in
theorem c_X8_personNamed {l : Launch} {D : va_G} {cy : Nat → ClassId} {L : List Nat} {κ ln : Nat → Nat} {R : Nat → Nat → Option Nat} {I : Nat → Nat → Int32} {J : Nat → Nat → Int64} {ow : Nat → Nat × Nat} (W9 : ∀ a ∈ L, Shp L κ ln R ow a) {x : Nat} (hLx : x ∈ L) (hkx : κ x = 8) (a0 : Int64) (hU : Iv L κ R ow I) : CtI l yX8_personNamed cX8_personNamed 4 (some .int) { frames := 0, cells := 0, slots := 0, locals := 0 } D cy L κ ln R I J [.ref x, .long a0] (fun r I2 J2 => I = I2 ∧ J = J2 ∧ Rg (-1) 6 r) := by
  refine CtI.of (by decide +kernel) (Nat.le_of_ble_eq_true rfl) ?_
  intro p e s m below meth c B K
  have C := B.1
  obtain ⟨b_477741, hb_477741, hb_477741L, hb_477741k, hb_477741n, hb_477741o⟩ := shp_a (W9 x hLx) hkx 0 15 7 rfl (by decide)
  refine g_lo (is := [0, 1]) (lo2 := [(0, .ref x), (1, .long a0)]) rfl ?_
  have l_2 : ∀ (n_2 : Nat) (y_477742 : Int64) (v_477743 : Int32) (rv_477743 : Rg 0 7 v_477743) (hm_477744 : 7 < (v_477743 : Int32).toInt + (n_2 : Int)), WG p l e { frames := 0, cells := 0, slots := 0, locals := 0 } s m ([.ref x, .long a0] : List Value).toArray below meth c 4 0 0 (MQ below (Qi_ D cy L κ ln R (fun r I2 J2 => I = I2 ∧ J = J2 ∧ Rg (-1) 6 r)) ([.ref x, .long a0] : List Value).toArray s 0 0 (Al_ L)) D cy (Al_ L) s.heap L κ ln R I J 2 [(0, .ref x), (1, .long y_477742), (3, .int v_477743)] [] := by
    intro n_2
    induction n_2 with
    | zero =>
      intro y_477742 v_477743 rv_477743 hm_477744
      exact ms_0 rv_477743 hm_477744
    | succ n_2 ih_2 =>
      intro y_477742 v_477743 rv_477743 hm_477744
      refine g_iload_n C 2 dX8_personNamed_2 rfl rfl ?_
      refine g_aload_n C 0 dX8_personNamed_3 rfl rfl ?_
      obtain ⟨x_477745, hx_477745, rx_477745⟩ := ex_get (I := I) (a := x) (j := 5) (lo := 0) (hi := 7) hU.1 hLx (ro_o hkx (by decide)) rfl
      refine g_getI C K hLx hkx f_8_28 (v := x_477745) hx_477745 dX8_personNamed_4 ?_
      refine g_icmp_ge C (tgt := 29) dX8_personNamed_7 (by decide) (fun h_477746 => ?_) (fun h_477746 => ?_)
      · skip
        refine g_iconst C (v := (-1)) dX8_personNamed_29 (by decide) ?_
        exact g_zret (ty := .int) (r := (-1)) B K rfl (rfl) ⟨rfl, rfl, rg_w rc_m1 (by decide) (by decide)⟩ dX8_personNamed_30
      · skip
        have r_477747 := lt_l (hi := 6) (nle h_477746) rv_477743 rx_477745 (by decide)
        have r_477748 := lt_r (lo := 1) (nle h_477746) rv_477743 rx_477745 (by decide)
        refine g_aload_n C 0 dX8_personNamed_10 rfl rfl ?_
        refine g_getR C K hLx hkx f_8_9 hb_477741 dX8_personNamed_11 ?_
        refine g_iload_n C 2 dX8_personNamed_14 rfl rfl ?_
        obtain ⟨y_477749, hy_477749⟩ : ∃ z, J b_477741 (v_477743.toNatClampNeg) = z := ⟨_, rfl⟩
        refine h_lald C K hb_477741L hb_477741k (v := y_477749) (v_477743.toNatClampNeg) (rfl) (ix_0 r_477747 (by decide)) (ix_lt r_477747 (by decide) hb_477741n (by decide)) hy_477749 dX8_personNamed_15 ?_
        refine g_lload_n C 1 dX8_personNamed_16 rfl rfl ?_
        refine g_lcmp C dX8_personNamed_17 (fun x_477750 rx_477750 => ?_)
        refine g_if_ne C (tgt := 23) dX8_personNamed_18 (by decide) (fun h_477751 => ?_) (fun h_477751 => ?_)
        · skip
          have n_477752 : ¬ x_477750 = 0 := h_477751
          obtain ⟨x_477753, hx_477753, rx_477753, tx_477753⟩ := ex_add (y := 1) 1 7 r_477747 rc_1 (by decide) (by decide) (by decide) (by decide)
          refine g_iinc C dX8_personNamed_23 (k := 2) (v := x_477753) rfl hx_477753 (by decide) (lo2 := [(3, .int x_477753), (0, .ref x), (1, .long y_477742)]) rfl ?_
          refine g_goto C (tgt := 2) dX8_personNamed_26 (by decide) ?_
          refine g_lo (is := [1, 2, 0]) (lo2 := [(0, .ref x), (1, .long y_477742), (3, .int x_477753)]) rfl ?_
          exact ih_2 y_477742 x_477753 (rg_w rx_477753 (by decide) (by decide)) (ms_1 hm_477744 (ti_k tx_477753 rc_1) (by decide))
        · skip
          have r_477754 := (⟨(eq_rg (h_477751) rc_0).1, (eq_rg (h_477751) rc_0).2⟩ : Rg 0 0 x_477750)
          refine g_iload_n C 2 dX8_personNamed_21 rfl rfl ?_
          exact g_zret (ty := .int) (r := v_477743) B K rfl (rfl) ⟨rfl, rfl, rg_w r_477747 (by decide) (by decide)⟩ dX8_personNamed_22
  refine g_iconst C (v := 0) dX8_personNamed_0 (by decide) ?_
  refine g_istore_n C dX8_personNamed_1 rfl (by decide) (lo2 := [(3, .int 0), (0, .ref x), (1, .long a0)]) rfl ?_
  refine g_lo (is := [1, 2, 0]) (lo2 := [(0, .ref x), (1, .long a0), (3, .int 0)]) rfl ?_
  exact l_2 8 a0 0 (rg_w rc_0 (by decide) (by decide)) (ms_s (a := 0) (b := 7) (N := 8) (rg_w rc_0 (by decide) (by decide)) (by decide))
set_option maxRecDepth 100000 in
set_option maxHeartbeats 8000000 in
theorem c_X9_newName {l : Launch} {D : va_G} {cy : Nat → ClassId} {L : List Nat} {κ ln : Nat → Nat} {R : Nat → Nat → Option Nat} {I : Nat → Nat → Int32} {J : Nat → Nat → Int64} {ow : Nat → Nat × Nat} (W9 : ∀ a ∈ L, Shp L κ ln R ow a) {x : Nat} (hLx : x ∈ L) (hkx : κ x = 9) {a0 : Nat} (hLa0 : a0 ∈ L) (hka0 : κ a0 = 10) (hU : Iv L κ R ow I) : CtI l yX9_newName cX9_newName 2 (some .boolean) { frames := 1, cells := 0, slots := 0, locals := 23 } D cy L κ ln R I J [.ref x, .ref a0] (fun r I2 J2 => Iv L κ R ow I2 ∧ Fq L κ ow [1007, 1008, 1009, 1011, 1012] I I2 ∧ Fq L κ ow [1010] J J2 ∧ Rg 0 1 r) := by
  refine CtI.of (by decide +kernel) (Nat.le_of_ble_eq_true rfl) ?_
  intro p e s m below meth c B K
  have C := B.1
  have hF : Fq L κ ow [1007, 1008, 1009, 1011, 1012] I I := fq_rf
  have hG : Fq L κ ow [1010] J J := fq_rf
  obtain ⟨b_477837, hb_477837, hb_477837L, hb_477837k⟩ := shp_o (W9 x hLx) hkx 0 8 rfl (by decide)
  refine g_lo (is := [0, 1]) (lo2 := [(0, .ref x), (1, .ref a0)]) rfl ?_
  have j_45 : ∀ (I_477838 : Nat → Nat → Int32) (J_477839 : Nat → Nat → Int64) (hU_477840 : Iv L κ R ow I_477838) (hF_477841 : Fq L κ ow [1007, 1008, 1009, 1011, 1012] I I_477838) (hG_477842 : Fq L κ ow [1010] J J_477839) (v_477843 : Int32) (rv_477843 : Rg 100 100 v_477843) (q_477844 : I_477838 a0 8 = v_477843), WG p l e { frames := 1, cells := 0, slots := 0, locals := 23 } s m ([.ref x, .ref a0] : List Value).toArray below meth c 2 0 0 (MQ below (Qi_ D cy L κ ln R (fun r I2 J2 => Iv L κ R ow I2 ∧ Fq L κ ow [1007, 1008, 1009, 1011, 1012] I I2 ∧ Fq L κ ow [1010] J J2 ∧ Rg 0 1 r)) ([.ref x, .ref a0] : List Value).toArray s 0 0 (Al_ L)) D cy (Al_ L) s.heap L κ ln R I_477838 J_477839 45 [(0, .ref x), (1, .ref a0)] [] := by
    intro I_477838 J_477839 hU_477840 hF_477841 hG_477842 v_477843 rv_477843 q_477844
    refine g_aload_n C 1 dX9_newName_45 rfl rfl ?_
    refine g_iconst C (v := 3) dX9_newName_46 (by decide) ?_
    refine g_callVI C K (c_X10_fail W9 hLa0 hka0 3 (rg_w rc_3 (by decide) (by decide)) hU_477840) hLa0 hka0 (by decide) rfl v_9_67 rfl ⟨rfl, rfl⟩ ⟨Nat.le_of_ble_eq_true rfl, Nat.le_of_ble_eq_true rfl⟩ (Nat.le_of_ble_eq_true rfl) ⟨Nat.le_of_ble_eq_true rfl, Nat.le_of_ble_eq_true rfl⟩ dX9_newName_47 rfl (st := []) (fun x_477845 I_477846 J_477847 h_477848 => ?_)
    obtain ⟨hUI_477846, hFI_477846, hGJ_477847, rx_477845⟩ := h_477848
    have hF_477849 := fq_tr hF_477841 hFI_477846 (by decide)
    have hG_477850 := fq_tr hG_477842 hGJ_477847 (by decide)
    exact g_zret (ty := .boolean) (r := x_477845) B K rfl (nar_z (rg_w rx_477845 (by decide) (by decide))) ⟨hUI_477846, hF_477849, hG_477850, rg_w rx_477845 (by decide) (by decide)⟩ dX9_newName_50
  refine g_aload_n C 1 dX9_newName_0 rfl rfl ?_
  obtain ⟨x_477851, hx_477851, rx_477851⟩ := ex_get (I := I) (a := a0) (j := 8) (lo := (-2147483648)) (hi := 2147483647) hU.1 hLa0 (ro_o hka0 (by decide)) rfl
  refine g_getI C K hLa0 hka0 f_9_44 (v := x_477851) hx_477851 dX9_newName_1 ?_
  refine g_bipush C (v := 100) dX9_newName_4 (by decide) ?_
  refine g_icmp_eq C (tgt := 15) dX9_newName_6 (by decide) (fun h_477852 => ?_) (fun h_477852 => ?_)
  · skip
    have r_477853 := (⟨(eq_rg (h_477852) rc_100).1, (eq_rg (h_477852) rc_100).2⟩ : Rg 100 100 x_477851)
    refine g_aload_n C 0 dX9_newName_15 rfl rfl ?_
    refine g_getR C K hLx hkx f_9_12 hb_477837 dX9_newName_16 ?_
    refine g_aload_n C 1 dX9_newName_19 rfl rfl ?_
    obtain ⟨y_477854, hy_477854⟩ : ∃ z, J a0 10 = z := ⟨_, rfl⟩
    refine g_getJ C K hLa0 hka0 f_9_71 (v := y_477854) hy_477854 dX9_newName_20 ?_
    refine g_callVI C K (c_X8_personNamed W9 hb_477837L hb_477837k y_477854  hU) hb_477837L hb_477837k (by decide) rfl v_9_75 rfl ⟨rfl, rfl⟩ ⟨Nat.le_of_ble_eq_true rfl, Nat.le_of_ble_eq_true rfl⟩ (Nat.le_of_ble_eq_true rfl) ⟨Nat.le_of_ble_eq_true rfl, Nat.le_of_ble_eq_true rfl⟩ dX9_newName_23 rfl (st := []) (fun x_477855 I_477856 J_477857 h_477858 => ?_)
    obtain ⟨rfl, rfl, rx_477855⟩ := h_477858
    refine g_iconst C (v := (-1)) dX9_newName_26 (by decide) ?_
    refine g_icmp_ne C (tgt := 45) dX9_newName_27 (by decide) (fun h_477859 => ?_) (fun h_477859 => ?_)
    · skip
      have n_477860 : ¬ x_477855 = (-1) := h_477859
      have r_477861 := ne_lo (lo := 0) n_477860 rx_477855 rc_m1 rfl (by decide)
      refine g_lo (is := [0, 1]) (lo2 := [(0, .ref x), (1, .ref a0)]) rfl ?_
      exact j_45 I J hU hF hG x_477851 (r_477853) hx_477851
    · skip
      have r_477862 := (⟨(rx_477855).1, (eq_rg (h_477859) rc_m1).2⟩ : Rg (-1) (-1) x_477855)
      refine g_aload_n C 0 dX9_newName_30 rfl rfl ?_
      refine g_getR C K hLx hkx f_9_12 hb_477837 dX9_newName_31 ?_
      refine g_aload_n C 1 dX9_newName_34 rfl rfl ?_
      obtain ⟨y_477863, hy_477863⟩ : ∃ z, J a0 10 = z := ⟨_, rfl⟩
      refine g_getJ C K hLa0 hka0 f_9_71 (v := y_477863) hy_477863 dX9_newName_35 ?_
      refine g_callVI C K (c_X8_dishNamed W9 hb_477837L hb_477837k y_477863  hU) hb_477837L hb_477837k (by decide) rfl v_9_79 rfl ⟨rfl, rfl⟩ ⟨Nat.le_of_ble_eq_true rfl, Nat.le_of_ble_eq_true rfl⟩ (Nat.le_of_ble_eq_true rfl) ⟨Nat.le_of_ble_eq_true rfl, Nat.le_of_ble_eq_true rfl⟩ dX9_newName_38 rfl (st := []) (fun x_477864 I_477865 J_477866 h_477867 => ?_)
      obtain ⟨rfl, rfl, rx_477864⟩ := h_477867
      refine g_iconst C (v := (-1)) dX9_newName_41 (by decide) ?_
      refine g_icmp_eq C (tgt := 51) dX9_newName_42 (by decide) (fun h_477868 => ?_) (fun h_477868 => ?_)
      · skip
        have r_477869 := (⟨(rx_477864).1, (eq_rg (h_477868) rc_m1).2⟩ : Rg (-1) (-1) x_477864)
        refine g_aload_n C 1 dX9_newName_51 rfl rfl ?_
        refine g_callVV C K (c_X10_advance W9 hLa0 hka0   hU) hLa0 hka0 (by decide) rfl v_9_82 rfl ⟨rfl, rfl⟩ ⟨Nat.le_of_ble_eq_true rfl, Nat.le_of_ble_eq_true rfl⟩ (Nat.le_of_ble_eq_true rfl) ⟨Nat.le_of_ble_eq_true rfl, Nat.le_of_ble_eq_true rfl⟩ dX9_newName_52 rfl (st := []) (fun I_477871 J_477872 h_477873 => ?_)
        obtain ⟨hUI_477871, hFI_477871, hGJ_477872⟩ := h_477873
        have hF_477874 := fq_tr hF hFI_477871 (by decide)
        have hG_477875 := fq_tr hG hGJ_477872 (by decide)
        refine g_iconst C (v := 1) dX9_newName_55 (by decide) ?_
        exact g_zret (ty := .boolean) (r := 1) B K rfl (rfl) ⟨hUI_477871, hF_477874, hG_477875, rg_w rc_1 (by decide) (by decide)⟩ dX9_newName_56
      · skip
        have n_477876 : ¬ x_477864 = (-1) := h_477868
        have r_477877 := ne_lo (lo := 0) n_477876 rx_477864 rc_m1 rfl (by decide)
        refine g_lo (is := [0, 1]) (lo2 := [(0, .ref x), (1, .ref a0)]) rfl ?_
        exact j_45 I J hU hF hG x_477851 (r_477853) hx_477851
  · skip
    have n_477878 : ¬ x_477851 = 100 := h_477852
    refine g_aload_n C 1 dX9_newName_9 rfl rfl ?_
    refine g_iconst C (v := 1) dX9_newName_10 (by decide) ?_
    refine g_callVI C K (c_X10_fail W9 hLa0 hka0 1 (rg_w rc_1 (by decide) (by decide)) hU) hLa0 hka0 (by decide) rfl v_9_67 rfl ⟨rfl, rfl⟩ ⟨Nat.le_of_ble_eq_true rfl, Nat.le_of_ble_eq_true rfl⟩ (Nat.le_of_ble_eq_true rfl) ⟨Nat.le_of_ble_eq_true rfl, Nat.le_of_ble_eq_true rfl⟩ dX9_newName_11 rfl (st := []) (fun x_477879 I_477880 J_477881 h_477882 => ?_)
    obtain ⟨hUI_477880, hFI_477880, hGJ_477881, rx_477879⟩ := h_477882
    have hF_477883 := fq_tr hF hFI_477880 (by decide)
    have hG_477884 := fq_tr hG hGJ_477881 (by decide)
    exact g_zret (ty := .boolean) (r := x_477879) B K rfl (nar_z (rg_w rx_477879 (by decide) (by decide))) ⟨hUI_477880, hF_477883, hG_477884, rg_w rx_477879 (by decide) (by decide)⟩ dX9_newName_14
set_option maxRecDepth 100000 in
set_option maxHeartbeats 8000000 in
theorem c_X9_readDish {l : Launch} {D : va_G} {cy : Nat → ClassId} {L : List Nat} {κ ln : Nat → Nat} {R : Nat → Nat → Option Nat} {I : Nat → Nat → Int32} {J : Nat → Nat → Int64} {ow : Nat → Nat × Nat} (W9 : ∀ a ∈ L, Shp L κ ln R ow a) {x : Nat} (hLx : x ∈ L) (hkx : κ x = 9) {a0 : Nat} (hLa0 : a0 ∈ L) (hka0 : κ a0 = 10) (hU : Iv L κ R ow I) : CtI l yX9_readDish cX9_readDish 6 (some .boolean) { frames := 2, cells := 0, slots := 0, locals := 44 } D cy L κ ln R I J [.ref x, .ref a0] (fun r I2 J2 => Iv L κ R ow I2 ∧ Fq L κ ow [806, 1007, 1008, 1009, 1011, 1012, 16100, 58400] I I2 ∧ Fq L κ ow [1010, 58300] J J2 ∧ Rg 0 1 r) := by
  refine CtI.of (by decide +kernel) (Nat.le_of_ble_eq_true rfl) ?_
  intro p e s m below meth c B K
  have C := B.1
  have hF : Fq L κ ow [806, 1007, 1008, 1009, 1011, 1012, 16100, 58400] I I := fq_rf
  have hG : Fq L κ ow [1010, 58300] J J := fq_rf
  obtain ⟨b_478041, hb_478041, hb_478041L, hb_478041k⟩ := shp_o (W9 x hLx) hkx 0 8 rfl (by decide)
  obtain ⟨b_478042, hb_478042, hb_478042L, hb_478042k⟩ := shp_o (W9 x hLx) hkx 1 1 rfl (by decide)
  obtain ⟨b_478043, hb_478043, hb_478043L, hb_478043k, hb_478043n, hb_478043o⟩ := shp_a (W9 b_478041 hb_478041L) hb_478041k 4 14 6 rfl (by decide)
  obtain ⟨b_478044, hb_478044, hb_478044L, hb_478044k, hb_478044n, hb_478044o⟩ := shp_a (W9 b_478041 hb_478041L) hb_478041k 3 15 6 rfl (by decide)
  obtain ⟨b_478045, hb_478045, hb_478045L, hb_478045k, hb_478045n, hb_478045o⟩ := shp_a (W9 b_478042 hb_478042L) hb_478042k 1 14 6 rfl (by decide)
  refine g_lo (is := [0, 1]) (lo2 := [(0, .ref x), (1, .ref a0)]) rfl ?_
  have j_87 : ∀ (I_478046 : Nat → Nat → Int32) (J_478047 : Nat → Nat → Int64) (hU_478048 : Iv L κ R ow I_478046) (hF_478049 : Fq L κ ow [806, 1007, 1008, 1009, 1011, 1012, 16100, 58400] I I_478046) (hG_478050 : Fq L κ ow [1010, 58300] J J_478047) (y_478051 : Int64) (v_478052 : Int32) (nv_478052_m1 : ¬ v_478052 = (-1)) (v_478053 : Int32) (nv_478053_m1 : ¬ v_478053 = (-1)) (v_478054 : Int32) (rv_478054 : Rg 0 5 v_478054) (q_478055 : I_478046 b_478041 6 = v_478054), WG p l e { frames := 2, cells := 0, slots := 0, locals := 44 } s m ([.ref x, .ref a0] : List Value).toArray below meth c 6 0 0 (MQ below (Qi_ D cy L κ ln R (fun r I2 J2 => Iv L κ R ow I2 ∧ Fq L κ ow [806, 1007, 1008, 1009, 1011, 1012, 16100, 58400] I I2 ∧ Fq L κ ow [1010, 58300] J J2 ∧ Rg 0 1 r)) ([.ref x, .ref a0] : List Value).toArray s 0 0 (Al_ L)) D cy (Al_ L) s.heap L κ ln R I_478046 J_478047 87 [(0, .ref x), (1, .ref a0), (2, .long y_478051), (4, .int v_478052), (5, .int v_478053)] [] := by
    intro I_478046 J_478047 hU_478048 hF_478049 hG_478050 y_478051 v_478052 nv_478052_m1 v_478053 nv_478053_m1 v_478054 rv_478054 q_478055
    refine g_aload_n C 0 dX9_readDish_87 rfl rfl ?_
    refine g_getR C K hLx hkx f_9_12 hb_478041 dX9_readDish_88 ?_
    refine g_getR C K hb_478041L hb_478041k f_9_116 hb_478044 dX9_readDish_91 ?_
    refine g_aload_n C 0 dX9_readDish_94 rfl rfl ?_
    refine g_getR C K hLx hkx f_9_12 hb_478041 dX9_readDish_95 ?_
    refine g_getI C K hb_478041L hb_478041k f_9_113 (v := v_478054) q_478055 dX9_readDish_98 ?_
    refine g_lload_n C 2 dX9_readDish_101 rfl rfl ?_
    refine h_last C K hb_478044L hb_478044k (v_478054.toNatClampNeg) (rfl) (ix_0 rv_478054 (by decide)) (ix_lt rv_478054 (by decide) hb_478044n (by decide)) dX9_readDish_102 (fun J_478056 hJ_478056 => ?_)
    have hG_478057 := fq_puta hG_478050 hJ_478056 (ro_a hb_478044k (by decide) hb_478044o hb_478041k rfl) (by decide) (by decide)
    refine g_aload_n C 0 dX9_readDish_103 rfl rfl ?_
    refine g_getR C K hLx hkx f_9_12 hb_478041 dX9_readDish_104 ?_
    refine g_getR C K hb_478041L hb_478041k f_9_119 hb_478043 dX9_readDish_107 ?_
    refine g_aload_n C 0 dX9_readDish_110 rfl rfl ?_
    refine g_getR C K hLx hkx f_9_12 hb_478041 dX9_readDish_111 ?_
    refine g_getI C K hb_478041L hb_478041k f_9_113 (v := v_478054) q_478055 dX9_readDish_114 ?_
    refine g_iload C 4 dX9_readDish_117 rfl ?_
    refine h_iast C K hb_478043L hb_478043k (v_478054.toNatClampNeg) (rfl) (ix_0 rv_478054 (by decide)) (ix_lt rv_478054 (by decide) hb_478043n (by decide)) dX9_readDish_119 (fun I_478058 hI_478058 => ?_)
    have hU_478059 := iv_put W9 hU_478048 hI_478058 (ro_a hb_478043k (by decide) hb_478043o hb_478041k rfl) (lo := (-2147483648)) (hi := 2147483647) (rfl) ((rg_all v_478053)) rfl
    have hF_478060 := fq_puta hF_478049 hI_478058 (ro_a hb_478043k (by decide) hb_478043o hb_478041k rfl) (by decide) (by decide)
    refine g_aload_n C 0 dX9_readDish_120 rfl rfl ?_
    refine g_getR C K hLx hkx f_9_23 hb_478042 dX9_readDish_121 ?_
    refine g_getR C K hb_478042L hb_478042k f_9_122 hb_478045 dX9_readDish_124 ?_
    refine g_aload_n C 0 dX9_readDish_127 rfl rfl ?_
    refine g_getR C K hLx hkx f_9_12 hb_478041 dX9_readDish_128 ?_
    refine g_getI C K hb_478041L hb_478041k f_9_113 (v := v_478054) (kp_k (κ := κ) hI_478058 (by rw [hb_478041k, hb_478043k]; decide) q_478055) dX9_readDish_131 ?_
    refine g_iload C 3 dX9_readDish_134 rfl ?_
    refine h_iast C K hb_478045L hb_478045k (v_478054.toNatClampNeg) (rfl) (ix_0 rv_478054 (by decide)) (ix_lt rv_478054 (by decide) hb_478045n (by decide)) dX9_readDish_136 (fun I_478061 hI_478061 => ?_)
    have hU_478062 := iv_put W9 hU_478059 hI_478061 (ro_a hb_478045k (by decide) hb_478045o hb_478042k rfl) (lo := (-2147483648)) (hi := 2147483647) (rfl) ((rg_all v_478052)) rfl
    have hF_478063 := fq_puta hF_478060 hI_478061 (ro_a hb_478045k (by decide) hb_478045o hb_478042k rfl) (by decide) (by decide)
    refine g_aload_n C 0 dX9_readDish_137 rfl rfl ?_
    refine g_getR C K hLx hkx f_9_12 hb_478041 dX9_readDish_138 ?_
    refine g_dup C dX9_readDish_141 rfl ?_
    refine g_getI C K hb_478041L hb_478041k f_9_113 (v := v_478054) (kp_k (κ := κ) hI_478061 (by rw [hb_478041k, hb_478045k]; decide) (kp_k (κ := κ) hI_478058 (by rw [hb_478041k, hb_478043k]; decide) q_478055)) dX9_readDish_142 ?_
    refine g_iconst C (v := 1) dX9_readDish_145 (by decide) ?_
    obtain ⟨x_478064, hx_478064, rx_478064, tx_478064⟩ := ex_add 1 6 rv_478054 rc_1 (by decide) (by decide) (by decide) (by decide)
    refine g_iadd C (v := x_478064) dX9_readDish_146 hx_478064 ?_
    refine h_putI C K hb_478041L hb_478041k f_9_113 p_8_6 dX9_readDish_147 (fun I_478065 hI_478065 => ?_)
    have hU_478066 := iv_put W9 hU_478062 hI_478065 (ro_o hb_478041k (by decide)) (lo := 0) (hi := 6) (rfl) (rg_w rx_478064 (by decide) (by decide)) rfl
    have hF_478067 := fq_puto hF_478063 hI_478065 hb_478041k (by decide) (by decide)
    refine g_aload_n C 1 dX9_readDish_150 rfl rfl ?_
    refine g_bipush C (v := 59) dX9_readDish_151 (by decide) ?_
    refine g_callVI C K (c_X10_take W9 hLa0 hka0 59 (rg_w rc_59 (by decide) (by decide)) hU_478066) hLa0 hka0 (by decide) rfl v_9_110 rfl ⟨rfl, rfl⟩ ⟨Nat.le_of_ble_eq_true rfl, Nat.le_of_ble_eq_true rfl⟩ (Nat.le_of_ble_eq_true rfl) ⟨Nat.le_of_ble_eq_true rfl, Nat.le_of_ble_eq_true rfl⟩ dX9_readDish_153 rfl (st := []) (fun x_478068 I_478069 J_478070 h_478071 => ?_)
    obtain ⟨hUI_478069, hFI_478069, hGJ_478070, rx_478068⟩ := h_478071
    have hF_478072 := fq_tr hF_478067 hFI_478069 (by decide)
    have hG_478073 := fq_tr hG_478057 hGJ_478070 (by decide)
    exact g_zret (ty := .boolean) (r := x_478068) B K rfl (nar_z (rx_478068)) ⟨hUI_478069, hF_478072, hG_478073, rx_478068⟩ dX9_readDish_156
  refine g_aload_n C 0 dX9_readDish_0 rfl rfl ?_
  refine g_getR C K hLx hkx f_9_12 hb_478041 dX9_readDish_1 ?_
  obtain ⟨x_478074, hx_478074, rx_478074⟩ := ex_get (I := I) (a := b_478041) (j := 6) (lo := 0) (hi := 6) hU.1 hb_478041L (ro_o hb_478041k (by decide)) rfl
  refine g_getI C K hb_478041L hb_478041k f_9_113 (v := x_478074) hx_478074 dX9_readDish_4 ?_
  refine g_bipush C (v := 6) dX9_readDish_7 (by decide) ?_
  refine g_icmp_lt C (tgt := 18) dX9_readDish_9 (by decide) (fun h_478075 => ?_) (fun h_478075 => ?_)
  · skip
    have r_478076 := lt_l (hi := 5) (h_478075) rx_478074 rc_6 (by decide)
    refine g_aload_n C 1 dX9_readDish_18 rfl rfl ?_
    refine g_callVV C K (c_X10_advance W9 hLa0 hka0   hU) hLa0 hka0 (by decide) rfl v_9_82 rfl ⟨rfl, rfl⟩ ⟨Nat.le_of_ble_eq_true rfl, Nat.le_of_ble_eq_true rfl⟩ (Nat.le_of_ble_eq_true rfl) ⟨Nat.le_of_ble_eq_true rfl, Nat.le_of_ble_eq_true rfl⟩ dX9_readDish_19 rfl (st := []) (fun I_478078 J_478079 h_478080 => ?_)
    obtain ⟨hUI_478078, hFI_478078, hGJ_478079⟩ := h_478080
    have hF_478081 := fq_tr hF hFI_478078 (by decide)
    have hG_478082 := fq_tr hG hGJ_478079 (by decide)
    refine g_aload_n C 1 dX9_readDish_22 rfl rfl ?_
    obtain ⟨y_478083, hy_478083⟩ : ∃ z, J_478079 a0 10 = z := ⟨_, rfl⟩
    refine g_getJ C K hLa0 hka0 f_9_71 (v := y_478083) hy_478083 dX9_readDish_23 ?_
    refine g_lstore_n C dX9_readDish_26 rfl (by decide) (lo2 := [(2, .long y_478083), (0, .ref x), (1, .ref a0)]) rfl ?_
    refine g_aload_n C 1 dX9_readDish_27 rfl rfl ?_
    refine g_aload_n C 2 dX9_readDish_28 rfl rfl ?_
    refine g_callVI C K (c_X9_newName W9 hLx hkx hLa0 hka0  hUI_478078) hLx hkx (by decide) rfl v_9_88 rfl ⟨rfl, rfl⟩ ⟨Nat.le_of_ble_eq_true rfl, Nat.le_of_ble_eq_true rfl⟩ (Nat.le_of_ble_eq_true rfl) ⟨Nat.le_of_ble_eq_true rfl, Nat.le_of_ble_eq_true rfl⟩ dX9_readDish_29 rfl (st := []) (fun x_478084 I_478085 J_478086 h_478087 => ?_)
    obtain ⟨hUI_478085, hFI_478085, hGJ_478086, rx_478084⟩ := h_478087
    have hF_478088 := fq_tr hF_478081 hFI_478085 (by decide)
    have hG_478089 := fq_tr hG_478082 hGJ_478086 (by decide)
    refine g_if_ne C (tgt := 37) dX9_readDish_32 (by decide) (fun h_478090 => ?_) (fun h_478090 => ?_)
    · skip
      have n_478091 : ¬ x_478084 = 0 := h_478090
      have r_478092 := ne_lo (lo := 1) n_478091 rx_478084 rc_0 rfl (by decide)
      refine g_aload_n C 2 dX9_readDish_37 rfl rfl ?_
      refine g_iconst C (v := 0) dX9_readDish_38 (by decide) ?_
      refine g_bipush C (v := 99) dX9_readDish_39 (by decide) ?_
      refine g_callVI C K (c_X10_takeNumber W9 hLa0 hka0 0 99 (rg_w rc_0 (by decide) (by decide)) (rg_w rc_99 (by decide) (by decide)) hUI_478085) hLa0 hka0 (by decide) rfl v_9_91 rfl ⟨rfl, rfl⟩ ⟨Nat.le_of_ble_eq_true rfl, Nat.le_of_ble_eq_true rfl⟩ (Nat.le_of_ble_eq_true rfl) ⟨Nat.le_of_ble_eq_true rfl, Nat.le_of_ble_eq_true rfl⟩ dX9_readDish_41 rfl (st := []) (fun x_478093 I_478094 J_478095 h_478096 => ?_)
      obtain ⟨hUI_478094, hFI_478094, hGJ_478095, rx_478093⟩ := h_478096
      have hF_478097 := fq_tr hF_478088 hFI_478094 (by decide)
      have hG_478098 := fq_tr hG_478089 hGJ_478095 (by decide)
      refine g_istore C dX9_readDish_44 (by decide) (lo2 := [(4, .int x_478093), (2, .long y_478083), (0, .ref x), (1, .ref a0)]) rfl ?_
      refine g_iload C 0 dX9_readDish_46 rfl ?_
      refine g_iconst C (v := (-1)) dX9_readDish_48 (by decide) ?_
      refine g_icmp_ne C (tgt := 54) dX9_readDish_49 (by decide) (fun h_478099 => ?_) (fun h_478099 => ?_)
      · skip
        have n_478100 : ¬ x_478093 = (-1) := h_478099
        refine g_iconst C (v := 0) dX9_readDish_54 (by decide) ?_
        refine g_istore C dX9_readDish_55 (by decide) (lo2 := [(5, .int 0), (4, .int x_478093), (2, .long y_478083), (0, .ref x), (1, .ref a0)]) rfl ?_
        refine g_aload_n C 4 dX9_readDish_57 rfl rfl ?_
        obtain ⟨x_478101, hx_478101, rx_478101⟩ := ex_get (I := I_478094) (a := a0) (j := 8) (lo := (-2147483648)) (hi := 2147483647) hUI_478094.1 hLa0 (ro_o hka0 (by decide)) rfl
        refine g_getI C K hLa0 hka0 f_9_44 (v := x_478101) hx_478101 dX9_readDish_58 ?_
        refine g_bipush C (v := 6) dX9_readDish_61 (by decide) ?_
        refine g_icmp_ne C (tgt := 87) dX9_readDish_63 (by decide) (fun h_478102 => ?_) (fun h_478102 => ?_)
        · skip
          have n_478103 : ¬ x_478101 = 6 := h_478102
          have q_478104 := (fq_at hFI_478094 hb_478041L hb_478041k (by decide) (by decide) (fq_at hFI_478085 hb_478041L hb_478041k (by decide) (by decide) (fq_at hFI_478078 hb_478041L hb_478041k (by decide) (by decide) hx_478074)))
          refine g_lo (is := [3, 4, 2, 1, 0]) (lo2 := [(0, .ref x), (1, .ref a0), (2, .long y_478083), (4, .int x_478093), (5, .int 0)]) rfl ?_
          exact j_87 I_478094 J_478095 hUI_478094 hF_478097 hG_478098 y_478083 x_478093 (n_478100) 0 (by decide) x_478074 (r_478076) q_478104
        · skip
          have r_478105 := (⟨(eq_rg (h_478102) rc_6).1, (eq_rg (h_478102) rc_6).2⟩ : Rg 6 6 x_478101)
          refine g_aload_n C 4 dX9_readDish_66 rfl rfl ?_
          refine g_callVV C K (c_X10_advance W9 hLa0 hka0   hUI_478094) hLa0 hka0 (by decide) rfl v_9_82 rfl ⟨rfl, rfl⟩ ⟨Nat.le_of_ble_eq_true rfl, Nat.le_of_ble_eq_true rfl⟩ (Nat.le_of_ble_eq_true rfl) ⟨Nat.le_of_ble_eq_true rfl, Nat.le_of_ble_eq_true rfl⟩ dX9_readDish_67 rfl (st := []) (fun I_478107 J_478108 h_478109 => ?_)
          obtain ⟨hUI_478107, hFI_478107, hGJ_478108⟩ := h_478109
          have hF_478110 := fq_tr hF_478097 hFI_478107 (by decide)
          have hG_478111 := fq_tr hG_478098 hGJ_478108 (by decide)
          refine g_aload_n C 4 dX9_readDish_70 rfl rfl ?_
          refine g_iconst C (v := 1) dX9_readDish_71 (by decide) ?_
          refine g_bipush C (v := 9) dX9_readDish_72 (by decide) ?_
          refine g_callVI C K (c_X10_takeNumber W9 hLa0 hka0 1 9 (rg_w rc_1 (by decide) (by decide)) (rg_w rc_9 (by decide) (by decide)) hUI_478107) hLa0 hka0 (by decide) rfl v_9_91 rfl ⟨rfl, rfl⟩ ⟨Nat.le_of_ble_eq_true rfl, Nat.le_of_ble_eq_true rfl⟩ (Nat.le_of_ble_eq_true rfl) ⟨Nat.le_of_ble_eq_true rfl, Nat.le_of_ble_eq_true rfl⟩ dX9_readDish_74 rfl (st := []) (fun x_478112 I_478113 J_478114 h_478115 => ?_)
          obtain ⟨hUI_478113, hFI_478113, hGJ_478114, rx_478112⟩ := h_478115
          have hF_478116 := fq_tr hF_478110 hFI_478113 (by decide)
          have hG_478117 := fq_tr hG_478111 hGJ_478114 (by decide)
          refine g_istore C dX9_readDish_77 (by decide) (lo2 := [(5, .int x_478112), (4, .int x_478093), (2, .long y_478083), (0, .ref x), (1, .ref a0)]) rfl ?_
          refine g_iload C 0 dX9_readDish_79 rfl ?_
          refine g_iconst C (v := (-1)) dX9_readDish_81 (by decide) ?_
          refine g_icmp_ne C (tgt := 87) dX9_readDish_82 (by decide) (fun h_478118 => ?_) (fun h_478118 => ?_)
          · skip
            have n_478119 : ¬ x_478112 = (-1) := h_478118
            have q_478120 := (fq_at hFI_478113 hb_478041L hb_478041k (by decide) (by decide) (fq_at hFI_478107 hb_478041L hb_478041k (by decide) (by decide) (fq_at hFI_478094 hb_478041L hb_478041k (by decide) (by decide) (fq_at hFI_478085 hb_478041L hb_478041k (by decide) (by decide) (fq_at hFI_478078 hb_478041L hb_478041k (by decide) (by decide) hx_478074)))))
            refine g_lo (is := [3, 4, 2, 1, 0]) (lo2 := [(0, .ref x), (1, .ref a0), (2, .long y_478083), (4, .int x_478093), (5, .int x_478112)]) rfl ?_
            exact j_87 I_478113 J_478114 hUI_478113 hF_478116 hG_478117 y_478083 x_478093 (n_478100) x_478112 (n_478119) x_478074 (r_478076) q_478120
          · skip
            have r_478121 := (⟨(eq_rg (h_478118) rc_m1).1, (eq_rg (h_478118) rc_m1).2⟩ : Rg (-1) (-1) x_478112)
            refine g_iconst C (v := 0) dX9_readDish_85 (by decide) ?_
            exact g_zret (ty := .boolean) (r := 0) B K rfl (rfl) ⟨hUI_478113, hF_478116, hG_478117, rg_w rc_0 (by decide) (by decide)⟩ dX9_readDish_86
      · skip
        have r_478122 := (⟨(eq_rg (h_478099) rc_m1).1, (eq_rg (h_478099) rc_m1).2⟩ : Rg (-1) (-1) x_478093)
        refine g_iconst C (v := 0) dX9_readDish_52 (by decide) ?_
        exact g_zret (ty := .boolean) (r := 0) B K rfl (rfl) ⟨hUI_478094, hF_478097, hG_478098, rg_w rc_0 (by decide) (by decide)⟩ dX9_readDish_53
    · skip
      have r_478123 := (⟨(rx_478084).1, (eq_rg (h_478090) rc_0).2⟩ : Rg 0 0 x_478084)
      refine g_iconst C (v := 0) dX9_readDish_35 (by decide) ?_
      exact g_zret (ty := .boolean) (r := 0) B K rfl (rfl) ⟨hUI_478085, hF_478088, hG_478089, rg_w rc_0 (by decide) (by decide)⟩ dX9_readDish_36
  · skip
    have r_478124 := le_r (nlt h_478075) rc_6 rx_478074
    refine g_aload_n C 1 dX9_readDish_12 rfl rfl ?_
    refine g_iconst C (v := 4) dX9_readDish_13 (by decide) ?_
    refine g_callVI C K (c_X10_fail W9 hLa0 hka0 4 (rg_w rc_4 (by decide) (by decide)) hU) hLa0 hka0 (by decide) rfl v_9_67 rfl ⟨rfl, rfl⟩ ⟨Nat.le_of_ble_eq_true rfl, Nat.le_of_ble_eq_true rfl⟩ (Nat.le_of_ble_eq_true rfl) ⟨Nat.le_of_ble_eq_true rfl, Nat.le_of_ble_eq_true rfl⟩ dX9_readDish_14 rfl (st := []) (fun x_478125 I_478126 J_478127 h_478128 => ?_)
    obtain ⟨hUI_478126, hFI_478126, hGJ_478127, rx_478125⟩ := h_478128
    have hF_478129 := fq_tr hF hFI_478126 (by decide)
    have hG_478130 := fq_tr hG hGJ_478127 (by decide)
    exact g_zret (ty := .boolean) (r := x_478125) B K rfl (nar_z (rg_w rx_478125 (by decide) (by decide))) ⟨hUI_478126, hF_478129, hG_478130, rg_w rx_478125 (by decide) (by decide)⟩ dX9_readDish_17
set_option maxRecDepth 100000 in
set_option maxHeartbeats 8000000 in
theorem c_X9_readDogs {l : Launch} {D : va_G} {cy : Nat → ClassId} {L : List Nat} {κ ln : Nat → Nat} {R : Nat → Nat → Option Nat} {I : Nat → Nat → Int32} {J : Nat → Nat → Int64} {ow : Nat → Nat × Nat} (W9 : ∀ a ∈ L, Shp L κ ln R ow a) {x : Nat} (hLx : x ∈ L) (hkx : κ x = 9) {a0 : Nat} (hLa0 : a0 ∈ L) (hka0 : κ a0 = 10) (hU : Iv L κ R ow I) : CtI l yX9_readDogs cX9_readDogs 2 (some .boolean) { frames := 2, cells := 0, slots := 0, locals := 44 } D cy L κ ln R I J [.ref x, .ref a0] (fun r I2 J2 => Iv L κ R ow I2 ∧ Fq L κ ow [808, 903, 1007, 1008, 1009, 1011, 1012] I I2 ∧ Fq L κ ow [1010] J J2 ∧ Rg 0 1 r) := by
  refine CtI.of (by decide +kernel) (Nat.le_of_ble_eq_true rfl) ?_
  intro p e s m below meth c B K
  have C := B.1
  have hF : Fq L κ ow [808, 903, 1007, 1008, 1009, 1011, 1012] I I := fq_rf
  have hG : Fq L κ ow [1010] J J := fq_rf
  obtain ⟨b_478217, hb_478217, hb_478217L, hb_478217k⟩ := shp_o (W9 x hLx) hkx 0 8 rfl (by decide)
  refine g_lo (is := [0, 1]) (lo2 := [(0, .ref x), (1, .ref a0)]) rfl ?_
  refine g_aload_n C 0 dX9_readDogs_0 rfl rfl ?_
  obtain ⟨x_478218, hx_478218, rx_478218⟩ := ex_get (I := I) (a := x) (j := 3) (lo := 0) (hi := 1) hU.1 hLx (ro_o hkx (by decide)) rfl
  refine g_getI C K hLx hkx f_9_31 (v := x_478218) hx_478218 dX9_readDogs_1 ?_
  refine g_if_eq C (tgt := 13) dX9_readDogs_4 (by decide) (fun h_478219 => ?_) (fun h_478219 => ?_)
  · skip
    have r_478220 := (⟨(rx_478218).1, (eq_rg (h_478219) rc_0).2⟩ : Rg 0 0 x_478218)
    refine g_aload_n C 0 dX9_readDogs_13 rfl rfl ?_
    refine g_iconst C (v := 1) dX9_readDogs_14 (by decide) ?_
    refine h_putZ C K hLx hkx f_9_31 p_9_3 (rg_bool (rg_w rc_1 (by decide) (by decide))) dX9_readDogs_15 (fun I_478221 hI_478221 => ?_)
    have hU_478222 := iv_put W9 hU hI_478221 (ro_o hkx (by decide)) (lo := 0) (hi := 1) (rfl) (rg_w rc_1 (by decide) (by decide)) rfl
    have hF_478223 := fq_puto hF hI_478221 hkx (by decide) (by decide)
    refine g_aload_n C 1 dX9_readDogs_18 rfl rfl ?_
    refine g_callVV C K (c_X10_advance W9 hLa0 hka0   hU_478222) hLa0 hka0 (by decide) rfl v_9_82 rfl ⟨rfl, rfl⟩ ⟨Nat.le_of_ble_eq_true rfl, Nat.le_of_ble_eq_true rfl⟩ (Nat.le_of_ble_eq_true rfl) ⟨Nat.le_of_ble_eq_true rfl, Nat.le_of_ble_eq_true rfl⟩ dX9_readDogs_19 rfl (st := []) (fun I_478225 J_478226 h_478227 => ?_)
    obtain ⟨hUI_478225, hFI_478225, hGJ_478226⟩ := h_478227
    have hF_478228 := fq_tr hF_478223 hFI_478225 (by decide)
    have hG_478229 := fq_tr hG hGJ_478226 (by decide)
    refine g_aload_n C 0 dX9_readDogs_22 rfl rfl ?_
    refine g_getR C K hLx hkx f_9_12 hb_478217 dX9_readDogs_23 ?_
    refine g_aload_n C 1 dX9_readDogs_26 rfl rfl ?_
    refine g_iconst C (v := 0) dX9_readDogs_27 (by decide) ?_
    refine g_bipush C (v := 9) dX9_readDogs_28 (by decide) ?_
    refine g_callVI C K (c_X10_takeNumber W9 hLa0 hka0 0 9 (rg_w rc_0 (by decide) (by decide)) (rg_w rc_9 (by decide) (by decide)) hUI_478225) hLa0 hka0 (by decide) rfl v_9_91 rfl ⟨rfl, rfl⟩ ⟨Nat.le_of_ble_eq_true rfl, Nat.le_of_ble_eq_true rfl⟩ (Nat.le_of_ble_eq_true rfl) ⟨Nat.le_of_ble_eq_true rfl, Nat.le_of_ble_eq_true rfl⟩ dX9_readDogs_30 rfl (st := [.ref b_478217]) (fun x_478230 I_478231 J_478232 h_478233 => ?_)
    obtain ⟨hUI_478231, hFI_478231, hGJ_478232, rx_478230⟩ := h_478233
    have hF_478234 := fq_tr hF_478228 hFI_478231 (by decide)
    have hG_478235 := fq_tr hG_478229 hGJ_478232 (by decide)
    refine h_putI C K hb_478217L hb_478217k f_9_135 p_8_8 dX9_readDogs_33 (fun I_478236 hI_478236 => ?_)
    have hU_478237 := iv_put W9 hUI_478231 hI_478236 (ro_o hb_478217k (by decide)) (lo := (-2147483648)) (hi := 2147483647) (rfl) (rx_478230) rfl
    have hF_478238 := fq_puto hF_478234 hI_478236 hb_478217k (by decide) (by decide)
    refine g_aload_n C 0 dX9_readDogs_36 rfl rfl ?_
    refine g_getR C K hLx hkx f_9_12 hb_478217 dX9_readDogs_37 ?_
    refine g_getI C K hb_478217L hb_478217k f_9_135 (v := x_478230) (kp_s hI_478236) dX9_readDogs_40 ?_
    refine g_iconst C (v := (-1)) dX9_readDogs_43 (by decide) ?_
    refine g_icmp_eq C (tgt := 60) dX9_readDogs_44 (by decide) (fun h_478239 => ?_) (fun h_478239 => ?_)
    · skip
      have r_478240 := (⟨(eq_rg (h_478239) rc_m1).1, (eq_rg (h_478239) rc_m1).2⟩ : Rg (-1) (-1) x_478230)
      refine g_iconst C (v := 0) dX9_readDogs_60 (by decide) ?_
      exact g_zret (ty := .boolean) (r := 0) B K rfl (rfl) ⟨hU_478237, hF_478238, hG_478235, rg_w rc_0 (by decide) (by decide)⟩ dX9_readDogs_61
    · skip
      have n_478241 : ¬ x_478230 = (-1) := h_478239
      refine g_aload_n C 1 dX9_readDogs_47 rfl rfl ?_
      refine g_bipush C (v := 59) dX9_readDogs_48 (by decide) ?_
      refine g_callVI C K (c_X10_take W9 hLa0 hka0 59 (rg_w rc_59 (by decide) (by decide)) hU_478237) hLa0 hka0 (by decide) rfl v_9_110 rfl ⟨rfl, rfl⟩ ⟨Nat.le_of_ble_eq_true rfl, Nat.le_of_ble_eq_true rfl⟩ (Nat.le_of_ble_eq_true rfl) ⟨Nat.le_of_ble_eq_true rfl, Nat.le_of_ble_eq_true rfl⟩ dX9_readDogs_50 rfl (st := []) (fun x_478242 I_478243 J_478244 h_478245 => ?_)
      obtain ⟨hUI_478243, hFI_478243, hGJ_478244, rx_478242⟩ := h_478245
      have hF_478246 := fq_tr hF_478238 hFI_478243 (by decide)
      have hG_478247 := fq_tr hG_478235 hGJ_478244 (by decide)
      refine g_if_eq C (tgt := 60) dX9_readDogs_53 (by decide) (fun h_478248 => ?_) (fun h_478248 => ?_)
      · skip
        have r_478249 := (⟨(rx_478242).1, (eq_rg (h_478248) rc_0).2⟩ : Rg 0 0 x_478242)
        refine g_iconst C (v := 0) dX9_readDogs_60 (by decide) ?_
        exact g_zret (ty := .boolean) (r := 0) B K rfl (rfl) ⟨hUI_478243, hF_478246, hG_478247, rg_w rc_0 (by decide) (by decide)⟩ dX9_readDogs_61
      · skip
        have n_478250 : ¬ x_478242 = 0 := h_478248
        have r_478251 := ne_lo (lo := 1) n_478250 rx_478242 rc_0 rfl (by decide)
        refine g_iconst C (v := 1) dX9_readDogs_56 (by decide) ?_
        refine g_goto C (tgt := 61) dX9_readDogs_57 (by decide) ?_
        exact g_zret (ty := .boolean) (r := 1) B K rfl (rfl) ⟨hUI_478243, hF_478246, hG_478247, rg_w rc_1 (by decide) (by decide)⟩ dX9_readDogs_61
  · skip
    have n_478252 : ¬ x_478218 = 0 := h_478219
    have r_478253 := ne_lo (lo := 1) n_478252 rx_478218 rc_0 rfl (by decide)
    refine g_aload_n C 1 dX9_readDogs_7 rfl rfl ?_
    refine g_iconst C (v := 3) dX9_readDogs_8 (by decide) ?_
    refine g_callVI C K (c_X10_fail W9 hLa0 hka0 3 (rg_w rc_3 (by decide) (by decide)) hU) hLa0 hka0 (by decide) rfl v_9_67 rfl ⟨rfl, rfl⟩ ⟨Nat.le_of_ble_eq_true rfl, Nat.le_of_ble_eq_true rfl⟩ (Nat.le_of_ble_eq_true rfl) ⟨Nat.le_of_ble_eq_true rfl, Nat.le_of_ble_eq_true rfl⟩ dX9_readDogs_9 rfl (st := []) (fun x_478254 I_478255 J_478256 h_478257 => ?_)
    obtain ⟨hUI_478255, hFI_478255, hGJ_478256, rx_478254⟩ := h_478257
    have hF_478258 := fq_tr hF hFI_478255 (by decide)
    have hG_478259 := fq_tr hG hGJ_478256 (by decide)
    exact g_zret (ty := .boolean) (r := x_478254) B K rfl (nar_z (rg_w rx_478254 (by decide) (by decide))) ⟨hUI_478255, hF_478258, hG_478259, rg_w rx_478254 (by decide) (by decide)⟩ dX9_readDogs_12
set_option maxRecDepth 100000 in
set_option maxHeartbeats 8000000 in
theorem c_X9_readLaw {l : Launch} {D : va_G} {cy : Nat → ClassId} {L : List Nat} {κ ln : Nat → Nat} {R : Nat → Nat → Option Nat} {I : Nat → Nat → Int32} {J : Nat → Nat → Int64} {ow : Nat → Nat × Nat} (W9 : ∀ a ∈ L, Shp L κ ln R ow a) {x : Nat} (hLx : x ∈ L) (hkx : κ x = 9) {a0 : Nat} (hLa0 : a0 ∈ L) (hka0 : κ a0 = 10) (hU : Iv L κ R ow I) : CtI l yX9_readLaw cX9_readLaw 2 (some .boolean) { frames := 2, cells := 0, slots := 0, locals := 42 } D cy L κ ln R I J [.ref x, .ref a0] (fun r I2 J2 => Iv L κ R ow I2 ∧ Fq L κ ow [807, 902, 1007, 1008, 1009, 1011, 1012] I I2 ∧ Fq L κ ow [1010] J J2 ∧ Rg 0 1 r) := by
  refine CtI.of (by decide +kernel) (Nat.le_of_ble_eq_true rfl) ?_
  intro p e s m below meth c B K
  have C := B.1
  have hF : Fq L κ ow [807, 902, 1007, 1008, 1009, 1011, 1012] I I := fq_rf
  have hG : Fq L κ ow [1010] J J := fq_rf
  obtain ⟨b_478380, hb_478380, hb_478380L, hb_478380k⟩ := shp_o (W9 x hLx) hkx 0 8 rfl (by decide)
  refine g_lo (is := [0, 1]) (lo2 := [(0, .ref x), (1, .ref a0)]) rfl ?_
  have j_88 : ∀ (I_478381 : Nat → Nat → Int32) (J_478382 : Nat → Nat → Int64) (hU_478383 : Iv L κ R ow I_478381) (hF_478384 : Fq L κ ow [807, 902, 1007, 1008, 1009, 1011, 1012] I I_478381) (hG_478385 : Fq L κ ow [1010] J J_478382) (v_478386 : Int32) (rv_478386 : Rg 7 9 v_478386) (v_478387 : Int32) (rv_478387 : Rg 0 2 v_478387) (q_478388 : I_478381 a0 8 = v_478386) (q_478389 : I_478381 x 2 = 1) (q_478390 : I_478381 b_478380 7 = v_478387), WG p l e { frames := 2, cells := 0, slots := 0, locals := 42 } s m ([.ref x, .ref a0] : List Value).toArray below meth c 2 0 0 (MQ below (Qi_ D cy L κ ln R (fun r I2 J2 => Iv L κ R ow I2 ∧ Fq L κ ow [807, 902, 1007, 1008, 1009, 1011, 1012] I I2 ∧ Fq L κ ow [1010] J J2 ∧ Rg 0 1 r)) ([.ref x, .ref a0] : List Value).toArray s 0 0 (Al_ L)) D cy (Al_ L) s.heap L κ ln R I_478381 J_478382 88 [(0, .ref x), (1, .ref a0)] [] := by
    intro I_478381 J_478382 hU_478383 hF_478384 hG_478385 v_478386 rv_478386 v_478387 rv_478387 q_478388 q_478389 q_478390
    refine g_aload_n C 1 dX9_readLaw_88 rfl rfl ?_
    refine g_callVV C K (c_X10_advance W9 hLa0 hka0   hU_478383) hLa0 hka0 (by decide) rfl v_9_82 rfl ⟨rfl, rfl⟩ ⟨Nat.le_of_ble_eq_true rfl, Nat.le_of_ble_eq_true rfl⟩ (Nat.le_of_ble_eq_true rfl) ⟨Nat.le_of_ble_eq_true rfl, Nat.le_of_ble_eq_true rfl⟩ dX9_readLaw_89 rfl (st := []) (fun I_478392 J_478393 h_478394 => ?_)
    obtain ⟨hUI_478392, hFI_478392, hGJ_478393⟩ := h_478394
    have hF_478395 := fq_tr hF_478384 hFI_478392 (by decide)
    have hG_478396 := fq_tr hG_478385 hGJ_478393 (by decide)
    refine g_aload_n C 1 dX9_readLaw_92 rfl rfl ?_
    refine g_bipush C (v := 59) dX9_readLaw_93 (by decide) ?_
    refine g_callVI C K (c_X10_take W9 hLa0 hka0 59 (rg_w rc_59 (by decide) (by decide)) hUI_478392) hLa0 hka0 (by decide) rfl v_9_110 rfl ⟨rfl, rfl⟩ ⟨Nat.le_of_ble_eq_true rfl, Nat.le_of_ble_eq_true rfl⟩ (Nat.le_of_ble_eq_true rfl) ⟨Nat.le_of_ble_eq_true rfl, Nat.le_of_ble_eq_true rfl⟩ dX9_readLaw_95 rfl (st := []) (fun x_478397 I_478398 J_478399 h_478400 => ?_)
    obtain ⟨hUI_478398, hFI_478398, hGJ_478399, rx_478397⟩ := h_478400
    have hF_478401 := fq_tr hF_478395 hFI_478398 (by decide)
    have hG_478402 := fq_tr hG_478396 hGJ_478399 (by decide)
    exact g_zret (ty := .boolean) (r := x_478397) B K rfl (nar_z (rx_478397)) ⟨hUI_478398, hF_478401, hG_478402, rx_478397⟩ dX9_readLaw_98
  refine g_aload_n C 0 dX9_readLaw_0 rfl rfl ?_
  obtain ⟨x_478403, hx_478403, rx_478403⟩ := ex_get (I := I) (a := x) (j := 2) (lo := 0) (hi := 1) hU.1 hLx (ro_o hkx (by decide)) rfl
  refine g_getI C K hLx hkx f_9_27 (v := x_478403) hx_478403 dX9_readLaw_1 ?_
  refine g_if_eq C (tgt := 13) dX9_readLaw_4 (by decide) (fun h_478404 => ?_) (fun h_478404 => ?_)
  · skip
    have r_478405 := (⟨(rx_478403).1, (eq_rg (h_478404) rc_0).2⟩ : Rg 0 0 x_478403)
    refine g_aload_n C 0 dX9_readLaw_13 rfl rfl ?_
    refine g_iconst C (v := 1) dX9_readLaw_14 (by decide) ?_
    refine h_putZ C K hLx hkx f_9_27 p_9_2 (rg_bool (rg_w rc_1 (by decide) (by decide))) dX9_readLaw_15 (fun I_478406 hI_478406 => ?_)
    have hU_478407 := iv_put W9 hU hI_478406 (ro_o hkx (by decide)) (lo := 0) (hi := 1) (rfl) (rg_w rc_1 (by decide) (by decide)) rfl
    have hF_478408 := fq_puto hF hI_478406 hkx (by decide) (by decide)
    refine g_aload_n C 1 dX9_readLaw_18 rfl rfl ?_
    refine g_callVV C K (c_X10_advance W9 hLa0 hka0   hU_478407) hLa0 hka0 (by decide) rfl v_9_82 rfl ⟨rfl, rfl⟩ ⟨Nat.le_of_ble_eq_true rfl, Nat.le_of_ble_eq_true rfl⟩ (Nat.le_of_ble_eq_true rfl) ⟨Nat.le_of_ble_eq_true rfl, Nat.le_of_ble_eq_true rfl⟩ dX9_readLaw_19 rfl (st := []) (fun I_478410 J_478411 h_478412 => ?_)
    obtain ⟨hUI_478410, hFI_478410, hGJ_478411⟩ := h_478412
    have hF_478413 := fq_tr hF_478408 hFI_478410 (by decide)
    have hG_478414 := fq_tr hG hGJ_478411 (by decide)
    refine g_aload_n C 1 dX9_readLaw_22 rfl rfl ?_
    obtain ⟨x_478415, hx_478415, rx_478415⟩ := ex_get (I := I_478410) (a := a0) (j := 8) (lo := (-2147483648)) (hi := 2147483647) hUI_478410.1 hLa0 (ro_o hka0 (by decide)) rfl
    refine g_getI C K hLa0 hka0 f_9_44 (v := x_478415) hx_478415 dX9_readLaw_23 ?_
    refine g_bipush C (v := 7) dX9_readLaw_26 (by decide) ?_
    refine g_icmp_ne C (tgt := 42) dX9_readLaw_28 (by decide) (fun h_478416 => ?_) (fun h_478416 => ?_)
    · skip
      have n_478417 : ¬ x_478415 = 7 := h_478416
      refine g_aload_n C 1 dX9_readLaw_42 rfl rfl ?_
      refine g_getI C K hLa0 hka0 f_9_44 (v := x_478415) hx_478415 dX9_readLaw_43 ?_
      refine g_bipush C (v := 8) dX9_readLaw_46 (by decide) ?_
      refine g_icmp_ne C (tgt := 62) dX9_readLaw_48 (by decide) (fun h_478418 => ?_) (fun h_478418 => ?_)
      · skip
        have n_478419 : ¬ x_478415 = 8 := h_478418
        refine g_aload_n C 1 dX9_readLaw_62 rfl rfl ?_
        refine g_getI C K hLa0 hka0 f_9_44 (v := x_478415) hx_478415 dX9_readLaw_63 ?_
        refine g_bipush C (v := 9) dX9_readLaw_66 (by decide) ?_
        refine g_icmp_ne C (tgt := 82) dX9_readLaw_68 (by decide) (fun h_478420 => ?_) (fun h_478420 => ?_)
        · skip
          have n_478421 : ¬ x_478415 = 9 := h_478420
          refine g_aload_n C 1 dX9_readLaw_82 rfl rfl ?_
          refine g_iconst C (v := 1) dX9_readLaw_83 (by decide) ?_
          refine g_callVI C K (c_X10_fail W9 hLa0 hka0 1 (rg_w rc_1 (by decide) (by decide)) hUI_478410) hLa0 hka0 (by decide) rfl v_9_67 rfl ⟨rfl, rfl⟩ ⟨Nat.le_of_ble_eq_true rfl, Nat.le_of_ble_eq_true rfl⟩ (Nat.le_of_ble_eq_true rfl) ⟨Nat.le_of_ble_eq_true rfl, Nat.le_of_ble_eq_true rfl⟩ dX9_readLaw_84 rfl (st := []) (fun x_478422 I_478423 J_478424 h_478425 => ?_)
          obtain ⟨hUI_478423, hFI_478423, hGJ_478424, rx_478422⟩ := h_478425
          have hF_478426 := fq_tr hF_478413 hFI_478423 (by decide)
          have hG_478427 := fq_tr hG_478414 hGJ_478424 (by decide)
          exact g_zret (ty := .boolean) (r := x_478422) B K rfl (nar_z (rg_w rx_478422 (by decide) (by decide))) ⟨hUI_478423, hF_478426, hG_478427, rg_w rx_478422 (by decide) (by decide)⟩ dX9_readLaw_87
        · skip
          have r_478428 := (⟨(eq_rg (h_478420) rc_9).1, (eq_rg (h_478420) rc_9).2⟩ : Rg 9 9 x_478415)
          refine g_aload_n C 0 dX9_readLaw_71 rfl rfl ?_
          refine g_getR C K hLx hkx f_9_12 hb_478380 dX9_readLaw_72 ?_
          refine g_iconst C (v := 2) dX9_readLaw_75 (by decide) ?_
          refine h_putI C K hb_478380L hb_478380k f_9_132 p_8_7 dX9_readLaw_76 (fun I_478429 hI_478429 => ?_)
          have hU_478430 := iv_put W9 hUI_478410 hI_478429 (ro_o hb_478380k (by decide)) (lo := (-2147483648)) (hi := 2147483647) (rfl) (rg_all _) rfl
          have hF_478431 := fq_puto hF_478413 hI_478429 hb_478380k (by decide) (by decide)
          refine g_goto C (tgt := 88) dX9_readLaw_79 (by decide) ?_
          refine g_lo (is := [0, 1]) (lo2 := [(0, .ref x), (1, .ref a0)]) rfl ?_
          exact j_88 I_478429 J_478411 hU_478430 hF_478431 hG_478414 x_478415 (rg_w r_478428 (by decide) (by decide)) 2 (rg_w rc_2 (by decide) (by decide)) (kp_k (κ := κ) hI_478429 (by rw [hka0, hb_478380k]; decide) hx_478415) (kp_k (κ := κ) hI_478429 (by rw [hkx, hb_478380k]; decide) (fq_at hFI_478410 hLx hkx (by decide) (by decide) (kp_s hI_478406))) (kp_s hI_478429)
      · skip
        have r_478432 := (⟨(eq_rg (h_478418) rc_8).1, (eq_rg (h_478418) rc_8).2⟩ : Rg 8 8 x_478415)
        refine g_aload_n C 0 dX9_readLaw_51 rfl rfl ?_
        refine g_getR C K hLx hkx f_9_12 hb_478380 dX9_readLaw_52 ?_
        refine g_iconst C (v := 1) dX9_readLaw_55 (by decide) ?_
        refine h_putI C K hb_478380L hb_478380k f_9_132 p_8_7 dX9_readLaw_56 (fun I_478433 hI_478433 => ?_)
        have hU_478434 := iv_put W9 hUI_478410 hI_478433 (ro_o hb_478380k (by decide)) (lo := (-2147483648)) (hi := 2147483647) (rfl) (rg_all _) rfl
        have hF_478435 := fq_puto hF_478413 hI_478433 hb_478380k (by decide) (by decide)
        refine g_goto C (tgt := 88) dX9_readLaw_59 (by decide) ?_
        refine g_lo (is := [0, 1]) (lo2 := [(0, .ref x), (1, .ref a0)]) rfl ?_
        exact j_88 I_478433 J_478411 hU_478434 hF_478435 hG_478414 x_478415 (rg_w r_478432 (by decide) (by decide)) 1 (rg_w rc_1 (by decide) (by decide)) (kp_k (κ := κ) hI_478433 (by rw [hka0, hb_478380k]; decide) hx_478415) (kp_k (κ := κ) hI_478433 (by rw [hkx, hb_478380k]; decide) (fq_at hFI_478410 hLx hkx (by decide) (by decide) (kp_s hI_478406))) (kp_s hI_478433)
    · skip
      have r_478436 := (⟨(eq_rg (h_478416) rc_7).1, (eq_rg (h_478416) rc_7).2⟩ : Rg 7 7 x_478415)
      refine g_aload_n C 0 dX9_readLaw_31 rfl rfl ?_
      refine g_getR C K hLx hkx f_9_12 hb_478380 dX9_readLaw_32 ?_
      refine g_iconst C (v := 0) dX9_readLaw_35 (by decide) ?_
      refine h_putI C K hb_478380L hb_478380k f_9_132 p_8_7 dX9_readLaw_36 (fun I_478437 hI_478437 => ?_)
      have hU_478438 := iv_put W9 hUI_478410 hI_478437 (ro_o hb_478380k (by decide)) (lo := (-2147483648)) (hi := 2147483647) (rfl) (rg_all _) rfl
      have hF_478439 := fq_puto hF_478413 hI_478437 hb_478380k (by decide) (by decide)
      refine g_goto C (tgt := 88) dX9_readLaw_39 (by decide) ?_
      refine g_lo (is := [0, 1]) (lo2 := [(0, .ref x), (1, .ref a0)]) rfl ?_
      exact j_88 I_478437 J_478411 hU_478438 hF_478439 hG_478414 x_478415 (rg_w r_478436 (by decide) (by decide)) 0 (rg_w rc_0 (by decide) (by decide)) (kp_k (κ := κ) hI_478437 (by rw [hka0, hb_478380k]; decide) hx_478415) (kp_k (κ := κ) hI_478437 (by rw [hkx, hb_478380k]; decide) (fq_at hFI_478410 hLx hkx (by decide) (by decide) (kp_s hI_478406))) (kp_s hI_478437)
  · skip
    have n_478440 : ¬ x_478403 = 0 := h_478404
    have r_478441 := ne_lo (lo := 1) n_478440 rx_478403 rc_0 rfl (by decide)
    refine g_aload_n C 1 dX9_readLaw_7 rfl rfl ?_
    refine g_iconst C (v := 3) dX9_readLaw_8 (by decide) ?_
    refine g_callVI C K (c_X10_fail W9 hLa0 hka0 3 (rg_w rc_3 (by decide) (by decide)) hU) hLa0 hka0 (by decide) rfl v_9_67 rfl ⟨rfl, rfl⟩ ⟨Nat.le_of_ble_eq_true rfl, Nat.le_of_ble_eq_true rfl⟩ (Nat.le_of_ble_eq_true rfl) ⟨Nat.le_of_ble_eq_true rfl, Nat.le_of_ble_eq_true rfl⟩ dX9_readLaw_9 rfl (st := []) (fun x_478442 I_478443 J_478444 h_478445 => ?_)
    obtain ⟨hUI_478443, hFI_478443, hGJ_478444, rx_478442⟩ := h_478445
    have hF_478446 := fq_tr hF hFI_478443 (by decide)
    have hG_478447 := fq_tr hG hGJ_478444 (by decide)
    exact g_zret (ty := .boolean) (r := x_478442) B K rfl (nar_z (rg_w rx_478442 (by decide) (by decide))) ⟨hUI_478443, hF_478446, hG_478447, rg_w rx_478442 (by decide) (by decide)⟩ dX9_readLaw_12
set_option maxRecDepth 100000 in
set_option maxHeartbeats 8000000 in
theorem c_X10_takeName {l : Launch} {D : va_G} {cy : Nat → ClassId} {L : List Nat} {κ ln : Nat → Nat} {R : Nat → Nat → Option Nat} {I : Nat → Nat → Int32} {J : Nat → Nat → Int64} {ow : Nat → Nat × Nat} (W9 : ∀ a ∈ L, Shp L κ ln R ow a) {x : Nat} (hLx : x ∈ L) (hkx : κ x = 10) (a0 : Int32) (ra0 : Rg (-1) 6 a0) (hU : Iv L κ R ow I) : CtI l yX10_takeName cX10_takeName 2 (some .int) { frames := 1, cells := 0, slots := 0, locals := 21 } D cy L κ ln R I J [.ref x, .int a0] (fun r I2 J2 => Iv L κ R ow I2 ∧ Fq L κ ow [1007, 1008, 1009, 1011, 1012] I I2 ∧ Fq L κ ow [1010] J J2 ∧ Rg (-1) 6 r ∧ (r = (-1) ∨ r = a0)) := by
  refine CtI.of (by decide +kernel) (Nat.le_of_ble_eq_true rfl) ?_
  intro p e s m below meth c B K
  have C := B.1
  have hF : Fq L κ ow [1007, 1008, 1009, 1011, 1012] I I := fq_rf
  have hG : Fq L κ ow [1010] J J := fq_rf
  refine g_lo (is := [0, 1]) (lo2 := [(0, .ref x), (1, .int a0)]) rfl ?_
  refine g_aload_n C 0 dX10_takeName_0 rfl rfl ?_
  obtain ⟨x_478500, hx_478500, rx_478500⟩ := ex_get (I := I) (a := x) (j := 8) (lo := (-2147483648)) (hi := 2147483647) hU.1 hLx (ro_o hkx (by decide)) rfl
  refine g_getI C K hLx hkx f_10_39 (v := x_478500) hx_478500 dX10_takeName_1 ?_
  refine g_bipush C (v := 100) dX10_takeName_4 (by decide) ?_
  refine g_icmp_eq C (tgt := 17) dX10_takeName_6 (by decide) (fun h_478501 => ?_) (fun h_478501 => ?_)
  · skip
    have r_478502 := (⟨(eq_rg (h_478501) rc_100).1, (eq_rg (h_478501) rc_100).2⟩ : Rg 100 100 x_478500)
    refine g_iload_n C 1 dX10_takeName_17 rfl rfl ?_
    refine g_iconst C (v := (-1)) dX10_takeName_18 (by decide) ?_
    refine g_icmp_ne C (tgt := 30) dX10_takeName_19 (by decide) (fun h_478503 => ?_) (fun h_478503 => ?_)
    · skip
      have n_478504 : ¬ a0 = (-1) := h_478503
      have r_478505 := ne_lo (lo := 0) n_478504 ra0 rc_m1 rfl (by decide)
      refine g_aload_n C 0 dX10_takeName_30 rfl rfl ?_
      refine g_callVV C K (c_X10_advance W9 hLx hkx   hU) hLx hkx (by decide) rfl v_10_84 rfl ⟨rfl, rfl⟩ ⟨Nat.le_of_ble_eq_true rfl, Nat.le_of_ble_eq_true rfl⟩ (Nat.le_of_ble_eq_true rfl) ⟨Nat.le_of_ble_eq_true rfl, Nat.le_of_ble_eq_true rfl⟩ dX10_takeName_31 rfl (st := []) (fun I_478507 J_478508 h_478509 => ?_)
      obtain ⟨hUI_478507, hFI_478507, hGJ_478508⟩ := h_478509
      have hF_478510 := fq_tr hF hFI_478507 (by decide)
      have hG_478511 := fq_tr hG hGJ_478508 (by decide)
      refine g_iload_n C 1 dX10_takeName_34 rfl rfl ?_
      exact g_zret (ty := .int) (r := a0) B K rfl (rfl) ⟨hUI_478507, hF_478510, hG_478511, rg_w r_478505 (by decide) (by decide), (Or.inr rfl)⟩ dX10_takeName_35
    · skip
      have r_478512 := (⟨(ra0).1, (eq_rg (h_478503) rc_m1).2⟩ : Rg (-1) (-1) a0)
      refine g_aload_n C 0 dX10_takeName_22 rfl rfl ?_
      refine g_iconst C (v := 3) dX10_takeName_23 (by decide) ?_
      refine g_callVI C K (c_X10_fail W9 hLx hkx 3 (rg_w rc_3 (by decide) (by decide)) hU) hLx hkx (by decide) rfl v_10_101 rfl ⟨rfl, rfl⟩ ⟨Nat.le_of_ble_eq_true rfl, Nat.le_of_ble_eq_true rfl⟩ (Nat.le_of_ble_eq_true rfl) ⟨Nat.le_of_ble_eq_true rfl, Nat.le_of_ble_eq_true rfl⟩ dX10_takeName_24 rfl (st := []) (fun x_478513 I_478514 J_478515 h_478516 => ?_)
      obtain ⟨hUI_478514, hFI_478514, hGJ_478515, rx_478513⟩ := h_478516
      have hF_478517 := fq_tr hF hFI_478514 (by decide)
      have hG_478518 := fq_tr hG hGJ_478515 (by decide)
      refine g_pop C dX10_takeName_27 rfl ?_
      refine g_iconst C (v := (-1)) dX10_takeName_28 (by decide) ?_
      exact g_zret (ty := .int) (r := (-1)) B K rfl (rfl) ⟨hUI_478514, hF_478517, hG_478518, rg_w rc_m1 (by decide) (by decide), (Or.inl rfl)⟩ dX10_takeName_29
  · skip
    have n_478519 : ¬ x_478500 = 100 := h_478501
    refine g_aload_n C 0 dX10_takeName_9 rfl rfl ?_
    refine g_iconst C (v := 1) dX10_takeName_10 (by decide) ?_
    refine g_callVI C K (c_X10_fail W9 hLx hkx 1 (rg_w rc_1 (by decide) (by decide)) hU) hLx hkx (by decide) rfl v_10_101 rfl ⟨rfl, rfl⟩ ⟨Nat.le_of_ble_eq_true rfl, Nat.le_of_ble_eq_true rfl⟩ (Nat.le_of_ble_eq_true rfl) ⟨Nat.le_of_ble_eq_true rfl, Nat.le_of_ble_eq_true rfl⟩ dX10_takeName_11 rfl (st := []) (fun x_478520 I_478521 J_478522 h_478523 => ?_)
    obtain ⟨hUI_478521, hFI_478521, hGJ_478522, rx_478520⟩ := h_478523
    have hF_478524 := fq_tr hF hFI_478521 (by decide)
    have hG_478525 := fq_tr hG hGJ_478522 (by decide)
    refine g_pop C dX10_takeName_14 rfl ?_
    refine g_iconst C (v := (-1)) dX10_takeName_15 (by decide) ?_
    exact g_zret (ty := .int) (r := (-1)) B K rfl (rfl) ⟨hUI_478521, hF_478524, hG_478525, rg_w rc_m1 (by decide) (by decide), (Or.inl rfl)⟩ dX10_takeName_16
