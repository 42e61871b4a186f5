theorem dX10_begin_0 : decode cX10_begin 0 = .ok (.aload_n 0, 1) := by decide +kernel
theorem dX10_begin_1 : decode cX10_begin 1 = .ok (.getfield 29, 3) := by decide +kernel
theorem dX10_begin_4 : decode cX10_begin 4 = .ok (.iload_n 1, 1) := by decide +kernel
theorem dX10_begin_5 : decode cX10_begin 5 = .ok (.invokestatic 70, 3) := by decide +kernel
theorem dX10_begin_8 : decode cX10_begin 8 = .ok (.aload_n 0, 1) := by decide +kernel
theorem dX10_begin_9 : decode cX10_begin 9 = .ok (.getfield 9, 3) := by decide +kernel
theorem dX10_begin_12 : decode cX10_begin 12 = .ok (.arraylength, 1) := by decide +kernel
theorem dX10_begin_13 : decode cX10_begin 13 = .ok (.invokestatic 70, 3) := by decide +kernel
theorem dX10_begin_16 : decode cX10_begin 16 = .ok (.istore_n 2, 1) := by decide +kernel
theorem dX10_begin_17 : decode cX10_begin 17 = .ok (.iconst 0, 1) := by decide +kernel
theorem dX10_begin_18 : decode cX10_begin 18 = .ok (.istore_n 3, 1) := by decide +kernel
theorem dX10_begin_19 : decode cX10_begin 19 = .ok (.aload_n 0, 1) := by decide +kernel
theorem dX10_begin_20 : decode cX10_begin 20 = .ok (.iconst 0, 1) := by decide +kernel
theorem dX10_begin_21 : decode cX10_begin 21 = .ok (.putfield 33, 3) := by decide +kernel
theorem dX10_begin_24 : decode cX10_begin 24 = .ok (.iconst 0, 1) := by decide +kernel
theorem dX10_begin_25 : decode cX10_begin 25 = .ok (.istore 4, 2) := by decide +kernel
theorem dX10_begin_27 : decode cX10_begin 27 = .ok (.iload 4, 2) := by decide +kernel
theorem dX10_begin_29 : decode cX10_begin 29 = .ok (.iload_n 2, 1) := by decide +kernel
theorem dX10_begin_30 : decode cX10_begin 30 = .ok (.if_icmp .ge 46, 3) := by decide +kernel
theorem dX10_begin_33 : decode cX10_begin 33 = .ok (.iload 4, 2) := by decide +kernel
theorem dX10_begin_35 : decode cX10_begin 35 = .ok (.iload_n 3, 1) := by decide +kernel
theorem dX10_begin_36 : decode cX10_begin 36 = .ok (.if_icmp .lt 34, 3) := by decide +kernel
theorem dX10_begin_39 : decode cX10_begin 39 = .ok (.aload_n 0, 1) := by decide +kernel
theorem dX10_begin_40 : decode cX10_begin 40 = .ok (.getfield 9, 3) := by decide +kernel
theorem dX10_begin_43 : decode cX10_begin 43 = .ok (.iload 4, 2) := by decide +kernel
theorem dX10_begin_45 : decode cX10_begin 45 = .ok (.baload, 1) := by decide +kernel
theorem dX10_begin_46 : decode cX10_begin 46 = .ok (.bipush 32, 2) := by decide +kernel
theorem dX10_begin_48 : decode cX10_begin 48 = .ok (.if_icmp .eq 22, 3) := by decide +kernel
theorem dX10_begin_51 : decode cX10_begin 51 = .ok (.aload_n 0, 1) := by decide +kernel
theorem dX10_begin_52 : decode cX10_begin 52 = .ok (.getfield 9, 3) := by decide +kernel
theorem dX10_begin_55 : decode cX10_begin 55 = .ok (.iload 4, 2) := by decide +kernel
theorem dX10_begin_57 : decode cX10_begin 57 = .ok (.baload, 1) := by decide +kernel
theorem dX10_begin_58 : decode cX10_begin 58 = .ok (.bipush 10, 2) := by decide +kernel
theorem dX10_begin_60 : decode cX10_begin 60 = .ok (.if_icmp .eq 10, 3) := by decide +kernel
theorem dX10_begin_63 : decode cX10_begin 63 = .ok (.aload_n 0, 1) := by decide +kernel
theorem dX10_begin_64 : decode cX10_begin 64 = .ok (.iload 4, 2) := by decide +kernel
theorem dX10_begin_66 : decode cX10_begin 66 = .ok (.invokevirtual 76, 3) := by decide +kernel
theorem dX10_begin_69 : decode cX10_begin 69 = .ok (.istore_n 3, 1) := by decide +kernel
theorem dX10_begin_70 : decode cX10_begin 70 = .ok (.iinc 4 1, 3) := by decide +kernel
theorem dX10_begin_73 : decode cX10_begin 73 = .ok (.goto (-46), 3) := by decide +kernel
theorem dX10_begin_76 : decode cX10_begin 76 = .ok (.aload_n 0, 1) := by decide +kernel
theorem dX10_begin_77 : decode cX10_begin 77 = .ok (.aload_n 0, 1) := by decide +kernel
theorem dX10_begin_78 : decode cX10_begin 78 = .ok (.getfield 29, 3) := by decide +kernel
theorem dX10_begin_81 : decode cX10_begin 81 = .ok (.iload_n 1, 1) := by decide +kernel
theorem dX10_begin_82 : decode cX10_begin 82 = .ok (.if_icmp .le 8, 3) := by decide +kernel
theorem dX10_begin_85 : decode cX10_begin 85 = .ok (.bipush 103, 2) := by decide +kernel
theorem dX10_begin_87 : decode cX10_begin 87 = .ok (.goto 5, 3) := by decide +kernel
theorem dX10_begin_90 : decode cX10_begin 90 = .ok (.bipush 102, 2) := by decide +kernel
theorem dX10_begin_92 : decode cX10_begin 92 = .ok (.iload_n 2, 1) := by decide +kernel
theorem dX10_begin_93 : decode cX10_begin 93 = .ok (.lconst 0, 1) := by decide +kernel
theorem dX10_begin_94 : decode cX10_begin 94 = .ok (.invokevirtual 80, 3) := by decide +kernel
theorem dX10_begin_97 : decode cX10_begin 97 = .ok (.aload_n 0, 1) := by decide +kernel
theorem dX10_begin_98 : decode cX10_begin 98 = .ok (.iconst 0, 1) := by decide +kernel
theorem dX10_begin_99 : decode cX10_begin 99 = .ok (.putfield 49, 3) := by decide +kernel
theorem dX10_begin_102 : decode cX10_begin 102 = .ok (.aload_n 0, 1) := by decide +kernel
theorem dX10_begin_103 : decode cX10_begin 103 = .ok (.iconst 0, 1) := by decide +kernel
theorem dX10_begin_104 : decode cX10_begin 104 = .ok (.putfield 52, 3) := by decide +kernel
theorem dX10_begin_107 : decode cX10_begin 107 = .ok (.aload_n 0, 1) := by decide +kernel
theorem dX10_begin_108 : decode cX10_begin 108 = .ok (.iconst (-1), 1) := by decide +kernel
theorem dX10_begin_109 : decode cX10_begin 109 = .ok (.putfield 36, 3) := by decide +kernel
theorem dX10_begin_112 : decode cX10_begin 112 = .ok (.aload_n 0, 1) := by decide +kernel
theorem dX10_begin_113 : decode cX10_begin 113 = .ok (.invokevirtual 84, 3) := by decide +kernel
theorem dX10_begin_116 : decode cX10_begin 116 = .ok (.return_, 1) := by decide +kernel
theorem dX10_fail_0 : decode cX10_fail 0 = .ok (.aload_n 0, 1) := by decide +kernel
theorem dX10_fail_1 : decode cX10_fail 1 = .ok (.getfield 49, 3) := by decide +kernel
theorem dX10_fail_4 : decode cX10_fail 4 = .ok (.ifCond .ne 16, 3) := by decide +kernel
theorem dX10_fail_7 : decode cX10_fail 7 = .ok (.aload_n 0, 1) := by decide +kernel
theorem dX10_fail_8 : decode cX10_fail 8 = .ok (.iload_n 1, 1) := by decide +kernel
theorem dX10_fail_9 : decode cX10_fail 9 = .ok (.putfield 49, 3) := by decide +kernel
theorem dX10_fail_12 : decode cX10_fail 12 = .ok (.aload_n 0, 1) := by decide +kernel
theorem dX10_fail_13 : decode cX10_fail 13 = .ok (.aload_n 0, 1) := by decide +kernel
theorem dX10_fail_14 : decode cX10_fail 14 = .ok (.getfield 42, 3) := by decide +kernel
theorem dX10_fail_17 : decode cX10_fail 17 = .ok (.putfield 52, 3) := by decide +kernel
theorem dX10_fail_20 : decode cX10_fail 20 = .ok (.iconst 0, 1) := by decide +kernel
theorem dX10_fail_21 : decode cX10_fail 21 = .ok (.ireturn, 1) := by decide +kernel
theorem dX10_readToken_0 : decode cX10_readToken 0 = .ok (.iconst 0, 1) := by decide +kernel
theorem dX10_readToken_1 : decode cX10_readToken 1 = .ok (.istore_n 2, 1) := by decide +kernel
theorem dX10_readToken_2 : decode cX10_readToken 2 = .ok (.iconst 0, 1) := by decide +kernel
theorem dX10_readToken_3 : decode cX10_readToken 3 = .ok (.istore_n 3, 1) := by decide +kernel
theorem dX10_readToken_4 : decode cX10_readToken 4 = .ok (.lconst 0, 1) := by decide +kernel
theorem dX10_readToken_5 : decode cX10_readToken 5 = .ok (.lstore 4, 2) := by decide +kernel
theorem dX10_readToken_7 : decode cX10_readToken 7 = .ok (.iconst 0, 1) := by decide +kernel
theorem dX10_readToken_8 : decode cX10_readToken 8 = .ok (.istore 6, 2) := by decide +kernel
theorem dX10_readToken_10 : decode cX10_readToken 10 = .ok (.iload_n 1, 1) := by decide +kernel
theorem dX10_readToken_11 : decode cX10_readToken 11 = .ok (.istore 7, 2) := by decide +kernel
theorem dX10_readToken_13 : decode cX10_readToken 13 = .ok (.iload 7, 2) := by decide +kernel
theorem dX10_readToken_15 : decode cX10_readToken 15 = .ok (.aload_n 0, 1) := by decide +kernel
theorem dX10_readToken_16 : decode cX10_readToken 16 = .ok (.getfield 29, 3) := by decide +kernel
theorem dX10_readToken_19 : decode cX10_readToken 19 = .ok (.if_icmp .ge 99, 3) := by decide +kernel
theorem dX10_readToken_22 : decode cX10_readToken 22 = .ok (.iload 7, 2) := by decide +kernel
theorem dX10_readToken_24 : decode cX10_readToken 24 = .ok (.aload_n 0, 1) := by decide +kernel
theorem dX10_readToken_25 : decode cX10_readToken 25 = .ok (.getfield 9, 3) := by decide +kernel
theorem dX10_readToken_28 : decode cX10_readToken 28 = .ok (.arraylength, 1) := by decide +kernel
theorem dX10_readToken_29 : decode cX10_readToken 29 = .ok (.if_icmp .ge 89, 3) := by decide +kernel
theorem dX10_readToken_32 : decode cX10_readToken 32 = .ok (.aload_n 0, 1) := by decide +kernel
theorem dX10_readToken_33 : decode cX10_readToken 33 = .ok (.getfield 9, 3) := by decide +kernel
theorem dX10_readToken_36 : decode cX10_readToken 36 = .ok (.iload 7, 2) := by decide +kernel
theorem dX10_readToken_38 : decode cX10_readToken 38 = .ok (.baload, 1) := by decide +kernel
theorem dX10_readToken_39 : decode cX10_readToken 39 = .ok (.invokestatic 87, 3) := by decide +kernel
theorem dX10_readToken_42 : decode cX10_readToken 42 = .ok (.ifCond .ne 16, 3) := by decide +kernel
theorem dX10_readToken_45 : decode cX10_readToken 45 = .ok (.aload_n 0, 1) := by decide +kernel
theorem dX10_readToken_46 : decode cX10_readToken 46 = .ok (.getfield 9, 3) := by decide +kernel
theorem dX10_readToken_49 : decode cX10_readToken 49 = .ok (.iload 7, 2) := by decide +kernel
theorem dX10_readToken_51 : decode cX10_readToken 51 = .ok (.baload, 1) := by decide +kernel
theorem dX10_readToken_52 : decode cX10_readToken 52 = .ok (.invokestatic 91, 3) := by decide +kernel
theorem dX10_readToken_55 : decode cX10_readToken 55 = .ok (.ifCond .eq 63, 3) := by decide +kernel
theorem dX10_readToken_58 : decode cX10_readToken 58 = .ok (.aload_n 0, 1) := by decide +kernel
theorem dX10_readToken_59 : decode cX10_readToken 59 = .ok (.getfield 9, 3) := by decide +kernel
theorem dX10_readToken_62 : decode cX10_readToken 62 = .ok (.iload 7, 2) := by decide +kernel
theorem dX10_readToken_64 : decode cX10_readToken 64 = .ok (.baload, 1) := by decide +kernel
theorem dX10_readToken_65 : decode cX10_readToken 65 = .ok (.invokestatic 87, 3) := by decide +kernel
theorem dX10_readToken_68 : decode cX10_readToken 68 = .ok (.ifCond .eq 23, 3) := by decide +kernel
theorem dX10_readToken_71 : decode cX10_readToken 71 = .ok (.lload 4, 2) := by decide +kernel
theorem dX10_readToken_73 : decode cX10_readToken 73 = .ok (.aload_n 0, 1) := by decide +kernel
theorem dX10_readToken_74 : decode cX10_readToken 74 = .ok (.getfield 9, 3) := by decide +kernel
theorem dX10_readToken_77 : decode cX10_readToken 77 = .ok (.iload 7, 2) := by decide +kernel
theorem dX10_readToken_79 : decode cX10_readToken 79 = .ok (.baload, 1) := by decide +kernel
theorem dX10_readToken_80 : decode cX10_readToken 80 = .ok (.invokestatic 66, 3) := by decide +kernel
theorem dX10_readToken_83 : decode cX10_readToken 83 = .ok (.lstore 4, 2) := by decide +kernel
theorem dX10_readToken_85 : decode cX10_readToken 85 = .ok (.iinc 2 1, 3) := by decide +kernel
theorem dX10_readToken_88 : decode cX10_readToken 88 = .ok (.goto 24, 3) := by decide +kernel
theorem dX10_readToken_91 : decode cX10_readToken 91 = .ok (.iload 6, 2) := by decide +kernel
theorem dX10_readToken_93 : decode cX10_readToken 93 = .ok (.bipush 10, 2) := by decide +kernel
theorem dX10_readToken_95 : decode cX10_readToken 95 = .ok (.imul, 1) := by decide +kernel
theorem dX10_readToken_96 : decode cX10_readToken 96 = .ok (.aload_n 0, 1) := by decide +kernel
theorem dX10_readToken_97 : decode cX10_readToken 97 = .ok (.getfield 9, 3) := by decide +kernel
theorem dX10_readToken_100 : decode cX10_readToken 100 = .ok (.iload 7, 2) := by decide +kernel
theorem dX10_readToken_102 : decode cX10_readToken 102 = .ok (.baload, 1) := by decide +kernel
theorem dX10_readToken_103 : decode cX10_readToken 103 = .ok (.iadd, 1) := by decide +kernel
theorem dX10_readToken_104 : decode cX10_readToken 104 = .ok (.bipush 48, 2) := by decide +kernel
theorem dX10_readToken_106 : decode cX10_readToken 106 = .ok (.isub, 1) := by decide +kernel
theorem dX10_readToken_107 : decode cX10_readToken 107 = .ok (.istore 6, 2) := by decide +kernel
theorem dX10_readToken_109 : decode cX10_readToken 109 = .ok (.iinc 3 1, 3) := by decide +kernel
theorem dX10_readToken_112 : decode cX10_readToken 112 = .ok (.iinc 7 1, 3) := by decide +kernel
theorem dX10_readToken_115 : decode cX10_readToken 115 = .ok (.goto (-102), 3) := by decide +kernel
theorem dX10_readToken_118 : decode cX10_readToken 118 = .ok (.iload 7, 2) := by decide +kernel
theorem dX10_readToken_120 : decode cX10_readToken 120 = .ok (.iload_n 1, 1) := by decide +kernel
theorem dX10_readToken_121 : decode cX10_readToken 121 = .ok (.if_icmp .ne 36, 3) := by decide +kernel
theorem dX10_readToken_124 : decode cX10_readToken 124 = .ok (.aload_n 0, 1) := by decide +kernel
theorem dX10_readToken_125 : decode cX10_readToken 125 = .ok (.aload_n 0, 1) := by decide +kernel
theorem dX10_readToken_126 : decode cX10_readToken 126 = .ok (.getfield 9, 3) := by decide +kernel
theorem dX10_readToken_129 : decode cX10_readToken 129 = .ok (.iload_n 1, 1) := by decide +kernel
theorem dX10_readToken_130 : decode cX10_readToken 130 = .ok (.baload, 1) := by decide +kernel
theorem dX10_readToken_131 : decode cX10_readToken 131 = .ok (.invokestatic 94, 3) := by decide +kernel
theorem dX10_readToken_134 : decode cX10_readToken 134 = .ok (.ifCond .eq 12, 3) := by decide +kernel
theorem dX10_readToken_137 : decode cX10_readToken 137 = .ok (.aload_n 0, 1) := by decide +kernel
theorem dX10_readToken_138 : decode cX10_readToken 138 = .ok (.getfield 9, 3) := by decide +kernel
theorem dX10_readToken_141 : decode cX10_readToken 141 = .ok (.iload_n 1, 1) := by decide +kernel
theorem dX10_readToken_142 : decode cX10_readToken 142 = .ok (.baload, 1) := by decide +kernel
theorem dX10_readToken_143 : decode cX10_readToken 143 = .ok (.goto 5, 3) := by decide +kernel
theorem dX10_readToken_146 : decode cX10_readToken 146 = .ok (.bipush 103, 2) := by decide +kernel
theorem dX10_readToken_148 : decode cX10_readToken 148 = .ok (.iload_n 1, 1) := by decide +kernel
theorem dX10_readToken_149 : decode cX10_readToken 149 = .ok (.lconst 0, 1) := by decide +kernel
theorem dX10_readToken_150 : decode cX10_readToken 150 = .ok (.invokevirtual 80, 3) := by decide +kernel
theorem dX10_readToken_153 : decode cX10_readToken 153 = .ok (.iload_n 1, 1) := by decide +kernel
theorem dX10_readToken_154 : decode cX10_readToken 154 = .ok (.iconst 1, 1) := by decide +kernel
theorem dX10_readToken_155 : decode cX10_readToken 155 = .ok (.iadd, 1) := by decide +kernel
theorem dX10_readToken_156 : decode cX10_readToken 156 = .ok (.ireturn, 1) := by decide +kernel
theorem dX10_readToken_157 : decode cX10_readToken 157 = .ok (.iload_n 3, 1) := by decide +kernel
theorem dX10_readToken_158 : decode cX10_readToken 158 = .ok (.ifCond .ne 25, 3) := by decide +kernel
theorem dX10_readToken_161 : decode cX10_readToken 161 = .ok (.iload_n 2, 1) := by decide +kernel
theorem dX10_readToken_162 : decode cX10_readToken 162 = .ok (.bipush 7, 2) := by decide +kernel
theorem dX10_readToken_164 : decode cX10_readToken 164 = .ok (.if_icmp .gt 19, 3) := by decide +kernel
theorem dX10_readToken_167 : decode cX10_readToken 167 = .ok (.aload_n 0, 1) := by decide +kernel
theorem dX10_readToken_168 : decode cX10_readToken 168 = .ok (.aload_n 0, 1) := by decide +kernel
theorem dX10_readToken_169 : decode cX10_readToken 169 = .ok (.lload 4, 2) := by decide +kernel
theorem dX10_readToken_171 : decode cX10_readToken 171 = .ok (.invokevirtual 97, 3) := by decide +kernel
theorem dX10_readToken_174 : decode cX10_readToken 174 = .ok (.iload_n 1, 1) := by decide +kernel
theorem dX10_readToken_175 : decode cX10_readToken 175 = .ok (.lload 4, 2) := by decide +kernel
theorem dX10_readToken_177 : decode cX10_readToken 177 = .ok (.invokevirtual 80, 3) := by decide +kernel
theorem dX10_readToken_180 : decode cX10_readToken 180 = .ok (.goto 33, 3) := by decide +kernel
theorem dX10_readToken_183 : decode cX10_readToken 183 = .ok (.iload_n 2, 1) := by decide +kernel
theorem dX10_readToken_184 : decode cX10_readToken 184 = .ok (.ifCond .ne 21, 3) := by decide +kernel
theorem dX10_readToken_187 : decode cX10_readToken 187 = .ok (.iload_n 3, 1) := by decide +kernel
theorem dX10_readToken_188 : decode cX10_readToken 188 = .ok (.iconst 3, 1) := by decide +kernel
theorem dX10_readToken_189 : decode cX10_readToken 189 = .ok (.if_icmp .gt 16, 3) := by decide +kernel
theorem dX10_readToken_192 : decode cX10_readToken 192 = .ok (.aload_n 0, 1) := by decide +kernel
theorem dX10_readToken_193 : decode cX10_readToken 193 = .ok (.bipush 101, 2) := by decide +kernel
theorem dX10_readToken_195 : decode cX10_readToken 195 = .ok (.iload_n 1, 1) := by decide +kernel
theorem dX10_readToken_196 : decode cX10_readToken 196 = .ok (.iload 6, 2) := by decide +kernel
theorem dX10_readToken_198 : decode cX10_readToken 198 = .ok (.i2l, 1) := by decide +kernel
theorem dX10_readToken_199 : decode cX10_readToken 199 = .ok (.invokevirtual 80, 3) := by decide +kernel
theorem dX10_readToken_202 : decode cX10_readToken 202 = .ok (.goto 11, 3) := by decide +kernel
theorem dX10_readToken_205 : decode cX10_readToken 205 = .ok (.aload_n 0, 1) := by decide +kernel
theorem dX10_readToken_206 : decode cX10_readToken 206 = .ok (.bipush 103, 2) := by decide +kernel
theorem dX10_readToken_208 : decode cX10_readToken 208 = .ok (.iload_n 1, 1) := by decide +kernel
theorem dX10_readToken_209 : decode cX10_readToken 209 = .ok (.lconst 0, 1) := by decide +kernel
theorem dX10_readToken_210 : decode cX10_readToken 210 = .ok (.invokevirtual 80, 3) := by decide +kernel
theorem dX10_readToken_213 : decode cX10_readToken 213 = .ok (.iload 7, 2) := by decide +kernel
theorem dX10_readToken_215 : decode cX10_readToken 215 = .ok (.ireturn, 1) := by decide +kernel
theorem dX10_take_0 : decode cX10_take 0 = .ok (.aload_n 0, 1) := by decide +kernel
theorem dX10_take_1 : decode cX10_take 1 = .ok (.getfield 39, 3) := by decide +kernel
theorem dX10_take_4 : decode cX10_take 4 = .ok (.iload_n 1, 1) := by decide +kernel
theorem dX10_take_5 : decode cX10_take 5 = .ok (.if_icmp .eq 9, 3) := by decide +kernel
theorem dX10_take_8 : decode cX10_take 8 = .ok (.aload_n 0, 1) := by decide +kernel
theorem dX10_take_9 : decode cX10_take 9 = .ok (.iconst 1, 1) := by decide +kernel
theorem dX10_take_10 : decode cX10_take 10 = .ok (.invokevirtual 101, 3) := by decide +kernel
theorem dX10_take_13 : decode cX10_take 13 = .ok (.ireturn, 1) := by decide +kernel
theorem dX10_take_14 : decode cX10_take 14 = .ok (.aload_n 0, 1) := by decide +kernel
theorem dX10_take_15 : decode cX10_take 15 = .ok (.invokevirtual 84, 3) := by decide +kernel
theorem dX10_take_18 : decode cX10_take 18 = .ok (.iconst 1, 1) := by decide +kernel
theorem dX10_take_19 : decode cX10_take 19 = .ok (.ireturn, 1) := by decide +kernel
theorem dX10_takeName_0 : decode cX10_takeName 0 = .ok (.aload_n 0, 1) := by decide +kernel
theorem dX10_takeName_1 : decode cX10_takeName 1 = .ok (.getfield 39, 3) := by decide +kernel
theorem dX10_takeName_4 : decode cX10_takeName 4 = .ok (.bipush 100, 2) := by decide +kernel
theorem dX10_takeName_6 : decode cX10_takeName 6 = .ok (.if_icmp .eq 11, 3) := by decide +kernel
theorem dX10_takeName_9 : decode cX10_takeName 9 = .ok (.aload_n 0, 1) := by decide +kernel
theorem dX10_takeName_10 : decode cX10_takeName 10 = .ok (.iconst 1, 1) := by decide +kernel
theorem dX10_takeName_11 : decode cX10_takeName 11 = .ok (.invokevirtual 101, 3) := by decide +kernel
theorem dX10_takeName_14 : decode cX10_takeName 14 = .ok (.pop, 1) := by decide +kernel
theorem dX10_takeName_15 : decode cX10_takeName 15 = .ok (.iconst (-1), 1) := by decide +kernel
theorem dX10_takeName_16 : decode cX10_takeName 16 = .ok (.ireturn, 1) := by decide +kernel
theorem dX10_takeName_17 : decode cX10_takeName 17 = .ok (.iload_n 1, 1) := by decide +kernel
theorem dX10_takeName_18 : decode cX10_takeName 18 = .ok (.iconst (-1), 1) := by decide +kernel
theorem dX10_takeName_19 : decode cX10_takeName 19 = .ok (.if_icmp .ne 11, 3) := by decide +kernel
theorem dX10_takeName_22 : decode cX10_takeName 22 = .ok (.aload_n 0, 1) := by decide +kernel
theorem dX10_takeName_23 : decode cX10_takeName 23 = .ok (.iconst 3, 1) := by decide +kernel
theorem dX10_takeName_24 : decode cX10_takeName 24 = .ok (.invokevirtual 101, 3) := by decide +kernel
theorem dX10_takeName_27 : decode cX10_takeName 27 = .ok (.pop, 1) := by decide +kernel
theorem dX10_takeName_28 : decode cX10_takeName 28 = .ok (.iconst (-1), 1) := by decide +kernel
theorem dX10_takeName_29 : decode cX10_takeName 29 = .ok (.ireturn, 1) := by decide +kernel
theorem dX10_takeName_30 : decode cX10_takeName 30 = .ok (.aload_n 0, 1) := by decide +kernel
theorem dX10_takeName_31 : decode cX10_takeName 31 = .ok (.invokevirtual 84, 3) := by decide +kernel
theorem dX10_takeName_34 : decode cX10_takeName 34 = .ok (.iload_n 1, 1) := by decide +kernel
theorem dX10_takeName_35 : decode cX10_takeName 35 = .ok (.ireturn, 1) := by decide +kernel
theorem dX10_takeNumber_0 : decode cX10_takeNumber 0 = .ok (.aload_n 0, 1) := by decide +kernel
theorem dX10_takeNumber_1 : decode cX10_takeNumber 1 = .ok (.getfield 39, 3) := by decide +kernel
theorem dX10_takeNumber_4 : decode cX10_takeNumber 4 = .ok (.bipush 101, 2) := by decide +kernel
theorem dX10_takeNumber_6 : decode cX10_takeNumber 6 = .ok (.if_icmp .eq 11, 3) := by decide +kernel
theorem dX10_takeNumber_9 : decode cX10_takeNumber 9 = .ok (.aload_n 0, 1) := by decide +kernel
theorem dX10_takeNumber_10 : decode cX10_takeNumber 10 = .ok (.iconst 1, 1) := by decide +kernel
theorem dX10_takeNumber_11 : decode cX10_takeNumber 11 = .ok (.invokevirtual 101, 3) := by decide +kernel
theorem dX10_takeNumber_14 : decode cX10_takeNumber 14 = .ok (.pop, 1) := by decide +kernel
theorem dX10_takeNumber_15 : decode cX10_takeNumber 15 = .ok (.iconst (-1), 1) := by decide +kernel
theorem dX10_takeNumber_16 : decode cX10_takeNumber 16 = .ok (.ireturn, 1) := by decide +kernel
theorem dX10_takeNumber_17 : decode cX10_takeNumber 17 = .ok (.aload_n 0, 1) := by decide +kernel
theorem dX10_takeNumber_18 : decode cX10_takeNumber 18 = .ok (.getfield 45, 3) := by decide +kernel
theorem dX10_takeNumber_21 : decode cX10_takeNumber 21 = .ok (.iload_n 1, 1) := by decide +kernel
theorem dX10_takeNumber_22 : decode cX10_takeNumber 22 = .ok (.i2l, 1) := by decide +kernel
theorem dX10_takeNumber_23 : decode cX10_takeNumber 23 = .ok (.lcmp, 1) := by decide +kernel
theorem dX10_takeNumber_24 : decode cX10_takeNumber 24 = .ok (.ifCond .lt 13, 3) := by decide +kernel
theorem dX10_takeNumber_27 : decode cX10_takeNumber 27 = .ok (.aload_n 0, 1) := by decide +kernel
theorem dX10_takeNumber_28 : decode cX10_takeNumber 28 = .ok (.getfield 45, 3) := by decide +kernel
theorem dX10_takeNumber_31 : decode cX10_takeNumber 31 = .ok (.iload_n 2, 1) := by decide +kernel
theorem dX10_takeNumber_32 : decode cX10_takeNumber 32 = .ok (.i2l, 1) := by decide +kernel
theorem dX10_takeNumber_33 : decode cX10_takeNumber 33 = .ok (.lcmp, 1) := by decide +kernel
theorem dX10_takeNumber_34 : decode cX10_takeNumber 34 = .ok (.ifCond .le 11, 3) := by decide +kernel
theorem dX10_takeNumber_37 : decode cX10_takeNumber 37 = .ok (.aload_n 0, 1) := by decide +kernel
theorem dX10_takeNumber_38 : decode cX10_takeNumber 38 = .ok (.iconst 2, 1) := by decide +kernel
theorem dX10_takeNumber_39 : decode cX10_takeNumber 39 = .ok (.invokevirtual 101, 3) := by decide +kernel
theorem dX10_takeNumber_42 : decode cX10_takeNumber 42 = .ok (.pop, 1) := by decide +kernel
theorem dX10_takeNumber_43 : decode cX10_takeNumber 43 = .ok (.iconst (-1), 1) := by decide +kernel
theorem dX10_takeNumber_44 : decode cX10_takeNumber 44 = .ok (.ireturn, 1) := by decide +kernel
theorem dX10_takeNumber_45 : decode cX10_takeNumber 45 = .ok (.aload_n 0, 1) := by decide +kernel
theorem dX10_takeNumber_46 : decode cX10_takeNumber 46 = .ok (.getfield 45, 3) := by decide +kernel
theorem dX10_takeNumber_49 : decode cX10_takeNumber 49 = .ok (.l2i, 1) := by decide +kernel
theorem dX10_takeNumber_50 : decode cX10_takeNumber 50 = .ok (.istore_n 3, 1) := by decide +kernel
theorem dX10_takeNumber_51 : decode cX10_takeNumber 51 = .ok (.aload_n 0, 1) := by decide +kernel
theorem dX10_takeNumber_52 : decode cX10_takeNumber 52 = .ok (.invokevirtual 84, 3) := by decide +kernel
theorem dX10_takeNumber_55 : decode cX10_takeNumber 55 = .ok (.iload_n 3, 1) := by decide +kernel
theorem dX10_takeNumber_56 : decode cX10_takeNumber 56 = .ok (.ireturn, 1) := by decide +kernel
theorem dX1_forget_0 : decode cX1_forget 0 = .ok (.iconst 0, 1) := by decide +kernel
theorem dX1_forget_1 : decode cX1_forget 1 = .ok (.istore_n 1, 1) := by decide +kernel
theorem dX1_forget_2 : decode cX1_forget 2 = .ok (.iload_n 1, 1) := by decide +kernel
theorem dX1_forget_3 : decode cX1_forget 3 = .ok (.bipush 6, 2) := by decide +kernel
theorem dX1_forget_5 : decode cX1_forget 5 = .ok (.if_icmp .ge 16, 3) := by decide +kernel
theorem dX1_forget_8 : decode cX1_forget 8 = .ok (.aload_n 0, 1) := by decide +kernel
theorem dX1_forget_9 : decode cX1_forget 9 = .ok (.getfield 9, 3) := by decide +kernel
theorem dX1_forget_12 : decode cX1_forget 12 = .ok (.iload_n 1, 1) := by decide +kernel
theorem dX1_forget_13 : decode cX1_forget 13 = .ok (.iconst 0, 1) := by decide +kernel
theorem dX1_forget_14 : decode cX1_forget 14 = .ok (.iastore, 1) := by decide +kernel
theorem dX1_forget_15 : decode cX1_forget 15 = .ok (.iinc 1 1, 3) := by decide +kernel
theorem dX1_forget_18 : decode cX1_forget 18 = .ok (.goto (-16), 3) := by decide +kernel
theorem dX1_forget_21 : decode cX1_forget 21 = .ok (.iconst 0, 1) := by decide +kernel
theorem dX1_forget_22 : decode cX1_forget 22 = .ok (.istore_n 1, 1) := by decide +kernel
theorem dX1_forget_23 : decode cX1_forget 23 = .ok (.iload_n 1, 1) := by decide +kernel
theorem dX1_forget_24 : decode cX1_forget 24 = .ok (.bipush 42, 2) := by decide +kernel
theorem dX1_forget_26 : decode cX1_forget 26 = .ok (.if_icmp .ge 16, 3) := by decide +kernel
theorem dX1_forget_29 : decode cX1_forget 29 = .ok (.aload_n 0, 1) := by decide +kernel
theorem dX1_forget_30 : decode cX1_forget 30 = .ok (.getfield 15, 3) := by decide +kernel
theorem dX1_forget_33 : decode cX1_forget 33 = .ok (.iload_n 1, 1) := by decide +kernel
theorem dX1_forget_34 : decode cX1_forget 34 = .ok (.iconst 0, 1) := by decide +kernel
theorem dX1_forget_35 : decode cX1_forget 35 = .ok (.iastore, 1) := by decide +kernel
theorem dX1_forget_36 : decode cX1_forget 36 = .ok (.iinc 1 1, 3) := by decide +kernel
theorem dX1_forget_39 : decode cX1_forget 39 = .ok (.goto (-16), 3) := by decide +kernel
theorem dX1_forget_42 : decode cX1_forget 42 = .ok (.iconst 0, 1) := by decide +kernel
theorem dX1_forget_43 : decode cX1_forget 43 = .ok (.istore_n 1, 1) := by decide +kernel
theorem dX1_forget_44 : decode cX1_forget 44 = .ok (.iload_n 1, 1) := by decide +kernel
theorem dX1_forget_45 : decode cX1_forget 45 = .ok (.bipush 7, 2) := by decide +kernel
theorem dX1_forget_47 : decode cX1_forget 47 = .ok (.if_icmp .ge 37, 3) := by decide +kernel
theorem dX1_forget_50 : decode cX1_forget 50 = .ok (.aload_n 0, 1) := by decide +kernel
theorem dX1_forget_51 : decode cX1_forget 51 = .ok (.getfield 18, 3) := by decide +kernel
theorem dX1_forget_54 : decode cX1_forget 54 = .ok (.iload_n 1, 1) := by decide +kernel
theorem dX1_forget_55 : decode cX1_forget 55 = .ok (.iconst 0, 1) := by decide +kernel
theorem dX1_forget_56 : decode cX1_forget 56 = .ok (.iastore, 1) := by decide +kernel
theorem dX1_forget_57 : decode cX1_forget 57 = .ok (.aload_n 0, 1) := by decide +kernel
theorem dX1_forget_58 : decode cX1_forget 58 = .ok (.getfield 21, 3) := by decide +kernel
theorem dX1_forget_61 : decode cX1_forget 61 = .ok (.iload_n 1, 1) := by decide +kernel
theorem dX1_forget_62 : decode cX1_forget 62 = .ok (.iconst 0, 1) := by decide +kernel
theorem dX1_forget_63 : decode cX1_forget 63 = .ok (.iastore, 1) := by decide +kernel
theorem dX1_forget_64 : decode cX1_forget 64 = .ok (.aload_n 0, 1) := by decide +kernel
theorem dX1_forget_65 : decode cX1_forget 65 = .ok (.getfield 24, 3) := by decide +kernel
theorem dX1_forget_68 : decode cX1_forget 68 = .ok (.iload_n 1, 1) := by decide +kernel
theorem dX1_forget_69 : decode cX1_forget 69 = .ok (.iconst 0, 1) := by decide +kernel
theorem dX1_forget_70 : decode cX1_forget 70 = .ok (.iastore, 1) := by decide +kernel
theorem dX1_forget_71 : decode cX1_forget 71 = .ok (.aload_n 0, 1) := by decide +kernel
theorem dX1_forget_72 : decode cX1_forget 72 = .ok (.getfield 27, 3) := by decide +kernel
theorem dX1_forget_75 : decode cX1_forget 75 = .ok (.iload_n 1, 1) := by decide +kernel
theorem dX1_forget_76 : decode cX1_forget 76 = .ok (.iconst 0, 1) := by decide +kernel
theorem dX1_forget_77 : decode cX1_forget 77 = .ok (.iastore, 1) := by decide +kernel
theorem dX1_forget_78 : decode cX1_forget 78 = .ok (.iinc 1 1, 3) := by decide +kernel
theorem dX1_forget_81 : decode cX1_forget 81 = .ok (.goto (-37), 3) := by decide +kernel
theorem dX1_forget_84 : decode cX1_forget 84 = .ok (.aload_n 0, 1) := by decide +kernel
theorem dX1_forget_85 : decode cX1_forget 85 = .ok (.iconst 0, 1) := by decide +kernel
theorem dX1_forget_86 : decode cX1_forget 86 = .ok (.putfield 30, 3) := by decide +kernel
theorem dX1_forget_89 : decode cX1_forget 89 = .ok (.aload_n 0, 1) := by decide +kernel
theorem dX1_forget_90 : decode cX1_forget 90 = .ok (.iconst 0, 1) := by decide +kernel
theorem dX1_forget_91 : decode cX1_forget 91 = .ok (.putfield 34, 3) := by decide +kernel
theorem dX1_forget_94 : decode cX1_forget 94 = .ok (.aload_n 0, 1) := by decide +kernel
theorem dX1_forget_95 : decode cX1_forget 95 = .ok (.iconst 0, 1) := by decide +kernel
theorem dX1_forget_96 : decode cX1_forget 96 = .ok (.putfield 37, 3) := by decide +kernel
theorem dX1_forget_99 : decode cX1_forget 99 = .ok (.aload_n 0, 1) := by decide +kernel
theorem dX1_forget_100 : decode cX1_forget 100 = .ok (.iconst 0, 1) := by decide +kernel
theorem dX1_forget_101 : decode cX1_forget 101 = .ok (.putfield 40, 3) := by decide +kernel
theorem dX1_forget_104 : decode cX1_forget 104 = .ok (.aload_n 0, 1) := by decide +kernel
theorem dX1_forget_105 : decode cX1_forget 105 = .ok (.iconst 0, 1) := by decide +kernel
theorem dX1_forget_106 : decode cX1_forget 106 = .ok (.putfield 43, 3) := by decide +kernel
theorem dX1_forget_109 : decode cX1_forget 109 = .ok (.aload_n 0, 1) := by decide +kernel
theorem dX1_forget_110 : decode cX1_forget 110 = .ok (.iconst 0, 1) := by decide +kernel
theorem dX1_forget_111 : decode cX1_forget 111 = .ok (.putfield 46, 3) := by decide +kernel
theorem dX1_forget_114 : decode cX1_forget 114 = .ok (.return_, 1) := by decide +kernel
theorem dX8_dishNamed_0 : decode cX8_dishNamed 0 = .ok (.iconst 0, 1) := by decide +kernel
theorem dX8_dishNamed_1 : decode cX8_dishNamed 1 = .ok (.istore_n 3, 1) := by decide +kernel
theorem dX8_dishNamed_2 : decode cX8_dishNamed 2 = .ok (.iload_n 3, 1) := by decide +kernel
theorem dX8_dishNamed_3 : decode cX8_dishNamed 3 = .ok (.aload_n 0, 1) := by decide +kernel
theorem dX8_dishNamed_4 : decode cX8_dishNamed 4 = .ok (.getfield 32, 3) := by decide +kernel
theorem dX8_dishNamed_7 : decode cX8_dishNamed 7 = .ok (.if_icmp .ge 22, 3) := by decide +kernel
theorem dX8_dishNamed_10 : decode cX8_dishNamed 10 = .ok (.aload_n 0, 1) := by decide +kernel
theorem dX8_dishNamed_11 : decode cX8_dishNamed 11 = .ok (.getfield 22, 3) := by decide +kernel
theorem dX8_dishNamed_14 : decode cX8_dishNamed 14 = .ok (.iload_n 3, 1) := by decide +kernel
theorem dX8_dishNamed_15 : decode cX8_dishNamed 15 = .ok (.laload, 1) := by decide +kernel
theorem dX8_dishNamed_16 : decode cX8_dishNamed 16 = .ok (.lload_n 1, 1) := by decide +kernel
theorem dX8_dishNamed_17 : decode cX8_dishNamed 17 = .ok (.lcmp, 1) := by decide +kernel
theorem dX8_dishNamed_18 : decode cX8_dishNamed 18 = .ok (.ifCond .ne 5, 3) := by decide +kernel
theorem dX8_dishNamed_21 : decode cX8_dishNamed 21 = .ok (.iload_n 3, 1) := by decide +kernel
theorem dX8_dishNamed_22 : decode cX8_dishNamed 22 = .ok (.ireturn, 1) := by decide +kernel
theorem dX8_dishNamed_23 : decode cX8_dishNamed 23 = .ok (.iinc 3 1, 3) := by decide +kernel
theorem dX8_dishNamed_26 : decode cX8_dishNamed 26 = .ok (.goto (-24), 3) := by decide +kernel
theorem dX8_dishNamed_29 : decode cX8_dishNamed 29 = .ok (.iconst (-1), 1) := by decide +kernel
theorem dX8_dishNamed_30 : decode cX8_dishNamed 30 = .ok (.ireturn, 1) := by decide +kernel
theorem dX8_forget_0 : decode cX8_forget 0 = .ok (.aload_n 0, 1) := by decide +kernel
theorem dX8_forget_1 : decode cX8_forget 1 = .ok (.iconst 0, 1) := by decide +kernel
theorem dX8_forget_2 : decode cX8_forget 2 = .ok (.putfield 28, 3) := by decide +kernel
theorem dX8_forget_5 : decode cX8_forget 5 = .ok (.aload_n 0, 1) := by decide +kernel
theorem dX8_forget_6 : decode cX8_forget 6 = .ok (.iconst 0, 1) := by decide +kernel
theorem dX8_forget_7 : decode cX8_forget 7 = .ok (.putfield 32, 3) := by decide +kernel
theorem dX8_forget_10 : decode cX8_forget 10 = .ok (.aload_n 0, 1) := by decide +kernel
theorem dX8_forget_11 : decode cX8_forget 11 = .ok (.iconst 0, 1) := by decide +kernel
theorem dX8_forget_12 : decode cX8_forget 12 = .ok (.putfield 35, 3) := by decide +kernel
theorem dX8_forget_15 : decode cX8_forget 15 = .ok (.aload_n 0, 1) := by decide +kernel
theorem dX8_forget_16 : decode cX8_forget 16 = .ok (.iconst 0, 1) := by decide +kernel
theorem dX8_forget_17 : decode cX8_forget 17 = .ok (.putfield 38, 3) := by decide +kernel
theorem dX8_forget_20 : decode cX8_forget 20 = .ok (.return_, 1) := by decide +kernel
theorem dX8_personNamed_0 : decode cX8_personNamed 0 = .ok (.iconst 0, 1) := by decide +kernel
theorem dX8_personNamed_1 : decode cX8_personNamed 1 = .ok (.istore_n 3, 1) := by decide +kernel
theorem dX8_personNamed_2 : decode cX8_personNamed 2 = .ok (.iload_n 3, 1) := by decide +kernel
theorem dX8_personNamed_3 : decode cX8_personNamed 3 = .ok (.aload_n 0, 1) := by decide +kernel
theorem dX8_personNamed_4 : decode cX8_personNamed 4 = .ok (.getfield 28, 3) := by decide +kernel
theorem dX8_personNamed_7 : decode cX8_personNamed 7 = .ok (.if_icmp .ge 22, 3) := by decide +kernel
theorem dX8_personNamed_10 : decode cX8_personNamed 10 = .ok (.aload_n 0, 1) := by decide +kernel
theorem dX8_personNamed_11 : decode cX8_personNamed 11 = .ok (.getfield 9, 3) := by decide +kernel
theorem dX8_personNamed_14 : decode cX8_personNamed 14 = .ok (.iload_n 3, 1) := by decide +kernel
theorem dX8_personNamed_15 : decode cX8_personNamed 15 = .ok (.laload, 1) := by decide +kernel
theorem dX8_personNamed_16 : decode cX8_personNamed 16 = .ok (.lload_n 1, 1) := by decide +kernel
theorem dX8_personNamed_17 : decode cX8_personNamed 17 = .ok (.lcmp, 1) := by decide +kernel
theorem dX8_personNamed_18 : decode cX8_personNamed 18 = .ok (.ifCond .ne 5, 3) := by decide +kernel
theorem dX8_personNamed_21 : decode cX8_personNamed 21 = .ok (.iload_n 3, 1) := by decide +kernel
theorem dX8_personNamed_22 : decode cX8_personNamed 22 = .ok (.ireturn, 1) := by decide +kernel
theorem dX8_personNamed_23 : decode cX8_personNamed 23 = .ok (.iinc 3 1, 3) := by decide +kernel
theorem dX8_personNamed_26 : decode cX8_personNamed 26 = .ok (.goto (-24), 3) := by decide +kernel
theorem dX8_personNamed_29 : decode cX8_personNamed 29 = .ok (.iconst (-1), 1) := by decide +kernel
theorem dX8_personNamed_30 : decode cX8_personNamed 30 = .ok (.ireturn, 1) := by decide +kernel
theorem dX9_newName_0 : decode cX9_newName 0 = .ok (.aload_n 1, 1) := by decide +kernel
theorem dX9_newName_1 : decode cX9_newName 1 = .ok (.getfield 44, 3) := by decide +kernel
theorem dX9_newName_4 : decode cX9_newName 4 = .ok (.bipush 100, 2) := by decide +kernel
theorem dX9_newName_6 : decode cX9_newName 6 = .ok (.if_icmp .eq 9, 3) := by decide +kernel
theorem dX9_newName_9 : decode cX9_newName 9 = .ok (.aload_n 1, 1) := by decide +kernel
theorem dX9_newName_10 : decode cX9_newName 10 = .ok (.iconst 1, 1) := by decide +kernel
theorem dX9_newName_11 : decode cX9_newName 11 = .ok (.invokevirtual 67, 3) := by decide +kernel
theorem dX9_newName_14 : decode cX9_newName 14 = .ok (.ireturn, 1) := by decide +kernel
theorem dX9_newName_15 : decode cX9_newName 15 = .ok (.aload_n 0, 1) := by decide +kernel
theorem dX9_newName_16 : decode cX9_newName 16 = .ok (.getfield 12, 3) := by decide +kernel
theorem dX9_newName_19 : decode cX9_newName 19 = .ok (.aload_n 1, 1) := by decide +kernel
theorem dX9_newName_20 : decode cX9_newName 20 = .ok (.getfield 71, 3) := by decide +kernel
theorem dX9_newName_23 : decode cX9_newName 23 = .ok (.invokevirtual 75, 3) := by decide +kernel
theorem dX9_newName_26 : decode cX9_newName 26 = .ok (.iconst (-1), 1) := by decide +kernel
theorem dX9_newName_27 : decode cX9_newName 27 = .ok (.if_icmp .ne 18, 3) := by decide +kernel
theorem dX9_newName_30 : decode cX9_newName 30 = .ok (.aload_n 0, 1) := by decide +kernel
theorem dX9_newName_31 : decode cX9_newName 31 = .ok (.getfield 12, 3) := by decide +kernel
theorem dX9_newName_34 : decode cX9_newName 34 = .ok (.aload_n 1, 1) := by decide +kernel
theorem dX9_newName_35 : decode cX9_newName 35 = .ok (.getfield 71, 3) := by decide +kernel
theorem dX9_newName_38 : decode cX9_newName 38 = .ok (.invokevirtual 79, 3) := by decide +kernel
theorem dX9_newName_41 : decode cX9_newName 41 = .ok (.iconst (-1), 1) := by decide +kernel
theorem dX9_newName_42 : decode cX9_newName 42 = .ok (.if_icmp .eq 9, 3) := by decide +kernel
theorem dX9_newName_45 : decode cX9_newName 45 = .ok (.aload_n 1, 1) := by decide +kernel
theorem dX9_newName_46 : decode cX9_newName 46 = .ok (.iconst 3, 1) := by decide +kernel
theorem dX9_newName_47 : decode cX9_newName 47 = .ok (.invokevirtual 67, 3) := by decide +kernel
theorem dX9_newName_50 : decode cX9_newName 50 = .ok (.ireturn, 1) := by decide +kernel
theorem dX9_newName_51 : decode cX9_newName 51 = .ok (.aload_n 1, 1) := by decide +kernel
theorem dX9_newName_52 : decode cX9_newName 52 = .ok (.invokevirtual 82, 3) := by decide +kernel
theorem dX9_newName_55 : decode cX9_newName 55 = .ok (.iconst 1, 1) := by decide +kernel
theorem dX9_newName_56 : decode cX9_newName 56 = .ok (.ireturn, 1) := by decide +kernel
theorem dX9_readDish_0 : decode cX9_readDish 0 = .ok (.aload_n 0, 1) := by decide +kernel
theorem dX9_readDish_1 : decode cX9_readDish 1 = .ok (.getfield 12, 3) := by decide +kernel
theorem dX9_readDish_4 : decode cX9_readDish 4 = .ok (.getfield 113, 3) := by decide +kernel
theorem dX9_readDish_7 : decode cX9_readDish 7 = .ok (.bipush 6, 2) := by decide +kernel
theorem dX9_readDish_9 : decode cX9_readDish 9 = .ok (.if_icmp .lt 9, 3) := by decide +kernel
theorem dX9_readDish_12 : decode cX9_readDish 12 = .ok (.aload_n 1, 1) := by decide +kernel
theorem dX9_readDish_13 : decode cX9_readDish 13 = .ok (.iconst 4, 1) := by decide +kernel
theorem dX9_readDish_14 : decode cX9_readDish 14 = .ok (.invokevirtual 67, 3) := by decide +kernel
theorem dX9_readDish_17 : decode cX9_readDish 17 = .ok (.ireturn, 1) := by decide +kernel
theorem dX9_readDish_18 : decode cX9_readDish 18 = .ok (.aload_n 1, 1) := by decide +kernel
theorem dX9_readDish_19 : decode cX9_readDish 19 = .ok (.invokevirtual 82, 3) := by decide +kernel
theorem dX9_readDish_22 : decode cX9_readDish 22 = .ok (.aload_n 1, 1) := by decide +kernel
theorem dX9_readDish_23 : decode cX9_readDish 23 = .ok (.getfield 71, 3) := by decide +kernel
theorem dX9_readDish_26 : decode cX9_readDish 26 = .ok (.lstore_n 2, 1) := by decide +kernel
theorem dX9_readDish_27 : decode cX9_readDish 27 = .ok (.aload_n 0, 1) := by decide +kernel
theorem dX9_readDish_28 : decode cX9_readDish 28 = .ok (.aload_n 1, 1) := by decide +kernel
theorem dX9_readDish_29 : decode cX9_readDish 29 = .ok (.invokevirtual 88, 3) := by decide +kernel
theorem dX9_readDish_32 : decode cX9_readDish 32 = .ok (.ifCond .ne 5, 3) := by decide +kernel
theorem dX9_readDish_35 : decode cX9_readDish 35 = .ok (.iconst 0, 1) := by decide +kernel
theorem dX9_readDish_36 : decode cX9_readDish 36 = .ok (.ireturn, 1) := by decide +kernel
theorem dX9_readDish_37 : decode cX9_readDish 37 = .ok (.aload_n 1, 1) := by decide +kernel
theorem dX9_readDish_38 : decode cX9_readDish 38 = .ok (.iconst 0, 1) := by decide +kernel
theorem dX9_readDish_39 : decode cX9_readDish 39 = .ok (.bipush 99, 2) := by decide +kernel
theorem dX9_readDish_41 : decode cX9_readDish 41 = .ok (.invokevirtual 91, 3) := by decide +kernel
theorem dX9_readDish_44 : decode cX9_readDish 44 = .ok (.istore 4, 2) := by decide +kernel
theorem dX9_readDish_46 : decode cX9_readDish 46 = .ok (.iload 4, 2) := by decide +kernel
theorem dX9_readDish_48 : decode cX9_readDish 48 = .ok (.iconst (-1), 1) := by decide +kernel
theorem dX9_readDish_49 : decode cX9_readDish 49 = .ok (.if_icmp .ne 5, 3) := by decide +kernel
theorem dX9_readDish_52 : decode cX9_readDish 52 = .ok (.iconst 0, 1) := by decide +kernel
theorem dX9_readDish_53 : decode cX9_readDish 53 = .ok (.ireturn, 1) := by decide +kernel
theorem dX9_readDish_54 : decode cX9_readDish 54 = .ok (.iconst 0, 1) := by decide +kernel
theorem dX9_readDish_55 : decode cX9_readDish 55 = .ok (.istore 5, 2) := by decide +kernel
theorem dX9_readDish_57 : decode cX9_readDish 57 = .ok (.aload_n 1, 1) := by decide +kernel
theorem dX9_readDish_58 : decode cX9_readDish 58 = .ok (.getfield 44, 3) := by decide +kernel
theorem dX9_readDish_61 : decode cX9_readDish 61 = .ok (.bipush 6, 2) := by decide +kernel
theorem dX9_readDish_63 : decode cX9_readDish 63 = .ok (.if_icmp .ne 24, 3) := by decide +kernel
theorem dX9_readDish_66 : decode cX9_readDish 66 = .ok (.aload_n 1, 1) := by decide +kernel
theorem dX9_readDish_67 : decode cX9_readDish 67 = .ok (.invokevirtual 82, 3) := by decide +kernel
theorem dX9_readDish_70 : decode cX9_readDish 70 = .ok (.aload_n 1, 1) := by decide +kernel
theorem dX9_readDish_71 : decode cX9_readDish 71 = .ok (.iconst 1, 1) := by decide +kernel
theorem dX9_readDish_72 : decode cX9_readDish 72 = .ok (.bipush 9, 2) := by decide +kernel
theorem dX9_readDish_74 : decode cX9_readDish 74 = .ok (.invokevirtual 91, 3) := by decide +kernel
theorem dX9_readDish_77 : decode cX9_readDish 77 = .ok (.istore 5, 2) := by decide +kernel
theorem dX9_readDish_79 : decode cX9_readDish 79 = .ok (.iload 5, 2) := by decide +kernel
theorem dX9_readDish_81 : decode cX9_readDish 81 = .ok (.iconst (-1), 1) := by decide +kernel
theorem dX9_readDish_82 : decode cX9_readDish 82 = .ok (.if_icmp .ne 5, 3) := by decide +kernel
theorem dX9_readDish_85 : decode cX9_readDish 85 = .ok (.iconst 0, 1) := by decide +kernel
theorem dX9_readDish_86 : decode cX9_readDish 86 = .ok (.ireturn, 1) := by decide +kernel
theorem dX9_readDish_87 : decode cX9_readDish 87 = .ok (.aload_n 0, 1) := by decide +kernel
theorem dX9_readDish_88 : decode cX9_readDish 88 = .ok (.getfield 12, 3) := by decide +kernel
theorem dX9_readDish_91 : decode cX9_readDish 91 = .ok (.getfield 116, 3) := by decide +kernel
theorem dX9_readDish_94 : decode cX9_readDish 94 = .ok (.aload_n 0, 1) := by decide +kernel
theorem dX9_readDish_95 : decode cX9_readDish 95 = .ok (.getfield 12, 3) := by decide +kernel
theorem dX9_readDish_98 : decode cX9_readDish 98 = .ok (.getfield 113, 3) := by decide +kernel
theorem dX9_readDish_101 : decode cX9_readDish 101 = .ok (.lload_n 2, 1) := by decide +kernel
theorem dX9_readDish_102 : decode cX9_readDish 102 = .ok (.lastore, 1) := by decide +kernel
theorem dX9_readDish_103 : decode cX9_readDish 103 = .ok (.aload_n 0, 1) := by decide +kernel
theorem dX9_readDish_104 : decode cX9_readDish 104 = .ok (.getfield 12, 3) := by decide +kernel
theorem dX9_readDish_107 : decode cX9_readDish 107 = .ok (.getfield 119, 3) := by decide +kernel
theorem dX9_readDish_110 : decode cX9_readDish 110 = .ok (.aload_n 0, 1) := by decide +kernel
theorem dX9_readDish_111 : decode cX9_readDish 111 = .ok (.getfield 12, 3) := by decide +kernel
theorem dX9_readDish_114 : decode cX9_readDish 114 = .ok (.getfield 113, 3) := by decide +kernel
theorem dX9_readDish_117 : decode cX9_readDish 117 = .ok (.iload 5, 2) := by decide +kernel
theorem dX9_readDish_119 : decode cX9_readDish 119 = .ok (.iastore, 1) := by decide +kernel
theorem dX9_readDish_120 : decode cX9_readDish 120 = .ok (.aload_n 0, 1) := by decide +kernel
theorem dX9_readDish_121 : decode cX9_readDish 121 = .ok (.getfield 23, 3) := by decide +kernel
theorem dX9_readDish_124 : decode cX9_readDish 124 = .ok (.getfield 122, 3) := by decide +kernel
theorem dX9_readDish_127 : decode cX9_readDish 127 = .ok (.aload_n 0, 1) := by decide +kernel
theorem dX9_readDish_128 : decode cX9_readDish 128 = .ok (.getfield 12, 3) := by decide +kernel
theorem dX9_readDish_131 : decode cX9_readDish 131 = .ok (.getfield 113, 3) := by decide +kernel
theorem dX9_readDish_134 : decode cX9_readDish 134 = .ok (.iload 4, 2) := by decide +kernel
theorem dX9_readDish_136 : decode cX9_readDish 136 = .ok (.iastore, 1) := by decide +kernel
theorem dX9_readDish_137 : decode cX9_readDish 137 = .ok (.aload_n 0, 1) := by decide +kernel
theorem dX9_readDish_138 : decode cX9_readDish 138 = .ok (.getfield 12, 3) := by decide +kernel
theorem dX9_readDish_141 : decode cX9_readDish 141 = .ok (.dup, 1) := by decide +kernel
theorem dX9_readDish_142 : decode cX9_readDish 142 = .ok (.getfield 113, 3) := by decide +kernel
theorem dX9_readDish_145 : decode cX9_readDish 145 = .ok (.iconst 1, 1) := by decide +kernel
theorem dX9_readDish_146 : decode cX9_readDish 146 = .ok (.iadd, 1) := by decide +kernel
theorem dX9_readDish_147 : decode cX9_readDish 147 = .ok (.putfield 113, 3) := by decide +kernel
theorem dX9_readDish_150 : decode cX9_readDish 150 = .ok (.aload_n 1, 1) := by decide +kernel
theorem dX9_readDish_151 : decode cX9_readDish 151 = .ok (.bipush 59, 2) := by decide +kernel
theorem dX9_readDish_153 : decode cX9_readDish 153 = .ok (.invokevirtual 110, 3) := by decide +kernel
theorem dX9_readDish_156 : decode cX9_readDish 156 = .ok (.ireturn, 1) := by decide +kernel
theorem dX9_readDogs_0 : decode cX9_readDogs 0 = .ok (.aload_n 0, 1) := by decide +kernel
theorem dX9_readDogs_1 : decode cX9_readDogs 1 = .ok (.getfield 31, 3) := by decide +kernel
theorem dX9_readDogs_4 : decode cX9_readDogs 4 = .ok (.ifCond .eq 9, 3) := by decide +kernel
theorem dX9_readDogs_7 : decode cX9_readDogs 7 = .ok (.aload_n 1, 1) := by decide +kernel
theorem dX9_readDogs_8 : decode cX9_readDogs 8 = .ok (.iconst 3, 1) := by decide +kernel
theorem dX9_readDogs_9 : decode cX9_readDogs 9 = .ok (.invokevirtual 67, 3) := by decide +kernel
theorem dX9_readDogs_12 : decode cX9_readDogs 12 = .ok (.ireturn, 1) := by decide +kernel
theorem dX9_readDogs_13 : decode cX9_readDogs 13 = .ok (.aload_n 0, 1) := by decide +kernel
theorem dX9_readDogs_14 : decode cX9_readDogs 14 = .ok (.iconst 1, 1) := by decide +kernel
theorem dX9_readDogs_15 : decode cX9_readDogs 15 = .ok (.putfield 31, 3) := by decide +kernel
theorem dX9_readDogs_18 : decode cX9_readDogs 18 = .ok (.aload_n 1, 1) := by decide +kernel
theorem dX9_readDogs_19 : decode cX9_readDogs 19 = .ok (.invokevirtual 82, 3) := by decide +kernel
theorem dX9_readDogs_22 : decode cX9_readDogs 22 = .ok (.aload_n 0, 1) := by decide +kernel
theorem dX9_readDogs_23 : decode cX9_readDogs 23 = .ok (.getfield 12, 3) := by decide +kernel
theorem dX9_readDogs_26 : decode cX9_readDogs 26 = .ok (.aload_n 1, 1) := by decide +kernel
theorem dX9_readDogs_27 : decode cX9_readDogs 27 = .ok (.iconst 0, 1) := by decide +kernel
theorem dX9_readDogs_28 : decode cX9_readDogs 28 = .ok (.bipush 9, 2) := by decide +kernel
theorem dX9_readDogs_30 : decode cX9_readDogs 30 = .ok (.invokevirtual 91, 3) := by decide +kernel
theorem dX9_readDogs_33 : decode cX9_readDogs 33 = .ok (.putfield 135, 3) := by decide +kernel
theorem dX9_readDogs_36 : decode cX9_readDogs 36 = .ok (.aload_n 0, 1) := by decide +kernel
theorem dX9_readDogs_37 : decode cX9_readDogs 37 = .ok (.getfield 12, 3) := by decide +kernel
theorem dX9_readDogs_40 : decode cX9_readDogs 40 = .ok (.getfield 135, 3) := by decide +kernel
theorem dX9_readDogs_43 : decode cX9_readDogs 43 = .ok (.iconst (-1), 1) := by decide +kernel
theorem dX9_readDogs_44 : decode cX9_readDogs 44 = .ok (.if_icmp .eq 16, 3) := by decide +kernel
theorem dX9_readDogs_47 : decode cX9_readDogs 47 = .ok (.aload_n 1, 1) := by decide +kernel
theorem dX9_readDogs_48 : decode cX9_readDogs 48 = .ok (.bipush 59, 2) := by decide +kernel
theorem dX9_readDogs_50 : decode cX9_readDogs 50 = .ok (.invokevirtual 110, 3) := by decide +kernel
theorem dX9_readDogs_53 : decode cX9_readDogs 53 = .ok (.ifCond .eq 7, 3) := by decide +kernel
theorem dX9_readDogs_56 : decode cX9_readDogs 56 = .ok (.iconst 1, 1) := by decide +kernel
theorem dX9_readDogs_57 : decode cX9_readDogs 57 = .ok (.goto 4, 3) := by decide +kernel
theorem dX9_readDogs_60 : decode cX9_readDogs 60 = .ok (.iconst 0, 1) := by decide +kernel
theorem dX9_readDogs_61 : decode cX9_readDogs 61 = .ok (.ireturn, 1) := by decide +kernel
theorem dX9_readLaw_0 : decode cX9_readLaw 0 = .ok (.aload_n 0, 1) := by decide +kernel
theorem dX9_readLaw_1 : decode cX9_readLaw 1 = .ok (.getfield 27, 3) := by decide +kernel
theorem dX9_readLaw_4 : decode cX9_readLaw 4 = .ok (.ifCond .eq 9, 3) := by decide +kernel
theorem dX9_readLaw_7 : decode cX9_readLaw 7 = .ok (.aload_n 1, 1) := by decide +kernel
theorem dX9_readLaw_8 : decode cX9_readLaw 8 = .ok (.iconst 3, 1) := by decide +kernel
theorem dX9_readLaw_9 : decode cX9_readLaw 9 = .ok (.invokevirtual 67, 3) := by decide +kernel
theorem dX9_readLaw_12 : decode cX9_readLaw 12 = .ok (.ireturn, 1) := by decide +kernel
theorem dX9_readLaw_13 : decode cX9_readLaw 13 = .ok (.aload_n 0, 1) := by decide +kernel
theorem dX9_readLaw_14 : decode cX9_readLaw 14 = .ok (.iconst 1, 1) := by decide +kernel
theorem dX9_readLaw_15 : decode cX9_readLaw 15 = .ok (.putfield 27, 3) := by decide +kernel
theorem dX9_readLaw_18 : decode cX9_readLaw 18 = .ok (.aload_n 1, 1) := by decide +kernel
theorem dX9_readLaw_19 : decode cX9_readLaw 19 = .ok (.invokevirtual 82, 3) := by decide +kernel
theorem dX9_readLaw_22 : decode cX9_readLaw 22 = .ok (.aload_n 1, 1) := by decide +kernel
theorem dX9_readLaw_23 : decode cX9_readLaw 23 = .ok (.getfield 44, 3) := by decide +kernel
theorem dX9_readLaw_26 : decode cX9_readLaw 26 = .ok (.bipush 7, 2) := by decide +kernel
theorem dX9_readLaw_28 : decode cX9_readLaw 28 = .ok (.if_icmp .ne 14, 3) := by decide +kernel
theorem dX9_readLaw_31 : decode cX9_readLaw 31 = .ok (.aload_n 0, 1) := by decide +kernel
theorem dX9_readLaw_32 : decode cX9_readLaw 32 = .ok (.getfield 12, 3) := by decide +kernel
theorem dX9_readLaw_35 : decode cX9_readLaw 35 = .ok (.iconst 0, 1) := by decide +kernel
theorem dX9_readLaw_36 : decode cX9_readLaw 36 = .ok (.putfield 132, 3) := by decide +kernel
theorem dX9_readLaw_39 : decode cX9_readLaw 39 = .ok (.goto 49, 3) := by decide +kernel
theorem dX9_readLaw_42 : decode cX9_readLaw 42 = .ok (.aload_n 1, 1) := by decide +kernel
theorem dX9_readLaw_43 : decode cX9_readLaw 43 = .ok (.getfield 44, 3) := by decide +kernel
theorem dX9_readLaw_46 : decode cX9_readLaw 46 = .ok (.bipush 8, 2) := by decide +kernel
theorem dX9_readLaw_48 : decode cX9_readLaw 48 = .ok (.if_icmp .ne 14, 3) := by decide +kernel
theorem dX9_readLaw_51 : decode cX9_readLaw 51 = .ok (.aload_n 0, 1) := by decide +kernel
theorem dX9_readLaw_52 : decode cX9_readLaw 52 = .ok (.getfield 12, 3) := by decide +kernel
theorem dX9_readLaw_55 : decode cX9_readLaw 55 = .ok (.iconst 1, 1) := by decide +kernel
theorem dX9_readLaw_56 : decode cX9_readLaw 56 = .ok (.putfield 132, 3) := by decide +kernel
theorem dX9_readLaw_59 : decode cX9_readLaw 59 = .ok (.goto 29, 3) := by decide +kernel
theorem dX9_readLaw_62 : decode cX9_readLaw 62 = .ok (.aload_n 1, 1) := by decide +kernel
theorem dX9_readLaw_63 : decode cX9_readLaw 63 = .ok (.getfield 44, 3) := by decide +kernel
theorem dX9_readLaw_66 : decode cX9_readLaw 66 = .ok (.bipush 9, 2) := by decide +kernel
theorem dX9_readLaw_68 : decode cX9_readLaw 68 = .ok (.if_icmp .ne 14, 3) := by decide +kernel
theorem dX9_readLaw_71 : decode cX9_readLaw 71 = .ok (.aload_n 0, 1) := by decide +kernel
theorem dX9_readLaw_72 : decode cX9_readLaw 72 = .ok (.getfield 12, 3) := by decide +kernel
theorem dX9_readLaw_75 : decode cX9_readLaw 75 = .ok (.iconst 2, 1) := by decide +kernel
theorem dX9_readLaw_76 : decode cX9_readLaw 76 = .ok (.putfield 132, 3) := by decide +kernel
theorem dX9_readLaw_79 : decode cX9_readLaw 79 = .ok (.goto 9, 3) := by decide +kernel
theorem dX9_readLaw_82 : decode cX9_readLaw 82 = .ok (.aload_n 1, 1) := by decide +kernel
theorem dX9_readLaw_83 : decode cX9_readLaw 83 = .ok (.iconst 1, 1) := by decide +kernel
theorem dX9_readLaw_84 : decode cX9_readLaw 84 = .ok (.invokevirtual 67, 3) := by decide +kernel
theorem dX9_readLaw_87 : decode cX9_readLaw 87 = .ok (.ireturn, 1) := by decide +kernel
theorem dX9_readLaw_88 : decode cX9_readLaw 88 = .ok (.aload_n 1, 1) := by decide +kernel
theorem dX9_readLaw_89 : decode cX9_readLaw 89 = .ok (.invokevirtual 82, 3) := by decide +kernel
theorem dX9_readLaw_92 : decode cX9_readLaw 92 = .ok (.aload_n 1, 1) := by decide +kernel
theorem dX9_readLaw_93 : decode cX9_readLaw 93 = .ok (.bipush 59, 2) := by decide +kernel
theorem dX9_readLaw_95 : decode cX9_readLaw 95 = .ok (.invokevirtual 110, 3) := by decide +kernel
theorem dX9_readLaw_98 : decode cX9_readLaw 98 = .ok (.ireturn, 1) := by decide +kernel
theorem rc_2 : Rg 2 2 2 := ⟨by decide, by decide⟩
theorem rc_3 : Rg 3 3 3 := ⟨by decide, by decide⟩
theorem rc_4 : Rg 4 4 4 := ⟨by decide, by decide⟩
theorem rc_6 : Rg 6 6 6 := ⟨by decide, by decide⟩
theorem rc_7 : Rg 7 7 7 := ⟨by decide, by decide⟩
theorem rc_8 : Rg 8 8 8 := ⟨by decide, by decide⟩
theorem rc_9 : Rg 9 9 9 := ⟨by decide, by decide⟩
theorem rc_10 : Rg 10 10 10 := ⟨by decide, by decide⟩
theorem rc_32 : Rg 32 32 32 := ⟨by decide, by decide⟩
theorem rc_42 : Rg 42 42 42 := ⟨by decide, by decide⟩
theorem rc_99 : Rg 99 99 99 := ⟨by decide, by decide⟩
theorem rc_101 : Rg 101 101 101 := ⟨by decide, by decide⟩
theorem rc_102 : Rg 102 102 102 := ⟨by decide, by decide⟩
theorem rc_103 : Rg 103 103 103 := ⟨by decide, by decide⟩
set_option maxRecDepth 100000 in
set_option maxHeartbeats 8000000 in
theorem c_X10_readToken {l : Launch} {D : va_G} {cy : Nat → ClassId} {L : List Nat} {κ ln : Nat → Nat} {R : Nat → Nat → Option Nat} {I : Nat → Nat → Int32} {J : Nat → Nat → Int64} {ow : Nat → Nat × Nat} (W9 : ∀ a ∈ L, Shp L κ ln R ow a) {x : Nat} (hLx : x ∈ L) (hkx : κ x = 10) (a0 : Int32) (ra0 : Rg 0 899 a0) (hU : Iv L κ R ow I) : CtI l yX10_readToken cX10_readToken 8 (some .int) { frames := 1, cells := 0, slots := 0, locals := 24 } D cy L κ ln R I J [.ref x, .int a0] (fun r I2 J2 => Iv L κ R ow I2 ∧ Fq L κ ow [1006, 70200, 70300] I I2 ∧ Fq L κ ow [70400] J J2 ∧ Rg 0 940 r) := by
  refine CtI.of (by decide +kernel) (Nat.le_of_ble_eq_true rfl) ?_
  intro p e s m below meth c B K
  have C := B.1
  have hF : Fq L κ ow [1006, 70200, 70300] I I := fq_rf
  have hG : Fq L κ ow [70400] J J := fq_rf
  obtain ⟨b_1, hb_1, hb_1L, hb_1k, hb_1n, hb_1o⟩ := shp_a (W9 x hLx) hkx 0 13 940 rfl (by decide)
  refine g_lo (is := [0, 1]) (lo2 := [(0, .ref x), (1, .int a0)]) rfl ?_
  have j_205 : ∀ (I_2 : Nat → Nat → Int32) (J_3 : Nat → Nat → Int64) (hU_4 : Iv L κ R ow I_2) (hF_5 : Fq L κ ow [1006, 70200, 70300] I I_2) (hG_6 : Fq L κ ow [70400] J J_3) (v_7 : Int32) (rv_7 : Rg 0 899 v_7) (v_8 : Int32) (v_9 : Int32) (y_10 : Int64) (v_11 : Int32) (v_12 : Int32) (rv_12 : Rg 0 940 v_12) (v_13 : Int32) (rv_13 : Rg 0 940 v_13) (q_14 : I_2 x 5 = v_13), WG p l e { frames := 1, cells := 0, slots := 0, locals := 24 } s m ([.ref x, .int a0] : List Value).toArray below meth c 8 0 0 (MQ below (Qi_ D cy L κ ln R (fun r I2 J2 => Iv L κ R ow I2 ∧ Fq L κ ow [1006, 70200, 70300] I I2 ∧ Fq L κ ow [70400] J J2 ∧ Rg 0 940 r)) ([.ref x, .int a0] : List Value).toArray s 0 0 (Al_ L)) D cy (Al_ L) s.heap L κ ln R I_2 J_3 205 [(0, .ref x), (1, .int v_7), (2, .int v_8), (3, .int v_9), (4, .long y_10), (6, .int v_11), (7, .int v_12)] [] := by
    intro I_2 J_3 hU_4 hF_5 hG_6 v_7 rv_7 v_8 v_9 y_10 v_11 v_12 rv_12 v_13 rv_13 q_14
    refine g_aload_n C 0 dX10_readToken_205 rfl rfl ?_
    refine g_bipush C (v := 103) dX10_readToken_206 (by decide) ?_
    refine g_iload_n C 1 dX10_readToken_208 rfl rfl ?_
    refine g_lconst C (v := 0) dX10_readToken_209 (by decide) ?_
    refine g_callVV C K (c_X10_addToken W9 hLx hkx 103 v_7 0 (rg_w rc_103 (by decide) (by decide)) (rg_w rv_7 (by decide) (by decide)) hU_4) hLx hkx (by decide) rfl v_10_80 rfl ⟨rfl, rfl⟩ ⟨Nat.le_of_ble_eq_true rfl, Nat.le_of_ble_eq_true rfl⟩ (Nat.le_of_ble_eq_true rfl) ⟨Nat.le_of_ble_eq_true rfl, Nat.le_of_ble_eq_true rfl⟩ dX10_readToken_210 rfl (st := []) (fun I_16 J_17 h_18 => ?_)
    obtain ⟨hUI_16, hFI_16, hGJ_17⟩ := h_18
    have hF_19 := fq_tr hF_5 hFI_16 (by decide)
    have hG_20 := fq_tr hG_6 hGJ_17 (by decide)
    refine g_iload C 6 dX10_readToken_213 rfl ?_
    exact g_zret (ty := .int) (r := v_12) B K rfl (rfl) ⟨hUI_16, hF_19, hG_20, rv_12⟩ dX10_readToken_215
  have j_183 : ∀ (I_21 : Nat → Nat → Int32) (J_22 : Nat → Nat → Int64) (hU_23 : Iv L κ R ow I_21) (hF_24 : Fq L κ ow [1006, 70200, 70300] I I_21) (hG_25 : Fq L κ ow [70400] J J_22) (v_26 : Int32) (rv_26 : Rg 0 899 v_26) (v_27 : Int32) (v_28 : Int32) (y_29 : Int64) (v_30 : Int32) (v_31 : Int32) (rv_31 : Rg 0 940 v_31) (v_32 : Int32) (rv_32 : Rg 0 940 v_32) (q_33 : I_21 x 5 = v_32), WG p l e { frames := 1, cells := 0, slots := 0, locals := 24 } s m ([.ref x, .int a0] : List Value).toArray below meth c 8 0 0 (MQ below (Qi_ D cy L κ ln R (fun r I2 J2 => Iv L κ R ow I2 ∧ Fq L κ ow [1006, 70200, 70300] I I2 ∧ Fq L κ ow [70400] J J2 ∧ Rg 0 940 r)) ([.ref x, .int a0] : List Value).toArray s 0 0 (Al_ L)) D cy (Al_ L) s.heap L κ ln R I_21 J_22 183 [(0, .ref x), (1, .int v_26), (2, .int v_27), (3, .int v_28), (4, .long y_29), (6, .int v_30), (7, .int v_31)] [] := by
    intro I_21 J_22 hU_23 hF_24 hG_25 v_26 rv_26 v_27 v_28 y_29 v_30 v_31 rv_31 v_32 rv_32 q_33
    refine g_iload_n C 2 dX10_readToken_183 rfl rfl ?_
    refine g_if_ne C (tgt := 205) dX10_readToken_184 (by decide) (fun h_34 => ?_) (fun h_34 => ?_)
    · skip
      have n_35 : ¬ v_27 = 0 := h_34
      refine g_lo (is := [0, 1, 2, 3, 4, 5, 6]) (lo2 := [(0, .ref x), (1, .int v_26), (2, .int v_27), (3, .int v_28), (4, .long y_29), (6, .int v_30), (7, .int v_31)]) rfl ?_
      exact j_205 I_21 J_22 hU_23 hF_24 hG_25 v_26 (rv_26) v_27 v_28 y_29 v_30 v_31 (rv_31) v_32 (rv_32) q_33
    · skip
      have r_36 := (⟨(eq_rg (h_34) rc_0).1, (eq_rg (h_34) rc_0).2⟩ : Rg 0 0 v_27)
      refine g_iload_n C 3 dX10_readToken_187 rfl rfl ?_
      refine g_iconst C (v := 3) dX10_readToken_188 (by decide) ?_
      refine g_icmp_gt C (tgt := 205) dX10_readToken_189 (by decide) (fun h_37 => ?_) (fun h_37 => ?_)
      · skip
        have r_38 := lt_r (lo := 4) (h_37) rc_3 (rg_all v_28) (by decide)
        refine g_lo (is := [0, 1, 2, 3, 4, 5, 6]) (lo2 := [(0, .ref x), (1, .int v_26), (2, .int v_27), (3, .int v_28), (4, .long y_29), (6, .int v_30), (7, .int v_31)]) rfl ?_
        exact j_205 I_21 J_22 hU_23 hF_24 hG_25 v_26 (rv_26) v_27 v_28 y_29 v_30 v_31 (rv_31) v_32 (rv_32) q_33
      · skip
        have r_39 := le_l (nlt h_37) (rg_all v_28) rc_3
        refine g_aload_n C 0 dX10_readToken_192 rfl rfl ?_
        refine g_bipush C (v := 101) dX10_readToken_193 (by decide) ?_
        refine g_iload_n C 1 dX10_readToken_195 rfl rfl ?_
        refine g_iload C 5 dX10_readToken_196 rfl ?_
        obtain ⟨y_40, hy_40⟩ : ∃ z, Int32.toInt64 v_30 = z := ⟨_, rfl⟩
        refine g_i2l C (v := y_40) dX10_readToken_198 hy_40 ?_
        refine g_callVV C K (c_X10_addToken W9 hLx hkx 101 v_26 y_40 (rg_w rc_101 (by decide) (by decide)) (rg_w rv_26 (by decide) (by decide)) hU_23) hLx hkx (by decide) rfl v_10_80 rfl ⟨rfl, rfl⟩ ⟨Nat.le_of_ble_eq_true rfl, Nat.le_of_ble_eq_true rfl⟩ (Nat.le_of_ble_eq_true rfl) ⟨Nat.le_of_ble_eq_true rfl, Nat.le_of_ble_eq_true rfl⟩ dX10_readToken_199 rfl (st := []) (fun I_42 J_43 h_44 => ?_)
        obtain ⟨hUI_42, hFI_42, hGJ_43⟩ := h_44
        have hF_45 := fq_tr hF_24 hFI_42 (by decide)
        have hG_46 := fq_tr hG_25 hGJ_43 (by decide)
        refine g_goto C (tgt := 213) dX10_readToken_202 (by decide) ?_
        refine g_iload C 6 dX10_readToken_213 rfl ?_
        exact g_zret (ty := .int) (r := v_31) B K rfl (rfl) ⟨hUI_42, hF_45, hG_46, rv_31⟩ dX10_readToken_215
  have j_118 : ∀ (I_47 : Nat → Nat → Int32) (J_48 : Nat → Nat → Int64) (hU_49 : Iv L κ R ow I_47) (hF_50 : Fq L κ ow [1006, 70200, 70300] I I_47) (hG_51 : Fq L κ ow [70400] J J_48) (v_52 : Int32) (rv_52 : Rg 0 899 v_52) (v_53 : Int32) (v_54 : Int32) (y_55 : Int64) (v_56 : Int32) (v_57 : Int32) (rv_57 : Rg 0 940 v_57) (v_58 : Int32) (rv_58 : Rg 0 940 v_58) (q_59 : I_47 x 5 = v_58), WG p l e { frames := 1, cells := 0, slots := 0, locals := 24 } s m ([.ref x, .int a0] : List Value).toArray below meth c 8 0 0 (MQ below (Qi_ D cy L κ ln R (fun r I2 J2 => Iv L κ R ow I2 ∧ Fq L κ ow [1006, 70200, 70300] I I2 ∧ Fq L κ ow [70400] J J2 ∧ Rg 0 940 r)) ([.ref x, .int a0] : List Value).toArray s 0 0 (Al_ L)) D cy (Al_ L) s.heap L κ ln R I_47 J_48 118 [(0, .ref x), (1, .int v_52), (2, .int v_53), (3, .int v_54), (4, .long y_55), (6, .int v_56), (7, .int v_57)] [] := by
    intro I_47 J_48 hU_49 hF_50 hG_51 v_52 rv_52 v_53 v_54 y_55 v_56 v_57 rv_57 v_58 rv_58 q_59
    refine g_iload C 6 dX10_readToken_118 rfl ?_
    refine g_iload_n C 1 dX10_readToken_120 rfl rfl ?_
    refine g_icmp_ne C (tgt := 157) dX10_readToken_121 (by decide) (fun h_60 => ?_) (fun h_60 => ?_)
    · skip
      refine g_iload_n C 3 dX10_readToken_157 rfl rfl ?_
      refine g_if_ne C (tgt := 183) dX10_readToken_158 (by decide) (fun h_61 => ?_) (fun h_61 => ?_)
      · skip
        have n_62 : ¬ v_54 = 0 := h_61
        refine g_lo (is := [0, 1, 2, 3, 4, 5, 6]) (lo2 := [(0, .ref x), (1, .int v_52), (2, .int v_53), (3, .int v_54), (4, .long y_55), (6, .int v_56), (7, .int v_57)]) rfl ?_
        exact j_183 I_47 J_48 hU_49 hF_50 hG_51 v_52 (rv_52) v_53 v_54 y_55 v_56 v_57 (rv_57) v_58 (rv_58) q_59
      · skip
        have r_63 := (⟨(eq_rg (h_61) rc_0).1, (eq_rg (h_61) rc_0).2⟩ : Rg 0 0 v_54)
        refine g_iload_n C 2 dX10_readToken_161 rfl rfl ?_
        refine g_bipush C (v := 7) dX10_readToken_162 (by decide) ?_
        refine g_icmp_gt C (tgt := 183) dX10_readToken_164 (by decide) (fun h_64 => ?_) (fun h_64 => ?_)
        · skip
          have r_65 := lt_r (lo := 8) (h_64) rc_7 (rg_all v_53) (by decide)
          refine g_lo (is := [0, 1, 2, 3, 4, 5, 6]) (lo2 := [(0, .ref x), (1, .int v_52), (2, .int v_53), (3, .int v_54), (4, .long y_55), (6, .int v_56), (7, .int v_57)]) rfl ?_
          exact j_183 I_47 J_48 hU_49 hF_50 hG_51 v_52 (rv_52) v_53 v_54 y_55 v_56 v_57 (rv_57) v_58 (rv_58) q_59
        · skip
          have r_66 := le_l (nlt h_64) (rg_all v_53) rc_7
          refine g_aload_n C 0 dX10_readToken_167 rfl rfl ?_
          refine g_aload_n C 0 dX10_readToken_168 rfl rfl ?_
          refine g_lload C 4 dX10_readToken_169 rfl ?_
          refine g_callVI C K (c_X10_tokenOfWord W9 hLx hkx y_55  hU_49) hLx hkx (by decide) rfl v_10_97 rfl ⟨rfl, rfl⟩ ⟨Nat.le_of_ble_eq_true rfl, Nat.le_of_ble_eq_true rfl⟩ (Nat.le_of_ble_eq_true rfl) ⟨Nat.le_of_ble_eq_true rfl, Nat.le_of_ble_eq_true rfl⟩ dX10_readToken_171 rfl (st := [.ref x]) (fun x_67 I_68 J_69 h_70 => ?_)
          obtain ⟨rfl, rfl, rx_67⟩ := h_70
          refine g_iload_n C 1 dX10_readToken_174 rfl rfl ?_
          refine g_lload C 4 dX10_readToken_175 rfl ?_
          refine g_callVV C K (c_X10_addToken W9 hLx hkx x_67 v_52 y_55 (rg_w rx_67 (by decide) (by decide)) (rg_w rv_52 (by decide) (by decide)) hU_49) hLx hkx (by decide) rfl v_10_80 rfl ⟨rfl, rfl⟩ ⟨Nat.le_of_ble_eq_true rfl, Nat.le_of_ble_eq_true rfl⟩ (Nat.le_of_ble_eq_true rfl) ⟨Nat.le_of_ble_eq_true rfl, Nat.le_of_ble_eq_true rfl⟩ dX10_readToken_177 rfl (st := []) (fun I_72 J_73 h_74 => ?_)
          obtain ⟨hUI_72, hFI_72, hGJ_73⟩ := h_74
          have hF_75 := fq_tr hF_50 hFI_72 (by decide)
          have hG_76 := fq_tr hG_51 hGJ_73 (by decide)
          refine g_goto C (tgt := 213) dX10_readToken_180 (by decide) ?_
          refine g_iload C 6 dX10_readToken_213 rfl ?_
          exact g_zret (ty := .int) (r := v_57) B K rfl (rfl) ⟨hUI_72, hF_75, hG_76, rv_57⟩ dX10_readToken_215
    · skip
      have r_77 := (⟨(rv_57).1, (eq_rg (h_60) rv_52).2⟩ : Rg 0 899 v_57)
      refine g_aload_n C 0 dX10_readToken_124 rfl rfl ?_
      refine g_aload_n C 0 dX10_readToken_125 rfl rfl ?_
      refine g_getR C K hLx hkx f_10_9 hb_1 dX10_readToken_126 ?_
      refine g_iload_n C 1 dX10_readToken_129 rfl rfl ?_
      obtain ⟨x_78, hx_78, rx_78⟩ := ex_get (I := I_47) (a := b_1) (j := v_52.toNatClampNeg) (lo := (-128)) (hi := 127) hU_49.1 hb_1L (ro_a hb_1k (by decide) hb_1o hkx rfl) (rfl)
      refine h_bald C K hb_1L hb_1k (v := x_78) (v_52.toNatClampNeg) (rfl) (ix_0 rv_52 (by decide)) (ix_lt rv_52 (by decide) hb_1n (by decide)) hx_78 dX10_readToken_130 ?_
      refine g_callSI C K (c_X10_isSign W9 x_78 (rx_78) hU_49) s_10_94 rfl ⟨rfl, rfl⟩ ⟨Nat.le_of_ble_eq_true rfl, Nat.le_of_ble_eq_true rfl⟩ (Nat.le_of_ble_eq_true rfl) ⟨Nat.le_of_ble_eq_true rfl, Nat.le_of_ble_eq_true rfl⟩ dX10_readToken_131 rfl (st := [.ref x]) (fun x_79 I_80 J_81 h_82 => ?_)
      obtain ⟨rfl, rfl, rx_79⟩ := h_82
      refine g_if_eq C (tgt := 146) dX10_readToken_134 (by decide) (fun h_83 => ?_) (fun h_83 => ?_)
      · skip
        have r_84 := (⟨(rx_79).1, (eq_rg (h_83) rc_0).2⟩ : Rg 0 0 x_79)
        refine g_bipush C (v := 103) dX10_readToken_146 (by decide) ?_
        refine g_iload_n C 1 dX10_readToken_148 rfl rfl ?_
        refine g_lconst C (v := 0) dX10_readToken_149 (by decide) ?_
        refine g_callVV C K (c_X10_addToken W9 hLx hkx 103 v_52 0 (rg_w rc_103 (by decide) (by decide)) (rg_w rv_52 (by decide) (by decide)) hU_49) hLx hkx (by decide) rfl v_10_80 rfl ⟨rfl, rfl⟩ ⟨Nat.le_of_ble_eq_true rfl, Nat.le_of_ble_eq_true rfl⟩ (Nat.le_of_ble_eq_true rfl) ⟨Nat.le_of_ble_eq_true rfl, Nat.le_of_ble_eq_true rfl⟩ dX10_readToken_150 rfl (st := []) (fun I_86 J_87 h_88 => ?_)
        obtain ⟨hUI_86, hFI_86, hGJ_87⟩ := h_88
        have hF_89 := fq_tr hF_50 hFI_86 (by decide)
        have hG_90 := fq_tr hG_51 hGJ_87 (by decide)
        refine g_iload_n C 1 dX10_readToken_153 rfl rfl ?_
        refine g_iconst C (v := 1) dX10_readToken_154 (by decide) ?_
        obtain ⟨x_91, hx_91, rx_91, tx_91⟩ := ex_add 1 900 rv_52 rc_1 (by decide) (by decide) (by decide) (by decide)
        refine g_iadd C (v := x_91) dX10_readToken_155 hx_91 ?_
        exact g_zret (ty := .int) (r := x_91) B K rfl (rfl) ⟨hUI_86, hF_89, hG_90, rg_w rx_91 (by decide) (by decide)⟩ dX10_readToken_156
      · skip
        have n_92 : ¬ x_79 = 0 := h_83
        have r_93 := ne_lo (lo := 1) n_92 rx_79 rc_0 rfl (by decide)
        refine g_aload_n C 0 dX10_readToken_137 rfl rfl ?_
        refine g_getR C K hLx hkx f_10_9 hb_1 dX10_readToken_138 ?_
        refine g_iload_n C 1 dX10_readToken_141 rfl rfl ?_
        obtain ⟨x_94, hx_94, rx_94⟩ := ex_get (I := I_47) (a := b_1) (j := v_52.toNatClampNeg) (lo := (-128)) (hi := 127) hU_49.1 hb_1L (ro_a hb_1k (by decide) hb_1o hkx rfl) (rfl)
        refine h_bald C K hb_1L hb_1k (v := x_94) (v_52.toNatClampNeg) (rfl) (ix_0 rv_52 (by decide)) (ix_lt rv_52 (by decide) hb_1n (by decide)) hx_94 dX10_readToken_142 ?_
        refine g_goto C (tgt := 148) dX10_readToken_143 (by decide) ?_
        refine g_iload_n C 1 dX10_readToken_148 rfl rfl ?_
        refine g_lconst C (v := 0) dX10_readToken_149 (by decide) ?_
        refine g_callVV C K (c_X10_addToken W9 hLx hkx x_94 v_52 0 (rx_94) (rg_w rv_52 (by decide) (by decide)) hU_49) hLx hkx (by decide) rfl v_10_80 rfl ⟨rfl, rfl⟩ ⟨Nat.le_of_ble_eq_true rfl, Nat.le_of_ble_eq_true rfl⟩ (Nat.le_of_ble_eq_true rfl) ⟨Nat.le_of_ble_eq_true rfl, Nat.le_of_ble_eq_true rfl⟩ dX10_readToken_150 rfl (st := []) (fun I_96 J_97 h_98 => ?_)
        obtain ⟨hUI_96, hFI_96, hGJ_97⟩ := h_98
        have hF_99 := fq_tr hF_50 hFI_96 (by decide)
        have hG_100 := fq_tr hG_51 hGJ_97 (by decide)
        refine g_iload_n C 1 dX10_readToken_153 rfl rfl ?_
        refine g_iconst C (v := 1) dX10_readToken_154 (by decide) ?_
        obtain ⟨x_101, hx_101, rx_101, tx_101⟩ := ex_add 1 900 rv_52 rc_1 (by decide) (by decide) (by decide) (by decide)
        refine g_iadd C (v := x_101) dX10_readToken_155 hx_101 ?_
        exact g_zret (ty := .int) (r := x_101) B K rfl (rfl) ⟨hUI_96, hF_99, hG_100, rg_w rx_101 (by decide) (by decide)⟩ dX10_readToken_156
  have l_13 : ∀ (n_13 : Nat) (I_102 : Nat → Nat → Int32) (J_103 : Nat → Nat → Int64) (hU_104 : Iv L κ R ow I_102) (hF_105 : Fq L κ ow [1006, 70200, 70300] I I_102) (hG_106 : Fq L κ ow [70400] J J_103) (v_107 : Int32) (rv_107 : Rg 0 899 v_107) (v_108 : Int32) (v_109 : Int32) (y_110 : Int64) (v_111 : Int32) (v_112 : Int32) (rv_112 : Rg 0 940 v_112) (hm_113 : 940 < (v_112 : Int32).toInt + (n_13 : Int)), WG p l e { frames := 1, cells := 0, slots := 0, locals := 24 } s m ([.ref x, .int a0] : List Value).toArray below meth c 8 0 0 (MQ below (Qi_ D cy L κ ln R (fun r I2 J2 => Iv L κ R ow I2 ∧ Fq L κ ow [1006, 70200, 70300] I I2 ∧ Fq L κ ow [70400] J J2 ∧ Rg 0 940 r)) ([.ref x, .int a0] : List Value).toArray s 0 0 (Al_ L)) D cy (Al_ L) s.heap L κ ln R I_102 J_103 13 [(0, .ref x), (1, .int v_107), (2, .int v_108), (3, .int v_109), (4, .long y_110), (6, .int v_111), (7, .int v_112)] [] := by
    intro n_13
    induction n_13 with
    | zero =>
      intro I_102 J_103 hU_104 hF_105 hG_106 v_107 rv_107 v_108 v_109 y_110 v_111 v_112 rv_112 hm_113
      exact ms_0 rv_112 hm_113
    | succ n_13 ih_13 =>
      intro I_102 J_103 hU_104 hF_105 hG_106 v_107 rv_107 v_108 v_109 y_110 v_111 v_112 rv_112 hm_113
      have j_112 : ∀ (I_114 : Nat → Nat → Int32) (J_115 : Nat → Nat → Int64) (hU_116 : Iv L κ R ow I_114) (hF_117 : Fq L κ ow [1006, 70200, 70300] I I_114) (hG_118 : Fq L κ ow [70400] J J_115) (v_119 : Int32) (rv_119 : Rg 0 899 v_119) (v_120 : Int32) (v_121 : Int32) (y_122 : Int64) (v_123 : Int32) (v_124 : Int32) (rv_124 : Rg 0 939 v_124) (v_125 : Int32) (rv_125 : Rg 1 940 v_125) (q_126 : I_114 x 5 = v_125) (hm_127 : 940 < (v_124 : Int32).toInt + ((n_13 + 1 : Nat) : Int)), WG p l e { frames := 1, cells := 0, slots := 0, locals := 24 } s m ([.ref x, .int a0] : List Value).toArray below meth c 8 0 0 (MQ below (Qi_ D cy L κ ln R (fun r I2 J2 => Iv L κ R ow I2 ∧ Fq L κ ow [1006, 70200, 70300] I I2 ∧ Fq L κ ow [70400] J J2 ∧ Rg 0 940 r)) ([.ref x, .int a0] : List Value).toArray s 0 0 (Al_ L)) D cy (Al_ L) s.heap L κ ln R I_114 J_115 112 [(0, .ref x), (1, .int v_119), (2, .int v_120), (3, .int v_121), (4, .long y_122), (6, .int v_123), (7, .int v_124)] [] := by
        intro I_114 J_115 hU_116 hF_117 hG_118 v_119 rv_119 v_120 v_121 y_122 v_123 v_124 rv_124 v_125 rv_125 q_126 hm_127
        obtain ⟨x_128, hx_128, rx_128, tx_128⟩ := ex_add (y := 1) 1 940 rv_124 rc_1 (by decide) (by decide) (by decide) (by decide)
        refine g_iinc C dX10_readToken_112 (k := 6) (v := x_128) rfl hx_128 (by decide) (lo2 := [(7, .int x_128), (0, .ref x), (1, .int v_119), (2, .int v_120), (3, .int v_121), (4, .long y_122), (6, .int v_123)]) rfl ?_
        refine g_goto C (tgt := 13) dX10_readToken_115 (by decide) ?_
        refine g_lo (is := [1, 2, 3, 4, 5, 6, 0]) (lo2 := [(0, .ref x), (1, .int v_119), (2, .int v_120), (3, .int v_121), (4, .long y_122), (6, .int v_123), (7, .int x_128)]) rfl ?_
        exact ih_13 I_114 J_115 hU_116 hF_117 hG_118 v_119 (rv_119) v_120 v_121 y_122 v_123 x_128 (rg_w rx_128 (by decide) (by decide)) (ms_1 hm_127 (ti_k tx_128 rc_1) (by decide))
      have j_58 : ∀ (I_129 : Nat → Nat → Int32) (J_130 : Nat → Nat → Int64) (hU_131 : Iv L κ R ow I_129) (hF_132 : Fq L κ ow [1006, 70200, 70300] I I_129) (hG_133 : Fq L κ ow [70400] J J_130) (v_134 : Int32) (rv_134 : Rg 0 899 v_134) (v_135 : Int32) (v_136 : Int32) (y_137 : Int64) (v_138 : Int32) (v_139 : Int32) (rv_139 : Rg 0 939 v_139) (v_140 : Int32) (rv_140 : Rg 1 940 v_140) (q_141 : I_129 x 5 = v_140) (hm_142 : 940 < (v_139 : Int32).toInt + ((n_13 + 1 : Nat) : Int)), WG p l e { frames := 1, cells := 0, slots := 0, locals := 24 } s m ([.ref x, .int a0] : List Value).toArray below meth c 8 0 0 (MQ below (Qi_ D cy L κ ln R (fun r I2 J2 => Iv L κ R ow I2 ∧ Fq L κ ow [1006, 70200, 70300] I I2 ∧ Fq L κ ow [70400] J J2 ∧ Rg 0 940 r)) ([.ref x, .int a0] : List Value).toArray s 0 0 (Al_ L)) D cy (Al_ L) s.heap L κ ln R I_129 J_130 58 [(0, .ref x), (1, .int v_134), (2, .int v_135), (3, .int v_136), (4, .long y_137), (6, .int v_138), (7, .int v_139)] [] := by
        intro I_129 J_130 hU_131 hF_132 hG_133 v_134 rv_134 v_135 v_136 y_137 v_138 v_139 rv_139 v_140 rv_140 q_141 hm_142
        refine g_aload_n C 0 dX10_readToken_58 rfl rfl ?_
        refine g_getR C K hLx hkx f_10_9 hb_1 dX10_readToken_59 ?_
        refine g_iload C 6 dX10_readToken_62 rfl ?_
        obtain ⟨x_143, hx_143, rx_143⟩ := ex_get (I := I_129) (a := b_1) (j := v_139.toNatClampNeg) (lo := (-128)) (hi := 127) hU_131.1 hb_1L (ro_a hb_1k (by decide) hb_1o hkx rfl) (rfl)
        refine h_bald C K hb_1L hb_1k (v := x_143) (v_139.toNatClampNeg) (rfl) (ix_0 rv_139 (by decide)) (ix_lt rv_139 (by decide) hb_1n (by decide)) hx_143 dX10_readToken_64 ?_
        refine g_callSI C K (c_X10_isLetter W9 x_143 (rx_143) hU_131) s_10_87 rfl ⟨rfl, rfl⟩ ⟨Nat.le_of_ble_eq_true rfl, Nat.le_of_ble_eq_true rfl⟩ (Nat.le_of_ble_eq_true rfl) ⟨Nat.le_of_ble_eq_true rfl, Nat.le_of_ble_eq_true rfl⟩ dX10_readToken_65 rfl (st := []) (fun x_144 I_145 J_146 h_147 => ?_)
        obtain ⟨rfl, rfl, rx_144⟩ := h_147
        refine g_if_eq C (tgt := 91) dX10_readToken_68 (by decide) (fun h_148 => ?_) (fun h_148 => ?_)
        · skip
          have r_149 := (⟨(rx_144).1, (eq_rg (h_148) rc_0).2⟩ : Rg 0 0 x_144)
          refine g_iload C 5 dX10_readToken_91 rfl ?_
          refine g_bipush C (v := 10) dX10_readToken_93 (by decide) ?_
          obtain ⟨x_150, hx_150, rx_150⟩ := ex_any (z0 := v_138 * 10)
          refine g_imul C (v := x_150) dX10_readToken_95 hx_150 ?_
          refine g_aload_n C 0 dX10_readToken_96 rfl rfl ?_
          refine g_getR C K hLx hkx f_10_9 hb_1 dX10_readToken_97 ?_
          refine g_iload C 6 dX10_readToken_100 rfl ?_
          obtain ⟨x_151, hx_151, rx_151⟩ := ex_get (I := I_129) (a := b_1) (j := v_139.toNatClampNeg) (lo := (-128)) (hi := 127) hU_131.1 hb_1L (ro_a hb_1k (by decide) hb_1o hkx rfl) (rfl)
          refine h_bald C K hb_1L hb_1k (v := x_151) (v_139.toNatClampNeg) (rfl) (ix_0 rv_139 (by decide)) (ix_lt rv_139 (by decide) hb_1n (by decide)) hx_151 dX10_readToken_102 ?_
          obtain ⟨x_152, hx_152, rx_152⟩ := ex_any (z0 := x_150 + x_151)
          refine g_iadd C (v := x_152) dX10_readToken_103 hx_152 ?_
          refine g_bipush C (v := 48) dX10_readToken_104 (by decide) ?_
          obtain ⟨x_153, hx_153, rx_153⟩ := ex_any (z0 := x_152 - 48)
          refine g_isub C (v := x_153) dX10_readToken_106 hx_153 ?_
          refine g_istore C dX10_readToken_107 (by decide) (lo2 := [(6, .int x_153), (0, .ref x), (1, .int v_134), (2, .int v_135), (3, .int v_136), (4, .long y_137), (7, .int v_139)]) rfl ?_
          obtain ⟨x_154, hx_154, rx_154⟩ := ex_any (z0 := v_136 + 1)
          refine g_iinc C dX10_readToken_109 (k := 4) (v := x_154) rfl hx_154 (by decide) (lo2 := [(3, .int x_154), (6, .int x_153), (0, .ref x), (1, .int v_134), (2, .int v_135), (4, .long y_137), (7, .int v_139)]) rfl ?_
          refine g_lo (is := [2, 3, 4, 0, 5, 1, 6]) (lo2 := [(0, .ref x), (1, .int v_134), (2, .int v_135), (3, .int x_154), (4, .long y_137), (6, .int x_153), (7, .int v_139)]) rfl ?_
          exact j_112 I_129 J_130 hU_131 hF_132 hG_133 v_134 (rv_134) v_135 x_154 y_137 x_153 v_139 (rv_139) v_140 (rv_140) q_141 hm_142
        · skip
          have n_155 : ¬ x_144 = 0 := h_148
          have r_156 := ne_lo (lo := 1) n_155 rx_144 rc_0 rfl (by decide)
          refine g_lload C 4 dX10_readToken_71 rfl ?_
          refine g_aload_n C 0 dX10_readToken_73 rfl rfl ?_
          refine g_getR C K hLx hkx f_10_9 hb_1 dX10_readToken_74 ?_
          refine g_iload C 6 dX10_readToken_77 rfl ?_
          obtain ⟨x_157, hx_157, rx_157⟩ := ex_get (I := I_129) (a := b_1) (j := v_139.toNatClampNeg) (lo := (-128)) (hi := 127) hU_131.1 hb_1L (ro_a hb_1k (by decide) hb_1o hkx rfl) (rfl)
          refine h_bald C K hb_1L hb_1k (v := x_157) (v_139.toNatClampNeg) (rfl) (ix_0 rv_139 (by decide)) (ix_lt rv_139 (by decide) hb_1n (by decide)) hx_157 dX10_readToken_79 ?_
          refine g_callSL C K (c_X10_withLetter W9 y_137 x_157 (rx_157) hU_131) s_10_66 rfl ⟨rfl, rfl⟩ ⟨Nat.le_of_ble_eq_true rfl, Nat.le_of_ble_eq_true rfl⟩ (Nat.le_of_ble_eq_true rfl) ⟨Nat.le_of_ble_eq_true rfl, Nat.le_of_ble_eq_true rfl⟩ dX10_readToken_80 rfl (st := []) (fun x_158 I_159 J_160 h_161 => ?_)
          obtain ⟨rfl, rfl⟩ := h_161
          refine g_lstore C dX10_readToken_83 (by decide) (lo2 := [(4, .long x_158), (0, .ref x), (1, .int v_134), (2, .int v_135), (3, .int v_136), (6, .int v_138), (7, .int v_139)]) rfl ?_
          obtain ⟨x_162, hx_162, rx_162⟩ := ex_any (z0 := v_135 + 1)
          refine g_iinc C dX10_readToken_85 (k := 3) (v := x_162) rfl hx_162 (by decide) (lo2 := [(2, .int x_162), (4, .long x_158), (0, .ref x), (1, .int v_134), (3, .int v_136), (6, .int v_138), (7, .int v_139)]) rfl ?_
          refine g_goto C (tgt := 112) dX10_readToken_88 (by decide) ?_
          refine g_lo (is := [2, 3, 0, 4, 1, 5, 6]) (lo2 := [(0, .ref x), (1, .int v_134), (2, .int x_162), (3, .int v_136), (4, .long x_158), (6, .int v_138), (7, .int v_139)]) rfl ?_
          exact j_112 I_129 J_130 hU_131 hF_132 hG_133 v_134 (rv_134) x_162 v_136 x_158 v_138 v_139 (rv_139) v_140 (rv_140) q_141 hm_142
      refine g_iload C 6 dX10_readToken_13 rfl ?_
      refine g_aload_n C 0 dX10_readToken_15 rfl rfl ?_
      obtain ⟨x_163, hx_163, rx_163⟩ := ex_get (I := I_102) (a := x) (j := 5) (lo := 0) (hi := 940) hU_104.1 hLx (ro_o hkx (by decide)) rfl
      refine g_getI C K hLx hkx f_10_29 (v := x_163) hx_163 dX10_readToken_16 ?_
      refine g_icmp_ge C (tgt := 118) dX10_readToken_19 (by decide) (fun h_164 => ?_) (fun h_164 => ?_)
      · skip
        refine g_lo (is := [0, 1, 2, 3, 4, 5, 6]) (lo2 := [(0, .ref x), (1, .int v_107), (2, .int v_108), (3, .int v_109), (4, .long y_110), (6, .int v_111), (7, .int v_112)]) rfl ?_
        exact j_118 I_102 J_103 hU_104 hF_105 hG_106 v_107 (rv_107) v_108 v_109 y_110 v_111 v_112 (rv_112) x_163 (rx_163) hx_163
      · skip
        have r_165 := lt_l (hi := 939) (nle h_164) rv_112 rx_163 (by decide)
        have r_166 := lt_r (lo := 1) (nle h_164) rv_112 rx_163 (by decide)
        refine g_iload C 6 dX10_readToken_22 rfl ?_
        refine g_aload_n C 0 dX10_readToken_24 rfl rfl ?_
        refine g_getR C K hLx hkx f_10_9 hb_1 dX10_readToken_25 ?_
        refine g_alenB C K hb_1L hb_1k (v := 940) (by rw [hb_1n]; rfl) dX10_readToken_28 ?_
        refine g_icmp_ge C (tgt := 118) dX10_readToken_29 (by decide) (fun h_167 => ?_) (fun h_167 => ?_)
        · skip
          have r_168 := le_r (h_167) rc_940 r_165
          exact rg_no r_168 (by decide)
        · skip
          refine g_aload_n C 0 dX10_readToken_32 rfl rfl ?_
          refine g_getR C K hLx hkx f_10_9 hb_1 dX10_readToken_33 ?_
          refine g_iload C 6 dX10_readToken_36 rfl ?_
          obtain ⟨x_169, hx_169, rx_169⟩ := ex_get (I := I_102) (a := b_1) (j := v_112.toNatClampNeg) (lo := (-128)) (hi := 127) hU_104.1 hb_1L (ro_a hb_1k (by decide) hb_1o hkx rfl) (rfl)
          refine h_bald C K hb_1L hb_1k (v := x_169) (v_112.toNatClampNeg) (rfl) (ix_0 r_165 (by decide)) (ix_lt r_165 (by decide) hb_1n (by decide)) hx_169 dX10_readToken_38 ?_
          refine g_callSI C K (c_X10_isLetter W9 x_169 (rx_169) hU_104) s_10_87 rfl ⟨rfl, rfl⟩ ⟨Nat.le_of_ble_eq_true rfl, Nat.le_of_ble_eq_true rfl⟩ (Nat.le_of_ble_eq_true rfl) ⟨Nat.le_of_ble_eq_true rfl, Nat.le_of_ble_eq_true rfl⟩ dX10_readToken_39 rfl (st := []) (fun x_170 I_171 J_172 h_173 => ?_)
          obtain ⟨rfl, rfl, rx_170⟩ := h_173
          refine g_if_ne C (tgt := 58) dX10_readToken_42 (by decide) (fun h_174 => ?_) (fun h_174 => ?_)
          · skip
            have n_175 : ¬ x_170 = 0 := h_174
            have r_176 := ne_lo (lo := 1) n_175 rx_170 rc_0 rfl (by decide)
            refine g_lo (is := [0, 1, 2, 3, 4, 5, 6]) (lo2 := [(0, .ref x), (1, .int v_107), (2, .int v_108), (3, .int v_109), (4, .long y_110), (6, .int v_111), (7, .int v_112)]) rfl ?_
            exact j_58 I_102 J_103 hU_104 hF_105 hG_106 v_107 (rv_107) v_108 v_109 y_110 v_111 v_112 (r_165) x_163 (r_166) hx_163 hm_113
          · skip
            have r_177 := (⟨(rx_170).1, (eq_rg (h_174) rc_0).2⟩ : Rg 0 0 x_170)
            refine g_aload_n C 0 dX10_readToken_45 rfl rfl ?_
            refine g_getR C K hLx hkx f_10_9 hb_1 dX10_readToken_46 ?_
            refine g_iload C 6 dX10_readToken_49 rfl ?_
            obtain ⟨x_178, hx_178, rx_178⟩ := ex_get (I := I_102) (a := b_1) (j := v_112.toNatClampNeg) (lo := (-128)) (hi := 127) hU_104.1 hb_1L (ro_a hb_1k (by decide) hb_1o hkx rfl) (rfl)
            refine h_bald C K hb_1L hb_1k (v := x_178) (v_112.toNatClampNeg) (rfl) (ix_0 r_165 (by decide)) (ix_lt r_165 (by decide) hb_1n (by decide)) hx_178 dX10_readToken_51 ?_
            refine g_callSI C K (c_X10_isDigit W9 x_178 (rx_178) hU_104) s_10_91 rfl ⟨rfl, rfl⟩ ⟨Nat.le_of_ble_eq_true rfl, Nat.le_of_ble_eq_true rfl⟩ (Nat.le_of_ble_eq_true rfl) ⟨Nat.le_of_ble_eq_true rfl, Nat.le_of_ble_eq_true rfl⟩ dX10_readToken_52 rfl (st := []) (fun x_179 I_180 J_181 h_182 => ?_)
            obtain ⟨rfl, rfl, rx_179⟩ := h_182
            refine g_if_eq C (tgt := 118) dX10_readToken_55 (by decide) (fun h_183 => ?_) (fun h_183 => ?_)
            · skip
              have r_184 := (⟨(rx_179).1, (eq_rg (h_183) rc_0).2⟩ : Rg 0 0 x_179)
              refine g_lo (is := [0, 1, 2, 3, 4, 5, 6]) (lo2 := [(0, .ref x), (1, .int v_107), (2, .int v_108), (3, .int v_109), (4, .long y_110), (6, .int v_111), (7, .int v_112)]) rfl ?_
              exact j_118 I_102 J_103 hU_104 hF_105 hG_106 v_107 (rv_107) v_108 v_109 y_110 v_111 v_112 (rg_w r_165 (by decide) (by decide)) x_163 (rg_w r_166 (by decide) (by decide)) hx_163
            · skip
              have n_185 : ¬ x_179 = 0 := h_183
              have r_186 := ne_lo (lo := 1) n_185 rx_179 rc_0 rfl (by decide)
              refine g_lo (is := [0, 1, 2, 3, 4, 5, 6]) (lo2 := [(0, .ref x), (1, .int v_107), (2, .int v_108), (3, .int v_109), (4, .long y_110), (6, .int v_111), (7, .int v_112)]) rfl ?_
              exact j_58 I_102 J_103 hU_104 hF_105 hG_106 v_107 (rv_107) v_108 v_109 y_110 v_111 v_112 (r_165) x_163 (r_166) hx_163 hm_113
  refine g_iconst C (v := 0) dX10_readToken_0 (by decide) ?_
  refine g_istore_n C dX10_readToken_1 rfl (by decide) (lo2 := [(2, .int 0), (0, .ref x), (1, .int a0)]) rfl ?_
  refine g_iconst C (v := 0) dX10_readToken_2 (by decide) ?_
  refine g_istore_n C dX10_readToken_3 rfl (by decide) (lo2 := [(3, .int 0), (2, .int 0), (0, .ref x), (1, .int a0)]) rfl ?_
  refine g_lconst C (v := 0) dX10_readToken_4 (by decide) ?_
  refine g_lstore C dX10_readToken_5 (by decide) (lo2 := [(4, .long 0), (3, .int 0), (2, .int 0), (0, .ref x), (1, .int a0)]) rfl ?_
  refine g_iconst C (v := 0) dX10_readToken_7 (by decide) ?_
  refine g_istore C dX10_readToken_8 (by decide) (lo2 := [(6, .int 0), (4, .long 0), (3, .int 0), (2, .int 0), (0, .ref x), (1, .int a0)]) rfl ?_
  refine g_iload_n C 5 dX10_readToken_10 rfl rfl ?_
  refine g_istore C dX10_readToken_11 (by decide) (lo2 := [(7, .int a0), (6, .int 0), (4, .long 0), (3, .int 0), (2, .int 0), (0, .ref x), (1, .int a0)]) rfl ?_
  refine g_lo (is := [5, 6, 4, 3, 2, 1, 0]) (lo2 := [(0, .ref x), (1, .int a0), (2, .int 0), (3, .int 0), (4, .long 0), (6, .int 0), (7, .int a0)]) rfl ?_
  exact l_13 941 I J hU hF hG a0 (ra0) 0 0 0 0 a0 (rg_w ra0 (by decide) (by decide)) (ms_s (a := 0) (b := 940) (N := 941) (rg_w ra0 (by decide) (by decide)) (by decide))
set_option maxRecDepth 100000 in
set_option maxHeartbeats 8000000 in
theorem c_X10_begin {l : Launch} {D : va_G} {cy : Nat → ClassId} {L : List Nat} {κ ln : Nat → Nat} {R : Nat → Nat → Option Nat} {I : Nat → Nat → Int32} {J : Nat → Nat → Int64} {ow : Nat → Nat × Nat} (W9 : ∀ a ∈ L, Shp L κ ln R ow a) {x : Nat} (hLx : x ∈ L) (hkx : κ x = 10) (a0 : Int32) (ra0 : Rg 200 900 a0) (hU : Iv L κ R ow I) : CtV l yX10_begin cX10_begin 5 none { frames := 2, cells := 0, slots := 0, locals := 60 } D cy L κ ln R I J [.ref x, .int a0] (fun I2 J2 => Iv L κ R ow I2 ∧ Fq L κ ow [1006, 1007, 1008, 1009, 1011, 1012, 70200, 70300] I I2 ∧ Fq L κ ow [1010, 70400] J J2) := by
  refine CtV.of (by decide +kernel) (Nat.le_of_ble_eq_true rfl) ?_
  intro p e s m below meth c B K
  have C := B.1
  have hF : Fq L κ ow [1006, 1007, 1008, 1009, 1011, 1012, 70200, 70300] I I := fq_rf
  have hG : Fq L κ ow [1010, 70400] J J := fq_rf
  obtain ⟨b_1, hb_1, hb_1L, hb_1k, hb_1n, hb_1o⟩ := shp_a (W9 x hLx) hkx 0 13 940 rfl (by decide)
  refine g_lo (is := [0, 1]) (lo2 := [(0, .ref x), (1, .int a0)]) rfl ?_
  have l_27 : ∀ (n_27 : Nat) (I_2 : Nat → Nat → Int32) (J_3 : Nat → Nat → Int64) (hU_4 : Iv L κ R ow I_2) (hF_5 : Fq L κ ow [1006, 1007, 1008, 1009, 1011, 1012, 70200, 70300] I I_2) (hG_6 : Fq L κ ow [1010, 70400] J J_3) (v_7 : Int32) (rv_7 : Rg 200 900 v_7) (v_8 : Int32) (rv_8 : Rg 0 900 v_8) (v_9 : Int32) (rv_9 : Rg 0 940 v_9) (v_10 : Int32) (rv_10 : Rg 0 900 v_10) (v_11 : Int32) (rv_11 : Rg 0 940 v_11) (q_12 : I_2 x 5 = v_11) (hm_13 : 900 < (v_10 : Int32).toInt + (n_27 : Int)), WG p l e { frames := 2, cells := 0, slots := 0, locals := 60 } s m ([.ref x, .int a0] : List Value).toArray below meth c 5 0 0 (MQ below (Qv_ D cy L κ ln R (fun I2 J2 => Iv L κ R ow I2 ∧ Fq L κ ow [1006, 1007, 1008, 1009, 1011, 1012, 70200, 70300] I I2 ∧ Fq L κ ow [1010, 70400] J J2)) ([.ref x, .int a0] : List Value).toArray s 0 0 (Al_ L)) D cy (Al_ L) s.heap L κ ln R I_2 J_3 27 [(0, .ref x), (1, .int v_7), (2, .int v_8), (3, .int v_9), (4, .int v_10)] [] := by
    intro n_27
    induction n_27 with
    | zero =>
      intro I_2 J_3 hU_4 hF_5 hG_6 v_7 rv_7 v_8 rv_8 v_9 rv_9 v_10 rv_10 v_11 rv_11 q_12 hm_13
      exact ms_0 rv_10 hm_13
    | succ n_27 ih_27 =>
      intro I_2 J_3 hU_4 hF_5 hG_6 v_7 rv_7 v_8 rv_8 v_9 rv_9 v_10 rv_10 v_11 rv_11 q_12 hm_13
      have j_70 : ∀ (I_14 : Nat → Nat → Int32) (J_15 : Nat → Nat → Int64) (hU_16 : Iv L κ R ow I_14) (hF_17 : Fq L κ ow [1006, 1007, 1008, 1009, 1011, 1012, 70200, 70300] I I_14) (hG_18 : Fq L κ ow [1010, 70400] J J_15) (v_19 : Int32) (rv_19 : Rg 200 900 v_19) (v_20 : Int32) (rv_20 : Rg 1 900 v_20) (v_21 : Int32) (rv_21 : Rg 0 940 v_21) (v_22 : Int32) (rv_22 : Rg 0 899 v_22) (v_23 : Int32) (rv_23 : Rg 0 940 v_23) (q_24 : I_14 x 5 = v_23) (hm_25 : 900 < (v_22 : Int32).toInt + ((n_27 + 1 : Nat) : Int)), WG p l e { frames := 2, cells := 0, slots := 0, locals := 60 } s m ([.ref x, .int a0] : List Value).toArray below meth c 5 0 0 (MQ below (Qv_ D cy L κ ln R (fun I2 J2 => Iv L κ R ow I2 ∧ Fq L κ ow [1006, 1007, 1008, 1009, 1011, 1012, 70200, 70300] I I2 ∧ Fq L κ ow [1010, 70400] J J2)) ([.ref x, .int a0] : List Value).toArray s 0 0 (Al_ L)) D cy (Al_ L) s.heap L κ ln R I_14 J_15 70 [(0, .ref x), (1, .int v_19), (2, .int v_20), (3, .int v_21), (4, .int v_22)] [] := by
        intro I_14 J_15 hU_16 hF_17 hG_18 v_19 rv_19 v_20 rv_20 v_21 rv_21 v_22 rv_22 v_23 rv_23 q_24 hm_25
        obtain ⟨x_26, hx_26, rx_26, tx_26⟩ := ex_add (y := 1) 1 900 rv_22 rc_1 (by decide) (by decide) (by decide) (by decide)
        refine g_iinc C dX10_begin_70 (k := 4) (v := x_26) rfl hx_26 (by decide) (lo2 := [(4, .int x_26), (0, .ref x), (1, .int v_19), (2, .int v_20), (3, .int v_21)]) rfl ?_
        refine g_goto C (tgt := 27) dX10_begin_73 (by decide) ?_
        refine g_lo (is := [1, 2, 3, 4, 0]) (lo2 := [(0, .ref x), (1, .int v_19), (2, .int v_20), (3, .int v_21), (4, .int x_26)]) rfl ?_
        exact ih_27 I_14 J_15 hU_16 hF_17 hG_18 v_19 (rv_19) v_20 (rg_w rv_20 (by decide) (by decide)) v_21 (rv_21) x_26 (rg_w rx_26 (by decide) (by decide)) v_23 (rv_23) q_24 (ms_1 hm_25 (ti_k tx_26 rc_1) (by decide))
      refine g_iload C 4 dX10_begin_27 rfl ?_
      refine g_iload_n C 2 dX10_begin_29 rfl rfl ?_
      refine g_icmp_ge C (tgt := 76) dX10_begin_30 (by decide) (fun h_27 => ?_) (fun h_27 => ?_)
      · skip
        refine g_aload_n C 0 dX10_begin_76 rfl rfl ?_
        refine g_aload_n C 0 dX10_begin_77 rfl rfl ?_
        refine g_getI C K hLx hkx f_10_29 (v := v_11) q_12 dX10_begin_78 ?_
        refine g_iload_n C 1 dX10_begin_81 rfl rfl ?_
        refine g_icmp_le C (tgt := 90) dX10_begin_82 (by decide) (fun h_28 => ?_) (fun h_28 => ?_)
        · skip
          have r_29 := le_l (h_28) rv_11 rv_7
          refine g_bipush C (v := 102) dX10_begin_90 (by decide) ?_
          refine g_iload_n C 2 dX10_begin_92 rfl rfl ?_
          refine g_lconst C (v := 0) dX10_begin_93 (by decide) ?_
          refine g_callVV C K (c_X10_addToken W9 hLx hkx 102 v_8 0 (rg_w rc_102 (by decide) (by decide)) (rv_8) hU_4) hLx hkx (by decide) rfl v_10_80 rfl ⟨rfl, rfl⟩ ⟨Nat.le_of_ble_eq_true rfl, Nat.le_of_ble_eq_true rfl⟩ (Nat.le_of_ble_eq_true rfl) ⟨Nat.le_of_ble_eq_true rfl, Nat.le_of_ble_eq_true rfl⟩ dX10_begin_94 rfl (st := []) (fun I_31 J_32 h_33 => ?_)
          obtain ⟨hUI_31, hFI_31, hGJ_32⟩ := h_33
          have hF_34 := fq_tr hF_5 hFI_31 (by decide)
          have hG_35 := fq_tr hG_6 hGJ_32 (by decide)
          refine g_aload_n C 0 dX10_begin_97 rfl rfl ?_
          refine g_iconst C (v := 0) dX10_begin_98 (by decide) ?_
          refine h_putI C K hLx hkx f_10_49 p_10_11 dX10_begin_99 (fun I_36 hI_36 => ?_)
          have hU_37 := iv_put W9 hUI_31 hI_36 (ro_o hkx (by decide)) (lo := (-2147483648)) (hi := 2147483647) (rfl) (rg_all _) rfl
          have hF_38 := fq_puto hF_34 hI_36 hkx (by decide) (by decide)
          refine g_aload_n C 0 dX10_begin_102 rfl rfl ?_
          refine g_iconst C (v := 0) dX10_begin_103 (by decide) ?_
          refine h_putI C K hLx hkx f_10_52 p_10_12 dX10_begin_104 (fun I_39 hI_39 => ?_)
          have hU_40 := iv_put W9 hU_37 hI_39 (ro_o hkx (by decide)) (lo := (-2147483648)) (hi := 2147483647) (rfl) (rg_all _) rfl
          have hF_41 := fq_puto hF_38 hI_39 hkx (by decide) (by decide)
          refine g_aload_n C 0 dX10_begin_107 rfl rfl ?_
          refine g_iconst C (v := (-1)) dX10_begin_108 (by decide) ?_
          refine h_putI C K hLx hkx f_10_36 p_10_7 dX10_begin_109 (fun I_42 hI_42 => ?_)
          have hU_43 := iv_put W9 hU_40 hI_42 (ro_o hkx (by decide)) (lo := (-1)) (hi := 900) (rfl) (rg_w rc_m1 (by decide) (by decide)) rfl
          have hF_44 := fq_puto hF_41 hI_42 hkx (by decide) (by decide)
          refine g_aload_n C 0 dX10_begin_112 rfl rfl ?_
          refine g_callVV C K (c_X10_advance W9 hLx hkx   hU_43) hLx hkx (by decide) rfl v_10_84 rfl ⟨rfl, rfl⟩ ⟨Nat.le_of_ble_eq_true rfl, Nat.le_of_ble_eq_true rfl⟩ (Nat.le_of_ble_eq_true rfl) ⟨Nat.le_of_ble_eq_true rfl, Nat.le_of_ble_eq_true rfl⟩ dX10_begin_113 rfl (st := []) (fun I_46 J_47 h_48 => ?_)
          obtain ⟨hUI_46, hFI_46, hGJ_47⟩ := h_48
          have hF_49 := fq_tr hF_44 hFI_46 (by decide)
          have hG_50 := fq_tr hG_35 hGJ_47 (by decide)
          exact g_vret B K rfl ⟨hUI_46, hF_49, hG_50⟩ dX10_begin_116
        · skip
          have r_51 := lt_r (lo := 201) (nle h_28) rv_7 rv_11 (by decide)
          refine g_bipush C (v := 103) dX10_begin_85 (by decide) ?_
          refine g_goto C (tgt := 92) dX10_begin_87 (by decide) ?_
          refine g_iload_n C 2 dX10_begin_92 rfl rfl ?_
          refine g_lconst C (v := 0) dX10_begin_93 (by decide) ?_
          refine g_callVV C K (c_X10_addToken W9 hLx hkx 103 v_8 0 (rg_w rc_103 (by decide) (by decide)) (rv_8) hU_4) hLx hkx (by decide) rfl v_10_80 rfl ⟨rfl, rfl⟩ ⟨Nat.le_of_ble_eq_true rfl, Nat.le_of_ble_eq_true rfl⟩ (Nat.le_of_ble_eq_true rfl) ⟨Nat.le_of_ble_eq_true rfl, Nat.le_of_ble_eq_true rfl⟩ dX10_begin_94 rfl (st := []) (fun I_53 J_54 h_55 => ?_)
          obtain ⟨hUI_53, hFI_53, hGJ_54⟩ := h_55
          have hF_56 := fq_tr hF_5 hFI_53 (by decide)
          have hG_57 := fq_tr hG_6 hGJ_54 (by decide)
          refine g_aload_n C 0 dX10_begin_97 rfl rfl ?_
          refine g_iconst C (v := 0) dX10_begin_98 (by decide) ?_
          refine h_putI C K hLx hkx f_10_49 p_10_11 dX10_begin_99 (fun I_58 hI_58 => ?_)
          have hU_59 := iv_put W9 hUI_53 hI_58 (ro_o hkx (by decide)) (lo := (-2147483648)) (hi := 2147483647) (rfl) (rg_all _) rfl
          have hF_60 := fq_puto hF_56 hI_58 hkx (by decide) (by decide)
          refine g_aload_n C 0 dX10_begin_102 rfl rfl ?_
          refine g_iconst C (v := 0) dX10_begin_103 (by decide) ?_
          refine h_putI C K hLx hkx f_10_52 p_10_12 dX10_begin_104 (fun I_61 hI_61 => ?_)
          have hU_62 := iv_put W9 hU_59 hI_61 (ro_o hkx (by decide)) (lo := (-2147483648)) (hi := 2147483647) (rfl) (rg_all _) rfl
          have hF_63 := fq_puto hF_60 hI_61 hkx (by decide) (by decide)
          refine g_aload_n C 0 dX10_begin_107 rfl rfl ?_
          refine g_iconst C (v := (-1)) dX10_begin_108 (by decide) ?_
          refine h_putI C K hLx hkx f_10_36 p_10_7 dX10_begin_109 (fun I_64 hI_64 => ?_)
          have hU_65 := iv_put W9 hU_62 hI_64 (ro_o hkx (by decide)) (lo := (-1)) (hi := 900) (rfl) (rg_w rc_m1 (by decide) (by decide)) rfl
          have hF_66 := fq_puto hF_63 hI_64 hkx (by decide) (by decide)
          refine g_aload_n C 0 dX10_begin_112 rfl rfl ?_
          refine g_callVV C K (c_X10_advance W9 hLx hkx   hU_65) hLx hkx (by decide) rfl v_10_84 rfl ⟨rfl, rfl⟩ ⟨Nat.le_of_ble_eq_true rfl, Nat.le_of_ble_eq_true rfl⟩ (Nat.le_of_ble_eq_true rfl) ⟨Nat.le_of_ble_eq_true rfl, Nat.le_of_ble_eq_true rfl⟩ dX10_begin_113 rfl (st := []) (fun I_68 J_69 h_70 => ?_)
          obtain ⟨hUI_68, hFI_68, hGJ_69⟩ := h_70
          have hF_71 := fq_tr hF_66 hFI_68 (by decide)
          have hG_72 := fq_tr hG_57 hGJ_69 (by decide)
          exact g_vret B K rfl ⟨hUI_68, hF_71, hG_72⟩ dX10_begin_116
      · skip
        have r_73 := lt_l (hi := 899) (nle h_27) rv_10 rv_8 (by decide)
        have r_74 := lt_r (lo := 1) (nle h_27) rv_10 rv_8 (by decide)
        refine g_iload C 4 dX10_begin_33 rfl ?_
        refine g_iload_n C 3 dX10_begin_35 rfl rfl ?_
        refine g_icmp_lt C (tgt := 70) dX10_begin_36 (by decide) (fun h_75 => ?_) (fun h_75 => ?_)
        · skip
          have r_76 := lt_r (lo := 1) (h_75) r_73 rv_9 (by decide)
          refine g_lo (is := [0, 1, 2, 3, 4]) (lo2 := [(0, .ref x), (1, .int v_7), (2, .int v_8), (3, .int v_9), (4, .int v_10)]) rfl ?_
          exact j_70 I_2 J_3 hU_4 hF_5 hG_6 v_7 (rv_7) v_8 (r_74) v_9 (rg_w r_76 (by decide) (by decide)) v_10 (r_73) v_11 (rv_11) q_12 hm_13
        · skip
          have r_77 := le_l (nlt h_75) rv_9 r_73
          refine g_aload_n C 0 dX10_begin_39 rfl rfl ?_
          refine g_getR C K hLx hkx f_10_9 hb_1 dX10_begin_40 ?_
          refine g_iload C 4 dX10_begin_43 rfl ?_
          obtain ⟨x_78, hx_78, rx_78⟩ := ex_get (I := I_2) (a := b_1) (j := v_10.toNatClampNeg) (lo := (-128)) (hi := 127) hU_4.1 hb_1L (ro_a hb_1k (by decide) hb_1o hkx rfl) (rfl)
          refine h_bald C K hb_1L hb_1k (v := x_78) (v_10.toNatClampNeg) (rfl) (ix_0 r_73 (by decide)) (ix_lt r_73 (by decide) hb_1n (by decide)) hx_78 dX10_begin_45 ?_
          refine g_bipush C (v := 32) dX10_begin_46 (by decide) ?_
          refine g_icmp_eq C (tgt := 70) dX10_begin_48 (by decide) (fun h_79 => ?_) (fun h_79 => ?_)
          · skip
            have r_80 := (⟨(eq_rg (h_79) rc_32).1, (eq_rg (h_79) rc_32).2⟩ : Rg 32 32 x_78)
            refine g_lo (is := [0, 1, 2, 3, 4]) (lo2 := [(0, .ref x), (1, .int v_7), (2, .int v_8), (3, .int v_9), (4, .int v_10)]) rfl ?_
            exact j_70 I_2 J_3 hU_4 hF_5 hG_6 v_7 (rv_7) v_8 (r_74) v_9 (rg_w r_77 (by decide) (by decide)) v_10 (r_73) v_11 (rv_11) q_12 hm_13
          · skip
            have n_81 : ¬ x_78 = 32 := h_79
            refine g_aload_n C 0 dX10_begin_51 rfl rfl ?_
            refine g_getR C K hLx hkx f_10_9 hb_1 dX10_begin_52 ?_
            refine g_iload C 4 dX10_begin_55 rfl ?_
            obtain ⟨x_82, hx_82, rx_82⟩ := ex_get (I := I_2) (a := b_1) (j := v_10.toNatClampNeg) (lo := (-128)) (hi := 127) hU_4.1 hb_1L (ro_a hb_1k (by decide) hb_1o hkx rfl) (rfl)
            refine h_bald C K hb_1L hb_1k (v := x_82) (v_10.toNatClampNeg) (rfl) (ix_0 r_73 (by decide)) (ix_lt r_73 (by decide) hb_1n (by decide)) hx_82 dX10_begin_57 ?_
            refine g_bipush C (v := 10) dX10_begin_58 (by decide) ?_
            refine g_icmp_eq C (tgt := 70) dX10_begin_60 (by decide) (fun h_83 => ?_) (fun h_83 => ?_)
            · skip
              have r_84 := (⟨(eq_rg (h_83) rc_10).1, (eq_rg (h_83) rc_10).2⟩ : Rg 10 10 x_82)
              refine g_lo (is := [0, 1, 2, 3, 4]) (lo2 := [(0, .ref x), (1, .int v_7), (2, .int v_8), (3, .int v_9), (4, .int v_10)]) rfl ?_
              exact j_70 I_2 J_3 hU_4 hF_5 hG_6 v_7 (rv_7) v_8 (r_74) v_9 (rg_w r_77 (by decide) (by decide)) v_10 (r_73) v_11 (rv_11) q_12 hm_13
            · skip
              have n_85 : ¬ x_82 = 10 := h_83
              refine g_aload_n C 0 dX10_begin_63 rfl rfl ?_
              refine g_iload C 4 dX10_begin_64 rfl ?_
              refine g_callVI C K (c_X10_readToken W9 hLx hkx v_10 (r_73) hU_4) hLx hkx (by decide) rfl v_10_76 rfl ⟨rfl, rfl⟩ ⟨Nat.le_of_ble_eq_true rfl, Nat.le_of_ble_eq_true rfl⟩ (Nat.le_of_ble_eq_true rfl) ⟨Nat.le_of_ble_eq_true rfl, Nat.le_of_ble_eq_true rfl⟩ dX10_begin_66 rfl (st := []) (fun x_86 I_87 J_88 h_89 => ?_)
              obtain ⟨hUI_87, hFI_87, hGJ_88, rx_86⟩ := h_89
              have hF_90 := fq_tr hF_5 hFI_87 (by decide)
              have hG_91 := fq_tr hG_6 hGJ_88 (by decide)
              refine g_istore_n C dX10_begin_69 rfl (by decide) (lo2 := [(3, .int x_86), (0, .ref x), (1, .int v_7), (2, .int v_8), (4, .int v_10)]) rfl ?_
              refine g_lo (is := [1, 2, 3, 0, 4]) (lo2 := [(0, .ref x), (1, .int v_7), (2, .int v_8), (3, .int x_86), (4, .int v_10)]) rfl ?_
              exact j_70 I_87 J_88 hUI_87 hF_90 hG_91 v_7 (rv_7) v_8 (r_74) x_86 (rx_86) v_10 (r_73) v_11 (rv_11) (fq_at hFI_87 hLx hkx (by decide) (by decide) q_12) hm_13
  refine g_aload_n C 0 dX10_begin_0 rfl rfl ?_
  obtain ⟨x_92, hx_92, rx_92⟩ := ex_get (I := I) (a := x) (j := 5) (lo := 0) (hi := 940) hU.1 hLx (ro_o hkx (by decide)) rfl
  refine g_getI C K hLx hkx f_10_29 (v := x_92) hx_92 dX10_begin_1 ?_
  refine g_iload_n C 1 dX10_begin_4 rfl rfl ?_
  obtain ⟨x_93, hx_93, rx_93⟩ := ex_min 0 900 rx_92 ra0 (by decide) (by decide) (by decide)
  refine g_mmin C (v := x_93) mw_10_70 w_min (Nat.le_of_ble_eq_true rfl) (Nat.le_of_ble_eq_true rfl) ⟨Nat.le_of_ble_eq_true rfl, Nat.le_of_ble_eq_true rfl⟩ (hx_93) dX10_begin_5 ?_
  refine g_aload_n C 0 dX10_begin_8 rfl rfl ?_
  refine g_getR C K hLx hkx f_10_9 hb_1 dX10_begin_9 ?_
  refine g_alenB C K hb_1L hb_1k (v := 940) (by rw [hb_1n]; rfl) dX10_begin_12 ?_
  obtain ⟨x_94, hx_94, rx_94⟩ := ex_min 0 900 rx_93 rc_940 (by decide) (by decide) (by decide)
  refine g_mmin C (v := x_94) mw_10_70 w_min (Nat.le_of_ble_eq_true rfl) (Nat.le_of_ble_eq_true rfl) ⟨Nat.le_of_ble_eq_true rfl, Nat.le_of_ble_eq_true rfl⟩ (hx_94) dX10_begin_13 ?_
  refine g_istore_n C dX10_begin_16 rfl (by decide) (lo2 := [(2, .int x_94), (0, .ref x), (1, .int a0)]) rfl ?_
  refine g_iconst C (v := 0) dX10_begin_17 (by decide) ?_
  refine g_istore_n C dX10_begin_18 rfl (by decide) (lo2 := [(3, .int 0), (2, .int x_94), (0, .ref x), (1, .int a0)]) rfl ?_
  refine g_aload_n C 2 dX10_begin_19 rfl rfl ?_
  refine g_iconst C (v := 0) dX10_begin_20 (by decide) ?_
  refine h_putI C K hLx hkx f_10_33 p_10_6 dX10_begin_21 (fun I_95 hI_95 => ?_)
  have hU_96 := iv_put W9 hU hI_95 (ro_o hkx (by decide)) (lo := 0) (hi := 901) (rfl) (rg_w rc_0 (by decide) (by decide)) rfl
  have hF_97 := fq_puto hF hI_95 hkx (by decide) (by decide)
  refine g_iconst C (v := 0) dX10_begin_24 (by decide) ?_
  refine g_istore C dX10_begin_25 (by decide) (lo2 := [(4, .int 0), (3, .int 0), (2, .int x_94), (0, .ref x), (1, .int a0)]) rfl ?_
  refine g_lo (is := [3, 4, 2, 1, 0]) (lo2 := [(0, .ref x), (1, .int a0), (2, .int x_94), (3, .int 0), (4, .int 0)]) rfl ?_
  exact l_27 901 I_95 J hU_96 hF_97 hG a0 (ra0) x_94 (rx_94) 0 (rg_w rc_0 (by decide) (by decide)) 0 (rg_w rc_0 (by decide) (by decide)) x_92 (rx_92) (kp_j hI_95 (by decide) hx_92) (ms_s (a := 0) (b := 900) (N := 901) (rg_w rc_0 (by decide) (by decide)) (by decide))
set_option maxRecDepth 100000 in
set_option maxHeartbeats 8000000 in
theorem c_X1_forget {l : Launch} {D : va_G} {cy : Nat → ClassId} {L : List Nat} {κ ln : Nat → Nat} {R : Nat → Nat → Option Nat} {I : Nat → Nat → Int32} {J : Nat → Nat → Int64} {ow : Nat → Nat × Nat} (W9 : ∀ a ∈ L, Shp L κ ln R ow a) {x : Nat} (hLx : x ∈ L) (hkx : κ x = 1) (hU : Iv L κ R ow I) : CtV l yX1_forget cX1_forget 2 none { frames := 0, cells := 0, slots := 0, locals := 0 } D cy L κ ln R I J [.ref x] (fun I2 J2 => Iv L κ R ow I2 ∧ Fq L κ ow [107, 108, 109, 110, 111, 112, 16100, 16200, 16300, 16400, 16500, 16600] I I2 ∧ Fq L κ ow [] J J2) := by
  refine CtV.of (by decide +kernel) (Nat.le_of_ble_eq_true rfl) ?_
  intro p e s m below meth c B K
  have C := B.1
  have hF : Fq L κ ow [107, 108, 109, 110, 111, 112, 16100, 16200, 16300, 16400, 16500, 16600] I I := fq_rf
  have hG : Fq L κ ow [] J J := fq_rf
  obtain ⟨b_1, hb_1, hb_1L, hb_1k, hb_1n, hb_1o⟩ := shp_a (W9 x hLx) hkx 6 14 7 rfl (by decide)
  obtain ⟨b_2, hb_2, hb_2L, hb_2k, hb_2n, hb_2o⟩ := shp_a (W9 x hLx) hkx 4 14 7 rfl (by decide)
  obtain ⟨b_3, hb_3, hb_3L, hb_3k, hb_3n, hb_3o⟩ := shp_a (W9 x hLx) hkx 3 14 7 rfl (by decide)
  obtain ⟨b_4, hb_4, hb_4L, hb_4k, hb_4n, hb_4o⟩ := shp_a (W9 x hLx) hkx 5 14 7 rfl (by decide)
  obtain ⟨b_5, hb_5, hb_5L, hb_5k, hb_5n, hb_5o⟩ := shp_a (W9 x hLx) hkx 2 14 42 rfl (by decide)
  obtain ⟨b_6, hb_6, hb_6L, hb_6k, hb_6n, hb_6o⟩ := shp_a (W9 x hLx) hkx 1 14 6 rfl (by decide)
  refine g_lo (is := [0]) (lo2 := [(0, .ref x)]) rfl ?_
  have l_44 : ∀ (n_44 : Nat) (I_7 : Nat → Nat → Int32) (J_8 : Nat → Nat → Int64) (hU_9 : Iv L κ R ow I_7) (hF_10 : Fq L κ ow [107, 108, 109, 110, 111, 112, 16100, 16200, 16300, 16400, 16500, 16600] I I_7) (hG_11 : Fq L κ ow [] J J_8) (v_12 : Int32) (rv_12 : Rg 0 7 v_12) (hm_13 : 7 < (v_12 : Int32).toInt + (n_44 : Int)), WG p l e { frames := 0, cells := 0, slots := 0, locals := 0 } s m ([.ref x] : List Value).toArray below meth c 2 0 0 (MQ below (Qv_ D cy L κ ln R (fun I2 J2 => Iv L κ R ow I2 ∧ Fq L κ ow [107, 108, 109, 110, 111, 112, 16100, 16200, 16300, 16400, 16500, 16600] I I2 ∧ Fq L κ ow [] J J2)) ([.ref x] : List Value).toArray s 0 0 (Al_ L)) D cy (Al_ L) s.heap L κ ln R I_7 J_8 44 [(0, .ref x), (1, .int v_12)] [] := by
    intro n_44
    induction n_44 with
    | zero =>
      intro I_7 J_8 hU_9 hF_10 hG_11 v_12 rv_12 hm_13
      exact ms_0 rv_12 hm_13
    | succ n_44 ih_44 =>
      intro I_7 J_8 hU_9 hF_10 hG_11 v_12 rv_12 hm_13
      refine g_iload_n C 1 dX1_forget_44 rfl rfl ?_
      refine g_bipush C (v := 7) dX1_forget_45 (by decide) ?_
      refine g_icmp_ge C (tgt := 84) dX1_forget_47 (by decide) (fun h_14 => ?_) (fun h_14 => ?_)
      · skip
        have r_15 := le_r (h_14) rc_7 rv_12
        refine g_aload_n C 0 dX1_forget_84 rfl rfl ?_
        refine g_iconst C (v := 0) dX1_forget_85 (by decide) ?_
        refine h_putI C K hLx hkx f_1_30 p_1_7 dX1_forget_86 (fun I_16 hI_16 => ?_)
        have hU_17 := iv_put W9 hU_9 hI_16 (ro_o hkx (by decide)) (lo := (-2147483648)) (hi := 2147483647) (rfl) (rg_all _) rfl
        have hF_18 := fq_puto hF_10 hI_16 hkx (by decide) (by decide)
        refine g_aload_n C 0 dX1_forget_89 rfl rfl ?_
        refine g_iconst C (v := 0) dX1_forget_90 (by decide) ?_
        refine h_putI C K hLx hkx f_1_34 p_1_8 dX1_forget_91 (fun I_19 hI_19 => ?_)
        have hU_20 := iv_put W9 hU_17 hI_19 (ro_o hkx (by decide)) (lo := (-2147483648)) (hi := 2147483647) (rfl) (rg_all _) rfl
        have hF_21 := fq_puto hF_18 hI_19 hkx (by decide) (by decide)
        refine g_aload_n C 0 dX1_forget_94 rfl rfl ?_
        refine g_iconst C (v := 0) dX1_forget_95 (by decide) ?_
        refine h_putI C K hLx hkx f_1_37 p_1_9 dX1_forget_96 (fun I_22 hI_22 => ?_)
        have hU_23 := iv_put W9 hU_20 hI_22 (ro_o hkx (by decide)) (lo := (-2147483648)) (hi := 2147483647) (rfl) (rg_all _) rfl
        have hF_24 := fq_puto hF_21 hI_22 hkx (by decide) (by decide)
        refine g_aload_n C 0 dX1_forget_99 rfl rfl ?_
        refine g_iconst C (v := 0) dX1_forget_100 (by decide) ?_
        refine h_putI C K hLx hkx f_1_40 p_1_10 dX1_forget_101 (fun I_25 hI_25 => ?_)
        have hU_26 := iv_put W9 hU_23 hI_25 (ro_o hkx (by decide)) (lo := (-2147483648)) (hi := 2147483647) (rfl) (rg_all _) rfl
        have hF_27 := fq_puto hF_24 hI_25 hkx (by decide) (by decide)
        refine g_aload_n C 0 dX1_forget_104 rfl rfl ?_
        refine g_iconst C (v := 0) dX1_forget_105 (by decide) ?_
        refine h_putI C K hLx hkx f_1_43 p_1_11 dX1_forget_106 (fun I_28 hI_28 => ?_)
        have hU_29 := iv_put W9 hU_26 hI_28 (ro_o hkx (by decide)) (lo := (-2147483648)) (hi := 2147483647) (rfl) (rg_all _) rfl
        have hF_30 := fq_puto hF_27 hI_28 hkx (by decide) (by decide)
        refine g_aload_n C 0 dX1_forget_109 rfl rfl ?_
        refine g_iconst C (v := 0) dX1_forget_110 (by decide) ?_
        refine h_putI C K hLx hkx f_1_46 p_1_12 dX1_forget_111 (fun I_31 hI_31 => ?_)
        have hU_32 := iv_put W9 hU_29 hI_31 (ro_o hkx (by decide)) (lo := (-2147483648)) (hi := 2147483647) (rfl) (rg_all _) rfl
        have hF_33 := fq_puto hF_30 hI_31 hkx (by decide) (by decide)
        exact g_vret B K rfl ⟨hU_32, hF_33, hG_11⟩ dX1_forget_114
      · skip
        have r_34 := lt_l (hi := 6) (nle h_14) rv_12 rc_7 (by decide)
        refine g_aload_n C 0 dX1_forget_50 rfl rfl ?_
        refine g_getR C K hLx hkx f_1_18 hb_3 dX1_forget_51 ?_
        refine g_iload_n C 1 dX1_forget_54 rfl rfl ?_
        refine g_iconst C (v := 0) dX1_forget_55 (by decide) ?_
        refine h_iast C K hb_3L hb_3k (v_12.toNatClampNeg) (rfl) (ix_0 r_34 (by decide)) (ix_lt r_34 (by decide) hb_3n (by decide)) dX1_forget_56 (fun I_35 hI_35 => ?_)
        have hU_36 := iv_put W9 hU_9 hI_35 (ro_a hb_3k (by decide) hb_3o hkx rfl) (lo := (-2147483648)) (hi := 2147483647) (rfl) (rg_all _) rfl
        have hF_37 := fq_puta hF_10 hI_35 (ro_a hb_3k (by decide) hb_3o hkx rfl) (by decide) (by decide)
        refine g_aload_n C 0 dX1_forget_57 rfl rfl ?_
        refine g_getR C K hLx hkx f_1_21 hb_2 dX1_forget_58 ?_
        refine g_iload_n C 1 dX1_forget_61 rfl rfl ?_
        refine g_iconst C (v := 0) dX1_forget_62 (by decide) ?_
        refine h_iast C K hb_2L hb_2k (v_12.toNatClampNeg) (rfl) (ix_0 r_34 (by decide)) (ix_lt r_34 (by decide) hb_2n (by decide)) dX1_forget_63 (fun I_38 hI_38 => ?_)
        have hU_39 := iv_put W9 hU_36 hI_38 (ro_a hb_2k (by decide) hb_2o hkx rfl) (lo := (-2147483648)) (hi := 2147483647) (rfl) (rg_all _) rfl
        have hF_40 := fq_puta hF_37 hI_38 (ro_a hb_2k (by decide) hb_2o hkx rfl) (by decide) (by decide)
        refine g_aload_n C 0 dX1_forget_64 rfl rfl ?_
        refine g_getR C K hLx hkx f_1_24 hb_4 dX1_forget_65 ?_
        refine g_iload_n C 1 dX1_forget_68 rfl rfl ?_
        refine g_iconst C (v := 0) dX1_forget_69 (by decide) ?_
        refine h_iast C K hb_4L hb_4k (v_12.toNatClampNeg) (rfl) (ix_0 r_34 (by decide)) (ix_lt r_34 (by decide) hb_4n (by decide)) dX1_forget_70 (fun I_41 hI_41 => ?_)
        have hU_42 := iv_put W9 hU_39 hI_41 (ro_a hb_4k (by decide) hb_4o hkx rfl) (lo := (-2147483648)) (hi := 2147483647) (rfl) (rg_all _) rfl
        have hF_43 := fq_puta hF_40 hI_41 (ro_a hb_4k (by decide) hb_4o hkx rfl) (by decide) (by decide)
        refine g_aload_n C 0 dX1_forget_71 rfl rfl ?_
        refine g_getR C K hLx hkx f_1_27 hb_1 dX1_forget_72 ?_
        refine g_iload_n C 1 dX1_forget_75 rfl rfl ?_
        refine g_iconst C (v := 0) dX1_forget_76 (by decide) ?_
        refine h_iast C K hb_1L hb_1k (v_12.toNatClampNeg) (rfl) (ix_0 r_34 (by decide)) (ix_lt r_34 (by decide) hb_1n (by decide)) dX1_forget_77 (fun I_44 hI_44 => ?_)
        have hU_45 := iv_put W9 hU_42 hI_44 (ro_a hb_1k (by decide) hb_1o hkx rfl) (lo := (-2147483648)) (hi := 2147483647) (rfl) (rg_all _) rfl
        have hF_46 := fq_puta hF_43 hI_44 (ro_a hb_1k (by decide) hb_1o hkx rfl) (by decide) (by decide)
        obtain ⟨x_47, hx_47, rx_47, tx_47⟩ := ex_add (y := 1) 1 7 r_34 rc_1 (by decide) (by decide) (by decide) (by decide)
        refine g_iinc C dX1_forget_78 (k := 1) (v := x_47) rfl hx_47 (by decide) (lo2 := [(1, .int x_47), (0, .ref x)]) rfl ?_
        refine g_goto C (tgt := 44) dX1_forget_81 (by decide) ?_
        refine g_lo (is := [1, 0]) (lo2 := [(0, .ref x), (1, .int x_47)]) rfl ?_
        exact ih_44 I_44 J_8 hU_45 hF_46 hG_11 x_47 (rg_w rx_47 (by decide) (by decide)) (ms_1 hm_13 (ti_k tx_47 rc_1) (by decide))
  have l_23 : ∀ (n_23 : Nat) (I_48 : Nat → Nat → Int32) (J_49 : Nat → Nat → Int64) (hU_50 : Iv L κ R ow I_48) (hF_51 : Fq L κ ow [107, 108, 109, 110, 111, 112, 16100, 16200, 16300, 16400, 16500, 16600] I I_48) (hG_52 : Fq L κ ow [] J J_49) (v_53 : Int32) (rv_53 : Rg 0 42 v_53) (hm_54 : 42 < (v_53 : Int32).toInt + (n_23 : Int)), WG p l e { frames := 0, cells := 0, slots := 0, locals := 0 } s m ([.ref x] : List Value).toArray below meth c 2 0 0 (MQ below (Qv_ D cy L κ ln R (fun I2 J2 => Iv L κ R ow I2 ∧ Fq L κ ow [107, 108, 109, 110, 111, 112, 16100, 16200, 16300, 16400, 16500, 16600] I I2 ∧ Fq L κ ow [] J J2)) ([.ref x] : List Value).toArray s 0 0 (Al_ L)) D cy (Al_ L) s.heap L κ ln R I_48 J_49 23 [(0, .ref x), (1, .int v_53)] [] := by
    intro n_23
    induction n_23 with
    | zero =>
      intro I_48 J_49 hU_50 hF_51 hG_52 v_53 rv_53 hm_54
      exact ms_0 rv_53 hm_54
    | succ n_23 ih_23 =>
      intro I_48 J_49 hU_50 hF_51 hG_52 v_53 rv_53 hm_54
      refine g_iload_n C 1 dX1_forget_23 rfl rfl ?_
      refine g_bipush C (v := 42) dX1_forget_24 (by decide) ?_
      refine g_icmp_ge C (tgt := 42) dX1_forget_26 (by decide) (fun h_55 => ?_) (fun h_55 => ?_)
      · skip
        have r_56 := le_r (h_55) rc_42 rv_53
        refine g_iconst C (v := 0) dX1_forget_42 (by decide) ?_
        refine g_istore_n C dX1_forget_43 rfl (by decide) (lo2 := [(1, .int 0), (0, .ref x)]) rfl ?_
        refine g_lo (is := [1, 0]) (lo2 := [(0, .ref x), (1, .int 0)]) rfl ?_
        exact l_44 8 I_48 J_49 hU_50 hF_51 hG_52 0 (rg_w rc_0 (by decide) (by decide)) (ms_s (a := 0) (b := 7) (N := 8) (rg_w rc_0 (by decide) (by decide)) (by decide))
      · skip
        have r_57 := lt_l (hi := 41) (nle h_55) rv_53 rc_42 (by decide)
        refine g_aload_n C 0 dX1_forget_29 rfl rfl ?_
        refine g_getR C K hLx hkx f_1_15 hb_5 dX1_forget_30 ?_
        refine g_iload_n C 1 dX1_forget_33 rfl rfl ?_
        refine g_iconst C (v := 0) dX1_forget_34 (by decide) ?_
        refine h_iast C K hb_5L hb_5k (v_53.toNatClampNeg) (rfl) (ix_0 r_57 (by decide)) (ix_lt r_57 (by decide) hb_5n (by decide)) dX1_forget_35 (fun I_58 hI_58 => ?_)
        have hU_59 := iv_put W9 hU_50 hI_58 (ro_a hb_5k (by decide) hb_5o hkx rfl) (lo := (-2147483648)) (hi := 2147483647) (rfl) (rg_all _) rfl
        have hF_60 := fq_puta hF_51 hI_58 (ro_a hb_5k (by decide) hb_5o hkx rfl) (by decide) (by decide)
        obtain ⟨x_61, hx_61, rx_61, tx_61⟩ := ex_add (y := 1) 1 42 r_57 rc_1 (by decide) (by decide) (by decide) (by decide)
        refine g_iinc C dX1_forget_36 (k := 1) (v := x_61) rfl hx_61 (by decide) (lo2 := [(1, .int x_61), (0, .ref x)]) rfl ?_
        refine g_goto C (tgt := 23) dX1_forget_39 (by decide) ?_
        refine g_lo (is := [1, 0]) (lo2 := [(0, .ref x), (1, .int x_61)]) rfl ?_
        exact ih_23 I_58 J_49 hU_59 hF_60 hG_52 x_61 (rg_w rx_61 (by decide) (by decide)) (ms_1 hm_54 (ti_k tx_61 rc_1) (by decide))
  have l_2 : ∀ (n_2 : Nat) (I_62 : Nat → Nat → Int32) (J_63 : Nat → Nat → Int64) (hU_64 : Iv L κ R ow I_62) (hF_65 : Fq L κ ow [107, 108, 109, 110, 111, 112, 16100, 16200, 16300, 16400, 16500, 16600] I I_62) (hG_66 : Fq L κ ow [] J J_63) (v_67 : Int32) (rv_67 : Rg 0 6 v_67) (hm_68 : 6 < (v_67 : Int32).toInt + (n_2 : Int)), WG p l e { frames := 0, cells := 0, slots := 0, locals := 0 } s m ([.ref x] : List Value).toArray below meth c 2 0 0 (MQ below (Qv_ D cy L κ ln R (fun I2 J2 => Iv L κ R ow I2 ∧ Fq L κ ow [107, 108, 109, 110, 111, 112, 16100, 16200, 16300, 16400, 16500, 16600] I I2 ∧ Fq L κ ow [] J J2)) ([.ref x] : List Value).toArray s 0 0 (Al_ L)) D cy (Al_ L) s.heap L κ ln R I_62 J_63 2 [(0, .ref x), (1, .int v_67)] [] := by
    intro n_2
    induction n_2 with
    | zero =>
      intro I_62 J_63 hU_64 hF_65 hG_66 v_67 rv_67 hm_68
      exact ms_0 rv_67 hm_68
    | succ n_2 ih_2 =>
      intro I_62 J_63 hU_64 hF_65 hG_66 v_67 rv_67 hm_68
      refine g_iload_n C 1 dX1_forget_2 rfl rfl ?_
      refine g_bipush C (v := 6) dX1_forget_3 (by decide) ?_
      refine g_icmp_ge C (tgt := 21) dX1_forget_5 (by decide) (fun h_69 => ?_) (fun h_69 => ?_)
      · skip
        have r_70 := le_r (h_69) rc_6 rv_67
        refine g_iconst C (v := 0) dX1_forget_21 (by decide) ?_
        refine g_istore_n C dX1_forget_22 rfl (by decide) (lo2 := [(1, .int 0), (0, .ref x)]) rfl ?_
        refine g_lo (is := [1, 0]) (lo2 := [(0, .ref x), (1, .int 0)]) rfl ?_
        exact l_23 43 I_62 J_63 hU_64 hF_65 hG_66 0 (rg_w rc_0 (by decide) (by decide)) (ms_s (a := 0) (b := 42) (N := 43) (rg_w rc_0 (by decide) (by decide)) (by decide))
      · skip
        have r_71 := lt_l (hi := 5) (nle h_69) rv_67 rc_6 (by decide)
        refine g_aload_n C 0 dX1_forget_8 rfl rfl ?_
        refine g_getR C K hLx hkx f_1_9 hb_6 dX1_forget_9 ?_
        refine g_iload_n C 1 dX1_forget_12 rfl rfl ?_
        refine g_iconst C (v := 0) dX1_forget_13 (by decide) ?_
        refine h_iast C K hb_6L hb_6k (v_67.toNatClampNeg) (rfl) (ix_0 r_71 (by decide)) (ix_lt r_71 (by decide) hb_6n (by decide)) dX1_forget_14 (fun I_72 hI_72 => ?_)
        have hU_73 := iv_put W9 hU_64 hI_72 (ro_a hb_6k (by decide) hb_6o hkx rfl) (lo := (-2147483648)) (hi := 2147483647) (rfl) (rg_all _) rfl
        have hF_74 := fq_puta hF_65 hI_72 (ro_a hb_6k (by decide) hb_6o hkx rfl) (by decide) (by decide)
        obtain ⟨x_75, hx_75, rx_75, tx_75⟩ := ex_add (y := 1) 1 6 r_71 rc_1 (by decide) (by decide) (by decide) (by decide)
        refine g_iinc C dX1_forget_15 (k := 1) (v := x_75) rfl hx_75 (by decide) (lo2 := [(1, .int x_75), (0, .ref x)]) rfl ?_
        refine g_goto C (tgt := 2) dX1_forget_18 (by decide) ?_
        refine g_lo (is := [1, 0]) (lo2 := [(0, .ref x), (1, .int x_75)]) rfl ?_
        exact ih_2 I_72 J_63 hU_73 hF_74 hG_66 x_75 (rg_w rx_75 (by decide) (by decide)) (ms_1 hm_68 (ti_k tx_75 rc_1) (by decide))
  refine g_iconst C (v := 0) dX1_forget_0 (by decide) ?_
  refine g_istore_n C dX1_forget_1 rfl (by decide) (lo2 := [(1, .int 0), (0, .ref x)]) rfl ?_
  refine g_lo (is := [1, 0]) (lo2 := [(0, .ref x), (1, .int 0)]) rfl ?_
  exact l_2 7 I J hU hF hG 0 (rg_w rc_0 (by decide) (by decide)) (ms_s (a := 0) (b := 6) (N := 7) (rg_w rc_0 (by decide) (by decide)) (by decide))
set_option maxRecDepth 100000 in
set_option maxHeartbeats 8000000 in
theorem c_X8_forget {l : Launch} {D : va_G} {cy : Nat → ClassId} {L : List Nat} {κ ln : Nat → Nat} {R : Nat → Nat → Option Nat} {I : Nat → Nat → Int32} {J : Nat → Nat → Int64} {ow : Nat → Nat × Nat} (W9 : ∀ a ∈ L, Shp L κ ln R ow a) {x : Nat} (hLx : x ∈ L) (hkx : κ x = 8) (hU : Iv L κ R ow I) : CtV l yX8_forget cX8_forget 1 none { frames := 0, cells := 0, slots := 0, locals := 0 } D cy L κ ln R I J [.ref x] (fun I2 J2 => Iv L κ R ow I2 ∧ Fq L κ ow [805, 806, 807, 808] I I2 ∧ Fq L κ ow [] J J2) := by
  refine CtV.of (by decide +kernel) (Nat.le_of_ble_eq_true rfl) ?_
  intro p e s m below meth c B K
  have C := B.1
  have hF : Fq L κ ow [805, 806, 807, 808] I I := fq_rf
  have hG : Fq L κ ow [] J J := fq_rf
  refine g_lo (is := [0]) (lo2 := [(0, .ref x)]) rfl ?_
  refine g_aload_n C 0 dX8_forget_0 rfl rfl ?_
  refine g_iconst C (v := 0) dX8_forget_1 (by decide) ?_
  refine h_putI C K hLx hkx f_8_28 p_8_5 dX8_forget_2 (fun I_1 hI_1 => ?_)
  have hU_2 := iv_put W9 hU hI_1 (ro_o hkx (by decide)) (lo := 0) (hi := 7) (rfl) (rg_w rc_0 (by decide) (by decide)) rfl
  have hF_3 := fq_puto hF hI_1 hkx (by decide) (by decide)
  refine g_aload_n C 0 dX8_forget_5 rfl rfl ?_
  refine g_iconst C (v := 0) dX8_forget_6 (by decide) ?_
  refine h_putI C K hLx hkx f_8_32 p_8_6 dX8_forget_7 (fun I_4 hI_4 => ?_)
  have hU_5 := iv_put W9 hU_2 hI_4 (ro_o hkx (by decide)) (lo := 0) (hi := 6) (rfl) (rg_w rc_0 (by decide) (by decide)) rfl
  have hF_6 := fq_puto hF_3 hI_4 hkx (by decide) (by decide)
  refine g_aload_n C 0 dX8_forget_10 rfl rfl ?_
  refine g_iconst C (v := 0) dX8_forget_11 (by decide) ?_
  refine h_putI C K hLx hkx f_8_35 p_8_7 dX8_forget_12 (fun I_7 hI_7 => ?_)
  have hU_8 := iv_put W9 hU_5 hI_7 (ro_o hkx (by decide)) (lo := (-2147483648)) (hi := 2147483647) (rfl) (rg_all _) rfl
  have hF_9 := fq_puto hF_6 hI_7 hkx (by decide) (by decide)
  refine g_aload_n C 0 dX8_forget_15 rfl rfl ?_
  refine g_iconst C (v := 0) dX8_forget_16 (by decide) ?_
  refine h_putI C K hLx hkx f_8_38 p_8_8 dX8_forget_17 (fun I_10 hI_10 => ?_)
  have hU_11 := iv_put W9 hU_8 hI_10 (ro_o hkx (by decide)) (lo := (-2147483648)) (hi := 2147483647) (rfl) (rg_all _) rfl
  have hF_12 := fq_puto hF_9 hI_10 hkx (by decide) (by decide)
  exact g_vret B K rfl ⟨hU_11, hF_12, hG⟩ dX8_forget_20
set_option maxRecDepth 100000 in
set_option maxHeartbeats 8000000 in
theorem c_X10_fail {l : Launch} {D : va_G} {cy : Nat → ClassId} {L : List Nat} {κ ln : Nat → Nat} {R : Nat → Nat → Option Nat} {I : Nat → Nat → Int32} {J : Nat → Nat → Int64} {ow : Nat → Nat × Nat} (W9 : ∀ a ∈ L, Shp L κ ln R ow a) {x : Nat} (hLx : x ∈ L) (hkx : κ x = 10) (a0 : Int32) (ra0 : Rg 1 4 a0) (hU : Iv L κ R ow I) : CtI l yX10_fail cX10_fail 2 (some .boolean) { frames := 0, cells := 0, slots := 0, locals := 0 } D cy L κ ln R I J [.ref x, .int a0] (fun r I2 J2 => Iv L κ R ow I2 ∧ Fq L κ ow [1011, 1012] I I2 ∧ Fq L κ ow [] J J2 ∧ Rg 0 0 r) := by
  refine CtI.of (by decide +kernel) (Nat.le_of_ble_eq_true rfl) ?_
  intro p e s m below meth c B K
  have C := B.1
  have hF : Fq L κ ow [1011, 1012] I I := fq_rf
  have hG : Fq L κ ow [] J J := fq_rf
  refine g_lo (is := [0, 1]) (lo2 := [(0, .ref x), (1, .int a0)]) rfl ?_
  refine g_aload_n C 0 dX10_fail_0 rfl rfl ?_
  obtain ⟨x_1, hx_1, rx_1⟩ := ex_get (I := I) (a := x) (j := 11) (lo := (-2147483648)) (hi := 2147483647) hU.1 hLx (ro_o hkx (by decide)) rfl
  refine g_getI C K hLx hkx f_10_49 (v := x_1) hx_1 dX10_fail_1 ?_
  refine g_if_ne C (tgt := 20) dX10_fail_4 (by decide) (fun h_2 => ?_) (fun h_2 => ?_)
  · skip
    have n_3 : ¬ x_1 = 0 := h_2
    refine g_iconst C (v := 0) dX10_fail_20 (by decide) ?_
    exact g_zret (ty := .boolean) (r := 0) B K rfl (rfl) ⟨hU, hF, hG, rc_0⟩ dX10_fail_21
  · skip
    have r_4 := (⟨(eq_rg (h_2) rc_0).1, (eq_rg (h_2) rc_0).2⟩ : Rg 0 0 x_1)
    refine g_aload_n C 0 dX10_fail_7 rfl rfl ?_
    refine g_iload_n C 1 dX10_fail_8 rfl rfl ?_
    refine h_putI C K hLx hkx f_10_49 p_10_11 dX10_fail_9 (fun I_5 hI_5 => ?_)
    have hU_6 := iv_put W9 hU hI_5 (ro_o hkx (by decide)) (lo := (-2147483648)) (hi := 2147483647) (rfl) (rg_all _) rfl
    have hF_7 := fq_puto hF hI_5 hkx (by decide) (by decide)
    refine g_aload_n C 0 dX10_fail_12 rfl rfl ?_
    refine g_aload_n C 0 dX10_fail_13 rfl rfl ?_
    obtain ⟨x_8, hx_8, rx_8⟩ := ex_get (I := I_5) (a := x) (j := 9) (lo := (-2147483648)) (hi := 2147483647) hU_6.1 hLx (ro_o hkx (by decide)) rfl
    refine g_getI C K hLx hkx f_10_42 (v := x_8) hx_8 dX10_fail_14 ?_
    refine h_putI C K hLx hkx f_10_52 p_10_12 dX10_fail_17 (fun I_9 hI_9 => ?_)
    have hU_10 := iv_put W9 hU_6 hI_9 (ro_o hkx (by decide)) (lo := (-2147483648)) (hi := 2147483647) (rfl) (rx_8) rfl
    have hF_11 := fq_puto hF_7 hI_9 hkx (by decide) (by decide)
    refine g_iconst C (v := 0) dX10_fail_20 (by decide) ?_
    exact g_zret (ty := .boolean) (r := 0) B K rfl (rfl) ⟨hU_10, hF_11, hG, rc_0⟩ dX10_fail_21
set_option maxRecDepth 100000 in
set_option maxHeartbeats 8000000 in
theorem c_X10_take {l : Launch} {D : va_G} {cy : Nat → ClassId} {L : List Nat} {κ ln : Nat → Nat} {R : Nat → Nat → Option Nat} {I : Nat → Nat → Int32} {J : Nat → Nat → Int64} {ow : Nat → Nat × Nat} (W9 : ∀ a ∈ L, Shp L κ ln R ow a) {x : Nat} (hLx : x ∈ L) (hkx : κ x = 10) (a0 : Int32) (ra0 : Rg 41 102 a0) (hU : Iv L κ R ow I) : CtI l yX10_take cX10_take 2 (some .boolean) { frames := 1, cells := 0, slots := 0, locals := 21 } D cy L κ ln R I J [.ref x, .int a0] (fun r I2 J2 => Iv L κ R ow I2 ∧ Fq L κ ow [1007, 1008, 1009, 1011, 1012] I I2 ∧ Fq L κ ow [1010] J J2 ∧ Rg 0 1 r) := by
  refine CtI.of (by decide +kernel) (Nat.le_of_ble_eq_true rfl) ?_
  intro p e s m below meth c B K
  have C := B.1
  have hF : Fq L κ ow [1007, 1008, 1009, 1011, 1012] I I := fq_rf
  have hG : Fq L κ ow [1010] J J := fq_rf
  refine g_lo (is := [0, 1]) (lo2 := [(0, .ref x), (1, .int a0)]) rfl ?_
  refine g_aload_n C 0 dX10_take_0 rfl rfl ?_
  obtain ⟨x_1, hx_1, rx_1⟩ := ex_get (I := I) (a := x) (j := 8) (lo := (-2147483648)) (hi := 2147483647) hU.1 hLx (ro_o hkx (by decide)) rfl
  refine g_getI C K hLx hkx f_10_39 (v := x_1) hx_1 dX10_take_1 ?_
  refine g_iload_n C 1 dX10_take_4 rfl rfl ?_
  refine g_icmp_eq C (tgt := 14) dX10_take_5 (by decide) (fun h_2 => ?_) (fun h_2 => ?_)
  · skip
    have r_3 := (⟨(eq_rg (h_2) ra0).1, (eq_rg (h_2) ra0).2⟩ : Rg 41 102 x_1)
    refine g_aload_n C 0 dX10_take_14 rfl rfl ?_
    refine g_callVV C K (c_X10_advance W9 hLx hkx   hU) hLx hkx (by decide) rfl v_10_84 rfl ⟨rfl, rfl⟩ ⟨Nat.le_of_ble_eq_true rfl, Nat.le_of_ble_eq_true rfl⟩ (Nat.le_of_ble_eq_true rfl) ⟨Nat.le_of_ble_eq_true rfl, Nat.le_of_ble_eq_true rfl⟩ dX10_take_15 rfl (st := []) (fun I_5 J_6 h_7 => ?_)
    obtain ⟨hUI_5, hFI_5, hGJ_6⟩ := h_7
    have hF_8 := fq_tr hF hFI_5 (by decide)
    have hG_9 := fq_tr hG hGJ_6 (by decide)
    refine g_iconst C (v := 1) dX10_take_18 (by decide) ?_
    exact g_zret (ty := .boolean) (r := 1) B K rfl (rfl) ⟨hUI_5, hF_8, hG_9, rg_w rc_1 (by decide) (by decide)⟩ dX10_take_19
  · skip
    refine g_aload_n C 0 dX10_take_8 rfl rfl ?_
    refine g_iconst C (v := 1) dX10_take_9 (by decide) ?_
    refine g_callVI C K (c_X10_fail W9 hLx hkx 1 (rg_w rc_1 (by decide) (by decide)) hU) hLx hkx (by decide) rfl v_10_101 rfl ⟨rfl, rfl⟩ ⟨Nat.le_of_ble_eq_true rfl, Nat.le_of_ble_eq_true rfl⟩ (Nat.le_of_ble_eq_true rfl) ⟨Nat.le_of_ble_eq_true rfl, Nat.le_of_ble_eq_true rfl⟩ dX10_take_10 rfl (st := []) (fun x_10 I_11 J_12 h_13 => ?_)
    obtain ⟨hUI_11, hFI_11, hGJ_12, rx_10⟩ := h_13
    have hF_14 := fq_tr hF hFI_11 (by decide)
    have hG_15 := fq_tr hG hGJ_12 (by decide)
    exact g_zret (ty := .boolean) (r := x_10) B K rfl (nar_z (rg_w rx_10 (by decide) (by decide))) ⟨hUI_11, hF_14, hG_15, rg_w rx_10 (by decide) (by decide)⟩ dX10_take_13
set_option maxRecDepth 100000 in
set_option maxHeartbeats 8000000 in
theorem c_X10_takeNumber {l : Launch} {D : va_G} {cy : Nat → ClassId} {L : List Nat} {κ ln : Nat → Nat} {R : Nat → Nat → Option Nat} {I : Nat → Nat → Int32} {J : Nat → Nat → Int64} {ow : Nat → Nat × Nat} (W9 : ∀ a ∈ L, Shp L κ ln R ow a) {x : Nat} (hLx : x ∈ L) (hkx : κ x = 10) (a0 : Int32) (a1 : Int32) (ra0 : Rg 0 1 a0) (ra1 : Rg 1 999 a1) (hU : Iv L κ R ow I) : CtI l yX10_takeNumber cX10_takeNumber 4 (some .int) { frames := 1, cells := 0, slots := 0, locals := 21 } D cy L κ ln R I J [.ref x, .int a0, .int a1] (fun r I2 J2 => Iv L κ R ow I2 ∧ Fq L κ ow [1007, 1008, 1009, 1011, 1012] I I2 ∧ Fq L κ ow [1010] J J2 ∧ Rg (-2147483648) 2147483647 r) := by
  refine CtI.of (by decide +kernel) (Nat.le_of_ble_eq_true rfl) ?_
  intro p e s m below meth c B K
  have C := B.1
  have hF : Fq L κ ow [1007, 1008, 1009, 1011, 1012] I I := fq_rf
  have hG : Fq L κ ow [1010] J J := fq_rf
  refine g_lo (is := [0, 1, 2]) (lo2 := [(0, .ref x), (1, .int a0), (2, .int a1)]) rfl ?_
  have j_37 : ∀ (I_1 : Nat → Nat → Int32) (J_2 : Nat → Nat → Int64) (hU_3 : Iv L κ R ow I_1) (hF_4 : Fq L κ ow [1007, 1008, 1009, 1011, 1012] I I_1) (hG_5 : Fq L κ ow [1010] J J_2) (v_6 : Int32) (rv_6 : Rg 0 1 v_6) (v_7 : Int32) (rv_7 : Rg 1 999 v_7) (v_8 : Int32) (rv_8 : Rg 101 101 v_8) (q_9 : I_1 x 8 = v_8), WG p l e { frames := 1, cells := 0, slots := 0, locals := 21 } s m ([.ref x, .int a0, .int a1] : List Value).toArray below meth c 4 0 0 (MQ below (Qi_ D cy L κ ln R (fun r I2 J2 => Iv L κ R ow I2 ∧ Fq L κ ow [1007, 1008, 1009, 1011, 1012] I I2 ∧ Fq L κ ow [1010] J J2 ∧ Rg (-2147483648) 2147483647 r)) ([.ref x, .int a0, .int a1] : List Value).toArray s 0 0 (Al_ L)) D cy (Al_ L) s.heap L κ ln R I_1 J_2 37 [(0, .ref x), (1, .int v_6), (2, .int v_7)] [] := by
    intro I_1 J_2 hU_3 hF_4 hG_5 v_6 rv_6 v_7 rv_7 v_8 rv_8 q_9
    refine g_aload_n C 0 dX10_takeNumber_37 rfl rfl ?_
    refine g_iconst C (v := 2) dX10_takeNumber_38 (by decide) ?_
    refine g_callVI C K (c_X10_fail W9 hLx hkx 2 (rg_w rc_2 (by decide) (by decide)) hU_3) hLx hkx (by decide) rfl v_10_101 rfl ⟨rfl, rfl⟩ ⟨Nat.le_of_ble_eq_true rfl, Nat.le_of_ble_eq_true rfl⟩ (Nat.le_of_ble_eq_true rfl) ⟨Nat.le_of_ble_eq_true rfl, Nat.le_of_ble_eq_true rfl⟩ dX10_takeNumber_39 rfl (st := []) (fun x_10 I_11 J_12 h_13 => ?_)
    obtain ⟨hUI_11, hFI_11, hGJ_12, rx_10⟩ := h_13
    have hF_14 := fq_tr hF_4 hFI_11 (by decide)
    have hG_15 := fq_tr hG_5 hGJ_12 (by decide)
    refine g_pop C dX10_takeNumber_42 rfl ?_
    refine g_iconst C (v := (-1)) dX10_takeNumber_43 (by decide) ?_
    exact g_zret (ty := .int) (r := (-1)) B K rfl (rfl) ⟨hUI_11, hF_14, hG_15, rg_all _⟩ dX10_takeNumber_44
  refine g_aload_n C 0 dX10_takeNumber_0 rfl rfl ?_
  obtain ⟨x_16, hx_16, rx_16⟩ := ex_get (I := I) (a := x) (j := 8) (lo := (-2147483648)) (hi := 2147483647) hU.1 hLx (ro_o hkx (by decide)) rfl
  refine g_getI C K hLx hkx f_10_39 (v := x_16) hx_16 dX10_takeNumber_1 ?_
  refine g_bipush C (v := 101) dX10_takeNumber_4 (by decide) ?_
  refine g_icmp_eq C (tgt := 17) dX10_takeNumber_6 (by decide) (fun h_17 => ?_) (fun h_17 => ?_)
  · skip
    have r_18 := (⟨(eq_rg (h_17) rc_101).1, (eq_rg (h_17) rc_101).2⟩ : Rg 101 101 x_16)
    refine g_aload_n C 0 dX10_takeNumber_17 rfl rfl ?_
    obtain ⟨y_19, hy_19⟩ : ∃ z, J x 10 = z := ⟨_, rfl⟩
    refine g_getJ C K hLx hkx f_10_45 (v := y_19) hy_19 dX10_takeNumber_18 ?_
    refine g_iload_n C 1 dX10_takeNumber_21 rfl rfl ?_
    obtain ⟨y_20, hy_20⟩ : ∃ z, Int32.toInt64 a0 = z := ⟨_, rfl⟩
    refine g_i2l C (v := y_20) dX10_takeNumber_22 hy_20 ?_
    refine g_lcmp C dX10_takeNumber_23 (fun x_21 rx_21 => ?_)
    refine g_if_lt C (tgt := 37) dX10_takeNumber_24 (by decide) (fun h_22 => ?_) (fun h_22 => ?_)
    · skip
      have r_23 := lt_l (hi := (-1)) (h_22) rx_21 rc_0 (by decide)
      refine g_lo (is := [0, 1, 2]) (lo2 := [(0, .ref x), (1, .int a0), (2, .int a1)]) rfl ?_
      exact j_37 I J hU hF hG a0 (ra0) a1 (ra1) x_16 (r_18) hx_16
    · skip
      have r_24 := le_r (nlt h_22) rc_0 rx_21
      refine g_aload_n C 0 dX10_takeNumber_27 rfl rfl ?_
      obtain ⟨y_25, hy_25⟩ : ∃ z, J x 10 = z := ⟨_, rfl⟩
      refine g_getJ C K hLx hkx f_10_45 (v := y_25) hy_25 dX10_takeNumber_28 ?_
      refine g_iload_n C 2 dX10_takeNumber_31 rfl rfl ?_
      obtain ⟨y_26, hy_26⟩ : ∃ z, Int32.toInt64 a1 = z := ⟨_, rfl⟩
      refine g_i2l C (v := y_26) dX10_takeNumber_32 hy_26 ?_
      refine g_lcmp C dX10_takeNumber_33 (fun x_27 rx_27 => ?_)
      refine g_if_le C (tgt := 45) dX10_takeNumber_34 (by decide) (fun h_28 => ?_) (fun h_28 => ?_)
      · skip
        have r_29 := le_l (h_28) rx_27 rc_0
        refine g_aload_n C 0 dX10_takeNumber_45 rfl rfl ?_
        obtain ⟨y_30, hy_30⟩ : ∃ z, J x 10 = z := ⟨_, rfl⟩
        refine g_getJ C K hLx hkx f_10_45 (v := y_30) hy_30 dX10_takeNumber_46 ?_
        obtain ⟨x_31, hx_31, rx_31⟩ := ex_any (z0 := Int64.toInt32 y_30)
        refine g_l2i C (v := x_31) dX10_takeNumber_49 hx_31 ?_
        refine g_istore_n C dX10_takeNumber_50 rfl (by decide) (lo2 := [(3, .int x_31), (0, .ref x), (1, .int a0), (2, .int a1)]) rfl ?_
        refine g_aload_n C 1 dX10_takeNumber_51 rfl rfl ?_
        refine g_callVV C K (c_X10_advance W9 hLx hkx   hU) hLx hkx (by decide) rfl v_10_84 rfl ⟨rfl, rfl⟩ ⟨Nat.le_of_ble_eq_true rfl, Nat.le_of_ble_eq_true rfl⟩ (Nat.le_of_ble_eq_true rfl) ⟨Nat.le_of_ble_eq_true rfl, Nat.le_of_ble_eq_true rfl⟩ dX10_takeNumber_52 rfl (st := []) (fun I_33 J_34 h_35 => ?_)
        obtain ⟨hUI_33, hFI_33, hGJ_34⟩ := h_35
        have hF_36 := fq_tr hF hFI_33 (by decide)
        have hG_37 := fq_tr hG hGJ_34 (by decide)
        refine g_iload_n C 0 dX10_takeNumber_55 rfl rfl ?_
        exact g_zret (ty := .int) (r := x_31) B K rfl (rfl) ⟨hUI_33, hF_36, hG_37, rx_31⟩ dX10_takeNumber_56
      · skip
        have r_38 := lt_r (lo := 1) (nle h_28) rc_0 rx_27 (by decide)
        refine g_lo (is := [0, 1, 2]) (lo2 := [(0, .ref x), (1, .int a0), (2, .int a1)]) rfl ?_
        exact j_37 I J hU hF hG a0 (ra0) a1 (ra1) x_16 (r_18) hx_16
  · skip
    have n_39 : ¬ x_16 = 101 := h_17
    refine g_aload_n C 0 dX10_takeNumber_9 rfl rfl ?_
    refine g_iconst C (v := 1) dX10_takeNumber_10 (by decide) ?_
    refine g_callVI C K (c_X10_fail W9 hLx hkx 1 (rg_w rc_1 (by decide) (by decide)) hU) hLx hkx (by decide) rfl v_10_101 rfl ⟨rfl, rfl⟩ ⟨Nat.le_of_ble_eq_true rfl, Nat.le_of_ble_eq_true rfl⟩ (Nat.le_of_ble_eq_true rfl) ⟨Nat.le_of_ble_eq_true rfl, Nat.le_of_ble_eq_true rfl⟩ dX10_takeNumber_11 rfl (st := []) (fun x_40 I_41 J_42 h_43 => ?_)
    obtain ⟨hUI_41, hFI_41, hGJ_42, rx_40⟩ := h_43
    have hF_44 := fq_tr hF hFI_41 (by decide)
    have hG_45 := fq_tr hG hGJ_42 (by decide)
    refine g_pop C dX10_takeNumber_14 rfl ?_
    refine g_iconst C (v := (-1)) dX10_takeNumber_15 (by decide) ?_
    exact g_zret (ty := .int) (r := (-1)) B K rfl (rfl) ⟨hUI_41, hF_44, hG_45, rg_all _⟩ dX10_takeNumber_16
set_option maxRecDepth 100000 in
set_option maxHeartbeats 8000000 in
theorem c_X8_dishNamed {l : Launch} {D : va_G} {cy : Nat → ClassId} {L : List Nat} {κ ln : Nat → Nat} {R : Nat → Nat → Option Nat} {I : Nat → Nat → Int32} {J : Nat → Nat → Int64} {ow : Nat → Nat × Nat} (W9 : ∀ a ∈ L, Shp L κ ln R ow a) {x : Nat} (hLx : x ∈ L) (hkx : κ x = 8) (a0 : Int64) (hU : Iv L κ R ow I) : CtI l yX8_dishNamed cX8_dishNamed 4 (some .int) { frames := 0, cells := 0, slots := 0, locals := 0 } D cy L κ ln R I J [.ref x, .long a0] (fun r I2 J2 => I = I2 ∧ J = J2 ∧ Rg (-1) 5 r) := by
  refine CtI.of (by decide +kernel) (Nat.le_of_ble_eq_true rfl) ?_
  intro p e s m below meth c B K
  have C := B.1
  obtain ⟨b_1, hb_1, hb_1L, hb_1k, hb_1n, hb_1o⟩ := shp_a (W9 x hLx) hkx 3 15 6 rfl (by decide)
  refine g_lo (is := [0, 1]) (lo2 := [(0, .ref x), (1, .long a0)]) rfl ?_
  have l_2 : ∀ (n_2 : Nat) (y_2 : Int64) (v_3 : Int32) (rv_3 : Rg 0 6 v_3) (hm_4 : 6 < (v_3 : Int32).toInt + (n_2 : Int)), WG p l e { frames := 0, cells := 0, slots := 0, locals := 0 } s m ([.ref x, .long a0] : List Value).toArray below meth c 4 0 0 (MQ below (Qi_ D cy L κ ln R (fun r I2 J2 => I = I2 ∧ J = J2 ∧ Rg (-1) 5 r)) ([.ref x, .long a0] : List Value).toArray s 0 0 (Al_ L)) D cy (Al_ L) s.heap L κ ln R I J 2 [(0, .ref x), (1, .long y_2), (3, .int v_3)] [] := by
    intro n_2
    induction n_2 with
    | zero =>
      intro y_2 v_3 rv_3 hm_4
      exact ms_0 rv_3 hm_4
    | succ n_2 ih_2 =>
      intro y_2 v_3 rv_3 hm_4
      refine g_iload_n C 2 dX8_dishNamed_2 rfl rfl ?_
      refine g_aload_n C 0 dX8_dishNamed_3 rfl rfl ?_
      obtain ⟨x_5, hx_5, rx_5⟩ := ex_get (I := I) (a := x) (j := 6) (lo := 0) (hi := 6) hU.1 hLx (ro_o hkx (by decide)) rfl
      refine g_getI C K hLx hkx f_8_32 (v := x_5) hx_5 dX8_dishNamed_4 ?_
      refine g_icmp_ge C (tgt := 29) dX8_dishNamed_7 (by decide) (fun h_6 => ?_) (fun h_6 => ?_)
      · skip
        refine g_iconst C (v := (-1)) dX8_dishNamed_29 (by decide) ?_
        exact g_zret (ty := .int) (r := (-1)) B K rfl (rfl) ⟨rfl, rfl, rg_w rc_m1 (by decide) (by decide)⟩ dX8_dishNamed_30
      · skip
        have r_7 := lt_l (hi := 5) (nle h_6) rv_3 rx_5 (by decide)
        have r_8 := lt_r (lo := 1) (nle h_6) rv_3 rx_5 (by decide)
        refine g_aload_n C 0 dX8_dishNamed_10 rfl rfl ?_
        refine g_getR C K hLx hkx f_8_22 hb_1 dX8_dishNamed_11 ?_
        refine g_iload_n C 2 dX8_dishNamed_14 rfl rfl ?_
        obtain ⟨y_9, hy_9⟩ : ∃ z, J b_1 (v_3.toNatClampNeg) = z := ⟨_, rfl⟩
        refine h_lald C K hb_1L hb_1k (v := y_9) (v_3.toNatClampNeg) (rfl) (ix_0 r_7 (by decide)) (ix_lt r_7 (by decide) hb_1n (by decide)) hy_9 dX8_dishNamed_15 ?_
        refine g_lload_n C 1 dX8_dishNamed_16 rfl rfl ?_
        refine g_lcmp C dX8_dishNamed_17 (fun x_10 rx_10 => ?_)
        refine g_if_ne C (tgt := 23) dX8_dishNamed_18 (by decide) (fun h_11 => ?_) (fun h_11 => ?_)
        · skip
          have n_12 : ¬ x_10 = 0 := h_11
          obtain ⟨x_13, hx_13, rx_13, tx_13⟩ := ex_add (y := 1) 1 6 r_7 rc_1 (by decide) (by decide) (by decide) (by decide)
          refine g_iinc C dX8_dishNamed_23 (k := 2) (v := x_13) rfl hx_13 (by decide) (lo2 := [(3, .int x_13), (0, .ref x), (1, .long y_2)]) rfl ?_
          refine g_goto C (tgt := 2) dX8_dishNamed_26 (by decide) ?_
          refine g_lo (is := [1, 2, 0]) (lo2 := [(0, .ref x), (1, .long y_2), (3, .int x_13)]) rfl ?_
          exact ih_2 y_2 x_13 (rg_w rx_13 (by decide) (by decide)) (ms_1 hm_4 (ti_k tx_13 rc_1) (by decide))
        · skip
          have r_14 := (⟨(eq_rg (h_11) rc_0).1, (eq_rg (h_11) rc_0).2⟩ : Rg 0 0 x_10)
          refine g_iload_n C 2 dX8_dishNamed_21 rfl rfl ?_
          exact g_zret (ty := .int) (r := v_3) B K rfl (rfl) ⟨rfl, rfl, rg_w r_7 (by decide) (by decide)⟩ dX8_dishNamed_22
  refine g_iconst C (v := 0) dX8_dishNamed_0 (by decide) ?_
  refine g_istore_n C dX8_dishNamed_1 rfl (by decide) (lo2 := [(3, .int 0), (0, .ref x), (1, .long a0)]) rfl ?_
  refine g_lo (is := [1, 2, 0]) (lo2 := [(0, .ref x), (1, .long a0), (3, .int 0)]) rfl ?_
  exact l_2 7 a0 0 (rg_w rc_0 (by decide) (by decide)) (ms_s (a := 0) (b := 6) (N := 7) (rg_w rc_0 (by decide) (by decide)) (by decide))
set_option maxRecDepth 100000 in
set_option maxHeartbeats 8000000 in
theorem c_X8_personNamed {l : Launch} {D : va_G} {cy : Nat → ClassId} {L : List Nat} {κ ln : Nat → Nat} {R : Nat → Nat → Option Nat} {I : Nat → Nat → Int32} {J : Nat → Nat → Int64} {ow : Nat → Nat × Nat} (W9 : ∀ a ∈ L, Shp L κ ln R ow a) {x : Nat} (hLx : x ∈ L) (hkx : κ x = 8) (a0 : Int64) (hU : Iv L κ R ow I) : CtI l yX8_personNamed cX8_personNamed 4 (some .int) { frames := 0, cells := 0, slots := 0, locals := 0 } D cy L κ ln R I J [.ref x, .long a0] (fun r I2 J2 => I = I2 ∧ J = J2 ∧ Rg (-1) 6 r) := by
  refine CtI.of (by decide +kernel) (Nat.le_of_ble_eq_true rfl) ?_
  intro p e s m below meth c B K
  have C := B.1
  obtain ⟨b_1, hb_1, hb_1L, hb_1k, hb_1n, hb_1o⟩ := shp_a (W9 x hLx) hkx 0 15 7 rfl (by decide)
  refine g_lo (is := [0, 1]) (lo2 := [(0, .ref x), (1, .long a0)]) rfl ?_
  have l_2 : ∀ (n_2 : Nat) (y_2 : Int64) (v_3 : Int32) (rv_3 : Rg 0 7 v_3) (hm_4 : 7 < (v_3 : Int32).toInt + (n_2 : Int)), WG p l e { frames := 0, cells := 0, slots := 0, locals := 0 } s m ([.ref x, .long a0] : List Value).toArray below meth c 4 0 0 (MQ below (Qi_ D cy L κ ln R (fun r I2 J2 => I = I2 ∧ J = J2 ∧ Rg (-1) 6 r)) ([.ref x, .long a0] : List Value).toArray s 0 0 (Al_ L)) D cy (Al_ L) s.heap L κ ln R I J 2 [(0, .ref x), (1, .long y_2), (3, .int v_3)] [] := by
    intro n_2
    induction n_2 with
    | zero =>
      intro y_2 v_3 rv_3 hm_4
      exact ms_0 rv_3 hm_4
    | succ n_2 ih_2 =>
      intro y_2 v_3 rv_3 hm_4
      refine g_iload_n C 2 dX8_personNamed_2 rfl rfl ?_
      refine g_aload_n C 0 dX8_personNamed_3 rfl rfl ?_
      obtain ⟨x_5, hx_5, rx_5⟩ := ex_get (I := I) (a := x) (j := 5) (lo := 0) (hi := 7) hU.1 hLx (ro_o hkx (by decide)) rfl
      refine g_getI C K hLx hkx f_8_28 (v := x_5) hx_5 dX8_personNamed_4 ?_
      refine g_icmp_ge C (tgt := 29) dX8_personNamed_7 (by decide) (fun h_6 => ?_) (fun h_6 => ?_)
      · skip
        refine g_iconst C (v := (-1)) dX8_personNamed_29 (by decide) ?_
        exact g_zret (ty := .int) (r := (-1)) B K rfl (rfl) ⟨rfl, rfl, rg_w rc_m1 (by decide) (by decide)⟩ dX8_personNamed_30
      · skip
        have r_7 := lt_l (hi := 6) (nle h_6) rv_3 rx_5 (by decide)
        have r_8 := lt_r (lo := 1) (nle h_6) rv_3 rx_5 (by decide)
        refine g_aload_n C 0 dX8_personNamed_10 rfl rfl ?_
        refine g_getR C K hLx hkx f_8_9 hb_1 dX8_personNamed_11 ?_
        refine g_iload_n C 2 dX8_personNamed_14 rfl rfl ?_
        obtain ⟨y_9, hy_9⟩ : ∃ z, J b_1 (v_3.toNatClampNeg) = z := ⟨_, rfl⟩
        refine h_lald C K hb_1L hb_1k (v := y_9) (v_3.toNatClampNeg) (rfl) (ix_0 r_7 (by decide)) (ix_lt r_7 (by decide) hb_1n (by decide)) hy_9 dX8_personNamed_15 ?_
        refine g_lload_n C 1 dX8_personNamed_16 rfl rfl ?_
        refine g_lcmp C dX8_personNamed_17 (fun x_10 rx_10 => ?_)
        refine g_if_ne C (tgt := 23) dX8_personNamed_18 (by decide) (fun h_11 => ?_) (fun h_11 => ?_)
        · skip
          have n_12 : ¬ x_10 = 0 := h_11
          obtain ⟨x_13, hx_13, rx_13, tx_13⟩ := ex_add (y := 1) 1 7 r_7 rc_1 (by decide) (by decide) (by decide) (by decide)
          refine g_iinc C dX8_personNamed_23 (k := 2) (v := x_13) rfl hx_13 (by decide) (lo2 := [(3, .int x_13), (0, .ref x), (1, .long y_2)]) rfl ?_
          refine g_goto C (tgt := 2) dX8_personNamed_26 (by decide) ?_
          refine g_lo (is := [1, 2, 0]) (lo2 := [(0, .ref x), (1, .long y_2), (3, .int x_13)]) rfl ?_
          exact ih_2 y_2 x_13 (rg_w rx_13 (by decide) (by decide)) (ms_1 hm_4 (ti_k tx_13 rc_1) (by decide))
        · skip
          have r_14 := (⟨(eq_rg (h_11) rc_0).1, (eq_rg (h_11) rc_0).2⟩ : Rg 0 0 x_10)
          refine g_iload_n C 2 dX8_personNamed_21 rfl rfl ?_
          exact g_zret (ty := .int) (r := v_3) B K rfl (rfl) ⟨rfl, rfl, rg_w r_7 (by decide) (by decide)⟩ dX8_personNamed_22
  refine g_iconst C (v := 0) dX8_personNamed_0 (by decide) ?_
  refine g_istore_n C dX8_personNamed_1 rfl (by decide) (lo2 := [(3, .int 0), (0, .ref x), (1, .long a0)]) rfl ?_
  refine g_lo (is := [1, 2, 0]) (lo2 := [(0, .ref x), (1, .long a0), (3, .int 0)]) rfl ?_
  exact l_2 8 a0 0 (rg_w rc_0 (by decide) (by decide)) (ms_s (a := 0) (b := 7) (N := 8) (rg_w rc_0 (by decide) (by decide)) (by decide))
set_option maxRecDepth 100000 in
set_option maxHeartbeats 8000000 in
theorem c_X9_newName {l : Launch} {D : va_G} {cy : Nat → ClassId} {L : List Nat} {κ ln : Nat → Nat} {R : Nat → Nat → Option Nat} {I : Nat → Nat → Int32} {J : Nat → Nat → Int64} {ow : Nat → Nat × Nat} (W9 : ∀ a ∈ L, Shp L κ ln R ow a) {x : Nat} (hLx : x ∈ L) (hkx : κ x = 9) {a0 : Nat} (hLa0 : a0 ∈ L) (hka0 : κ a0 = 10) (hU : Iv L κ R ow I) : CtI l yX9_newName cX9_newName 2 (some .boolean) { frames := 1, cells := 0, slots := 0, locals := 23 } D cy L κ ln R I J [.ref x, .ref a0] (fun r I2 J2 => Iv L κ R ow I2 ∧ Fq L κ ow [1007, 1008, 1009, 1011, 1012] I I2 ∧ Fq L κ ow [1010] J J2 ∧ Rg 0 1 r) := by
  refine CtI.of (by decide +kernel) (Nat.le_of_ble_eq_true rfl) ?_
  intro p e s m below meth c B K
  have C := B.1
  have hF : Fq L κ ow [1007, 1008, 1009, 1011, 1012] I I := fq_rf
  have hG : Fq L κ ow [1010] J J := fq_rf
  obtain ⟨b_1, hb_1, hb_1L, hb_1k⟩ := shp_o (W9 x hLx) hkx 0 8 rfl (by decide)
  refine g_lo (is := [0, 1]) (lo2 := [(0, .ref x), (1, .ref a0)]) rfl ?_
  have j_45 : ∀ (I_2 : Nat → Nat → Int32) (J_3 : Nat → Nat → Int64) (hU_4 : Iv L κ R ow I_2) (hF_5 : Fq L κ ow [1007, 1008, 1009, 1011, 1012] I I_2) (hG_6 : Fq L κ ow [1010] J J_3) (v_7 : Int32) (rv_7 : Rg 100 100 v_7) (q_8 : I_2 a0 8 = v_7), WG p l e { frames := 1, cells := 0, slots := 0, locals := 23 } s m ([.ref x, .ref a0] : List Value).toArray below meth c 2 0 0 (MQ below (Qi_ D cy L κ ln R (fun r I2 J2 => Iv L κ R ow I2 ∧ Fq L κ ow [1007, 1008, 1009, 1011, 1012] I I2 ∧ Fq L κ ow [1010] J J2 ∧ Rg 0 1 r)) ([.ref x, .ref a0] : List Value).toArray s 0 0 (Al_ L)) D cy (Al_ L) s.heap L κ ln R I_2 J_3 45 [(0, .ref x), (1, .ref a0)] [] := by
    intro I_2 J_3 hU_4 hF_5 hG_6 v_7 rv_7 q_8
    refine g_aload_n C 1 dX9_newName_45 rfl rfl ?_
    refine g_iconst C (v := 3) dX9_newName_46 (by decide) ?_
    refine g_callVI C K (c_X10_fail W9 hLa0 hka0 3 (rg_w rc_3 (by decide) (by decide)) hU_4) hLa0 hka0 (by decide) rfl v_9_67 rfl ⟨rfl, rfl⟩ ⟨Nat.le_of_ble_eq_true rfl, Nat.le_of_ble_eq_true rfl⟩ (Nat.le_of_ble_eq_true rfl) ⟨Nat.le_of_ble_eq_true rfl, Nat.le_of_ble_eq_true rfl⟩ dX9_newName_47 rfl (st := []) (fun x_9 I_10 J_11 h_12 => ?_)
    obtain ⟨hUI_10, hFI_10, hGJ_11, rx_9⟩ := h_12
    have hF_13 := fq_tr hF_5 hFI_10 (by decide)
    have hG_14 := fq_tr hG_6 hGJ_11 (by decide)
    exact g_zret (ty := .boolean) (r := x_9) B K rfl (nar_z (rg_w rx_9 (by decide) (by decide))) ⟨hUI_10, hF_13, hG_14, rg_w rx_9 (by decide) (by decide)⟩ dX9_newName_50
  refine g_aload_n C 1 dX9_newName_0 rfl rfl ?_
  obtain ⟨x_15, hx_15, rx_15⟩ := ex_get (I := I) (a := a0) (j := 8) (lo := (-2147483648)) (hi := 2147483647) hU.1 hLa0 (ro_o hka0 (by decide)) rfl
  refine g_getI C K hLa0 hka0 f_9_44 (v := x_15) hx_15 dX9_newName_1 ?_
  refine g_bipush C (v := 100) dX9_newName_4 (by decide) ?_
  refine g_icmp_eq C (tgt := 15) dX9_newName_6 (by decide) (fun h_16 => ?_) (fun h_16 => ?_)
  · skip
    have r_17 := (⟨(eq_rg (h_16) rc_100).1, (eq_rg (h_16) rc_100).2⟩ : Rg 100 100 x_15)
    refine g_aload_n C 0 dX9_newName_15 rfl rfl ?_
    refine g_getR C K hLx hkx f_9_12 hb_1 dX9_newName_16 ?_
    refine g_aload_n C 1 dX9_newName_19 rfl rfl ?_
    obtain ⟨y_18, hy_18⟩ : ∃ z, J a0 10 = z := ⟨_, rfl⟩
    refine g_getJ C K hLa0 hka0 f_9_71 (v := y_18) hy_18 dX9_newName_20 ?_
    refine g_callVI C K (c_X8_personNamed W9 hb_1L hb_1k y_18  hU) hb_1L hb_1k (by decide) rfl v_9_75 rfl ⟨rfl, rfl⟩ ⟨Nat.le_of_ble_eq_true rfl, Nat.le_of_ble_eq_true rfl⟩ (Nat.le_of_ble_eq_true rfl) ⟨Nat.le_of_ble_eq_true rfl, Nat.le_of_ble_eq_true rfl⟩ dX9_newName_23 rfl (st := []) (fun x_19 I_20 J_21 h_22 => ?_)
    obtain ⟨rfl, rfl, rx_19⟩ := h_22
    refine g_iconst C (v := (-1)) dX9_newName_26 (by decide) ?_
    refine g_icmp_ne C (tgt := 45) dX9_newName_27 (by decide) (fun h_23 => ?_) (fun h_23 => ?_)
    · skip
      have n_24 : ¬ x_19 = (-1) := h_23
      have r_25 := ne_lo (lo := 0) n_24 rx_19 rc_m1 rfl (by decide)
      refine g_lo (is := [0, 1]) (lo2 := [(0, .ref x), (1, .ref a0)]) rfl ?_
      exact j_45 I J hU hF hG x_15 (r_17) hx_15
    · skip
      have r_26 := (⟨(rx_19).1, (eq_rg (h_23) rc_m1).2⟩ : Rg (-1) (-1) x_19)
      refine g_aload_n C 0 dX9_newName_30 rfl rfl ?_
      refine g_getR C K hLx hkx f_9_12 hb_1 dX9_newName_31 ?_
      refine g_aload_n C 1 dX9_newName_34 rfl rfl ?_
      obtain ⟨y_27, hy_27⟩ : ∃ z, J a0 10 = z := ⟨_, rfl⟩
      refine g_getJ C K hLa0 hka0 f_9_71 (v := y_27) hy_27 dX9_newName_35 ?_
      refine g_callVI C K (c_X8_dishNamed W9 hb_1L hb_1k y_27  hU) hb_1L hb_1k (by decide) rfl v_9_79 rfl ⟨rfl, rfl⟩ ⟨Nat.le_of_ble_eq_true rfl, Nat.le_of_ble_eq_true rfl⟩ (Nat.le_of_ble_eq_true rfl) ⟨Nat.le_of_ble_eq_true rfl, Nat.le_of_ble_eq_true rfl⟩ dX9_newName_38 rfl (st := []) (fun x_28 I_29 J_30 h_31 => ?_)
      obtain ⟨rfl, rfl, rx_28⟩ := h_31
      refine g_iconst C (v := (-1)) dX9_newName_41 (by decide) ?_
      refine g_icmp_eq C (tgt := 51) dX9_newName_42 (by decide) (fun h_32 => ?_) (fun h_32 => ?_)
      · skip
        have r_33 := (⟨(rx_28).1, (eq_rg (h_32) rc_m1).2⟩ : Rg (-1) (-1) x_28)
        refine g_aload_n C 1 dX9_newName_51 rfl rfl ?_
        refine g_callVV C K (c_X10_advance W9 hLa0 hka0   hU) hLa0 hka0 (by decide) rfl v_9_82 rfl ⟨rfl, rfl⟩ ⟨Nat.le_of_ble_eq_true rfl, Nat.le_of_ble_eq_true rfl⟩ (Nat.le_of_ble_eq_true rfl) ⟨Nat.le_of_ble_eq_true rfl, Nat.le_of_ble_eq_true rfl⟩ dX9_newName_52 rfl (st := []) (fun I_35 J_36 h_37 => ?_)
        obtain ⟨hUI_35, hFI_35, hGJ_36⟩ := h_37
        have hF_38 := fq_tr hF hFI_35 (by decide)
        have hG_39 := fq_tr hG hGJ_36 (by decide)
        refine g_iconst C (v := 1) dX9_newName_55 (by decide) ?_
        exact g_zret (ty := .boolean) (r := 1) B K rfl (rfl) ⟨hUI_35, hF_38, hG_39, rg_w rc_1 (by decide) (by decide)⟩ dX9_newName_56
      · skip
        have n_40 : ¬ x_28 = (-1) := h_32
        have r_41 := ne_lo (lo := 0) n_40 rx_28 rc_m1 rfl (by decide)
        refine g_lo (is := [0, 1]) (lo2 := [(0, .ref x), (1, .ref a0)]) rfl ?_
        exact j_45 I J hU hF hG x_15 (r_17) hx_15
  · skip
    have n_42 : ¬ x_15 = 100 := h_16
    refine g_aload_n C 1 dX9_newName_9 rfl rfl ?_
    refine g_iconst C (v := 1) dX9_newName_10 (by decide) ?_
    refine g_callVI C K (c_X10_fail W9 hLa0 hka0 1 (rg_w rc_1 (by decide) (by decide)) hU) hLa0 hka0 (by decide) rfl v_9_67 rfl ⟨rfl, rfl⟩ ⟨Nat.le_of_ble_eq_true rfl, Nat.le_of_ble_eq_true rfl⟩ (Nat.le_of_ble_eq_true rfl) ⟨Nat.le_of_ble_eq_true rfl, Nat.le_of_ble_eq_true rfl⟩ dX9_newName_11 rfl (st := []) (fun x_43 I_44 J_45 h_46 => ?_)
    obtain ⟨hUI_44, hFI_44, hGJ_45, rx_43⟩ := h_46
    have hF_47 := fq_tr hF hFI_44 (by decide)
    have hG_48 := fq_tr hG hGJ_45 (by decide)
    exact g_zret (ty := .boolean) (r := x_43) B K rfl (nar_z (rg_w rx_43 (by decide) (by decide))) ⟨hUI_44, hF_47, hG_48, rg_w rx_43 (by decide) (by decide)⟩ dX9_newName_14
set_option maxRecDepth 100000 in
set_option maxHeartbeats 8000000 in
theorem c_X9_readDish {l : Launch} {D : va_G} {cy : Nat → ClassId} {L : List Nat} {κ ln : Nat → Nat} {R : Nat → Nat → Option Nat} {I : Nat → Nat → Int32} {J : Nat → Nat → Int64} {ow : Nat → Nat × Nat} (W9 : ∀ a ∈ L, Shp L κ ln R ow a) {x : Nat} (hLx : x ∈ L) (hkx : κ x = 9) {a0 : Nat} (hLa0 : a0 ∈ L) (hka0 : κ a0 = 10) (hU : Iv L κ R ow I) : CtI l yX9_readDish cX9_readDish 6 (some .boolean) { frames := 2, cells := 0, slots := 0, locals := 44 } D cy L κ ln R I J [.ref x, .ref a0] (fun r I2 J2 => Iv L κ R ow I2 ∧ Fq L κ ow [806, 1007, 1008, 1009, 1011, 1012, 16100, 58400] I I2 ∧ Fq L κ ow [1010, 58300] J J2 ∧ Rg 0 1 r) := by
  refine CtI.of (by decide +kernel) (Nat.le_of_ble_eq_true rfl) ?_
  intro p e s m below meth c B K
  have C := B.1
  have hF : Fq L κ ow [806, 1007, 1008, 1009, 1011, 1012, 16100, 58400] I I := fq_rf
  have hG : Fq L κ ow [1010, 58300] J J := fq_rf
  obtain ⟨b_1, hb_1, hb_1L, hb_1k⟩ := shp_o (W9 x hLx) hkx 0 8 rfl (by decide)
  obtain ⟨b_2, hb_2, hb_2L, hb_2k⟩ := shp_o (W9 x hLx) hkx 1 1 rfl (by decide)
  obtain ⟨b_3, hb_3, hb_3L, hb_3k, hb_3n, hb_3o⟩ := shp_a (W9 b_1 hb_1L) hb_1k 3 15 6 rfl (by decide)
  obtain ⟨b_4, hb_4, hb_4L, hb_4k, hb_4n, hb_4o⟩ := shp_a (W9 b_2 hb_2L) hb_2k 1 14 6 rfl (by decide)
  obtain ⟨b_5, hb_5, hb_5L, hb_5k, hb_5n, hb_5o⟩ := shp_a (W9 b_1 hb_1L) hb_1k 4 14 6 rfl (by decide)
  refine g_lo (is := [0, 1]) (lo2 := [(0, .ref x), (1, .ref a0)]) rfl ?_
  have j_87 : ∀ (I_6 : Nat → Nat → Int32) (J_7 : Nat → Nat → Int64) (hU_8 : Iv L κ R ow I_6) (hF_9 : Fq L κ ow [806, 1007, 1008, 1009, 1011, 1012, 16100, 58400] I I_6) (hG_10 : Fq L κ ow [1010, 58300] J J_7) (y_11 : Int64) (v_12 : Int32) (nv_12_m1 : ¬ v_12 = (-1)) (v_13 : Int32) (nv_13_m1 : ¬ v_13 = (-1)) (v_14 : Int32) (rv_14 : Rg 0 5 v_14) (q_15 : I_6 b_1 6 = v_14), WG p l e { frames := 2, cells := 0, slots := 0, locals := 44 } s m ([.ref x, .ref a0] : List Value).toArray below meth c 6 0 0 (MQ below (Qi_ D cy L κ ln R (fun r I2 J2 => Iv L κ R ow I2 ∧ Fq L κ ow [806, 1007, 1008, 1009, 1011, 1012, 16100, 58400] I I2 ∧ Fq L κ ow [1010, 58300] J J2 ∧ Rg 0 1 r)) ([.ref x, .ref a0] : List Value).toArray s 0 0 (Al_ L)) D cy (Al_ L) s.heap L κ ln R I_6 J_7 87 [(0, .ref x), (1, .ref a0), (2, .long y_11), (4, .int v_12), (5, .int v_13)] [] := by
    intro I_6 J_7 hU_8 hF_9 hG_10 y_11 v_12 nv_12_m1 v_13 nv_13_m1 v_14 rv_14 q_15
    refine g_aload_n C 0 dX9_readDish_87 rfl rfl ?_
    refine g_getR C K hLx hkx f_9_12 hb_1 dX9_readDish_88 ?_
    refine g_getR C K hb_1L hb_1k f_9_116 hb_3 dX9_readDish_91 ?_
    refine g_aload_n C 0 dX9_readDish_94 rfl rfl ?_
    refine g_getR C K hLx hkx f_9_12 hb_1 dX9_readDish_95 ?_
    refine g_getI C K hb_1L hb_1k f_9_113 (v := v_14) q_15 dX9_readDish_98 ?_
    refine g_lload_n C 2 dX9_readDish_101 rfl rfl ?_
    refine h_last C K hb_3L hb_3k (v_14.toNatClampNeg) (rfl) (ix_0 rv_14 (by decide)) (ix_lt rv_14 (by decide) hb_3n (by decide)) dX9_readDish_102 (fun J_16 hJ_16 => ?_)
    have hG_17 := fq_puta hG_10 hJ_16 (ro_a hb_3k (by decide) hb_3o hb_1k rfl) (by decide) (by decide)
    refine g_aload_n C 0 dX9_readDish_103 rfl rfl ?_
    refine g_getR C K hLx hkx f_9_12 hb_1 dX9_readDish_104 ?_
    refine g_getR C K hb_1L hb_1k f_9_119 hb_5 dX9_readDish_107 ?_
    refine g_aload_n C 0 dX9_readDish_110 rfl rfl ?_
    refine g_getR C K hLx hkx f_9_12 hb_1 dX9_readDish_111 ?_
    refine g_getI C K hb_1L hb_1k f_9_113 (v := v_14) q_15 dX9_readDish_114 ?_
    refine g_iload C 4 dX9_readDish_117 rfl ?_
    refine h_iast C K hb_5L hb_5k (v_14.toNatClampNeg) (rfl) (ix_0 rv_14 (by decide)) (ix_lt rv_14 (by decide) hb_5n (by decide)) dX9_readDish_119 (fun I_18 hI_18 => ?_)
    have hU_19 := iv_put W9 hU_8 hI_18 (ro_a hb_5k (by decide) hb_5o hb_1k rfl) (lo := (-2147483648)) (hi := 2147483647) (rfl) ((rg_all v_13)) rfl
    have hF_20 := fq_puta hF_9 hI_18 (ro_a hb_5k (by decide) hb_5o hb_1k rfl) (by decide) (by decide)
    refine g_aload_n C 0 dX9_readDish_120 rfl rfl ?_
    refine g_getR C K hLx hkx f_9_23 hb_2 dX9_readDish_121 ?_
    refine g_getR C K hb_2L hb_2k f_9_122 hb_4 dX9_readDish_124 ?_
    refine g_aload_n C 0 dX9_readDish_127 rfl rfl ?_
    refine g_getR C K hLx hkx f_9_12 hb_1 dX9_readDish_128 ?_
    refine g_getI C K hb_1L hb_1k f_9_113 (v := v_14) (kp_k (κ := κ) hI_18 (by rw [hb_1k, hb_5k]; decide) q_15) dX9_readDish_131 ?_
    refine g_iload C 3 dX9_readDish_134 rfl ?_
    refine h_iast C K hb_4L hb_4k (v_14.toNatClampNeg) (rfl) (ix_0 rv_14 (by decide)) (ix_lt rv_14 (by decide) hb_4n (by decide)) dX9_readDish_136 (fun I_21 hI_21 => ?_)
    have hU_22 := iv_put W9 hU_19 hI_21 (ro_a hb_4k (by decide) hb_4o hb_2k rfl) (lo := (-2147483648)) (hi := 2147483647) (rfl) ((rg_all v_12)) rfl
    have hF_23 := fq_puta hF_20 hI_21 (ro_a hb_4k (by decide) hb_4o hb_2k rfl) (by decide) (by decide)
    refine g_aload_n C 0 dX9_readDish_137 rfl rfl ?_
    refine g_getR C K hLx hkx f_9_12 hb_1 dX9_readDish_138 ?_
    refine g_dup C dX9_readDish_141 rfl ?_
    refine g_getI C K hb_1L hb_1k f_9_113 (v := v_14) (kp_k (κ := κ) hI_21 (by rw [hb_1k, hb_4k]; decide) (kp_k (κ := κ) hI_18 (by rw [hb_1k, hb_5k]; decide) q_15)) dX9_readDish_142 ?_
    refine g_iconst C (v := 1) dX9_readDish_145 (by decide) ?_
    obtain ⟨x_24, hx_24, rx_24, tx_24⟩ := ex_add 1 6 rv_14 rc_1 (by decide) (by decide) (by decide) (by decide)
    refine g_iadd C (v := x_24) dX9_readDish_146 hx_24 ?_
    refine h_putI C K hb_1L hb_1k f_9_113 p_8_6 dX9_readDish_147 (fun I_25 hI_25 => ?_)
    have hU_26 := iv_put W9 hU_22 hI_25 (ro_o hb_1k (by decide)) (lo := 0) (hi := 6) (rfl) (rg_w rx_24 (by decide) (by decide)) rfl
    have hF_27 := fq_puto hF_23 hI_25 hb_1k (by decide) (by decide)
    refine g_aload_n C 1 dX9_readDish_150 rfl rfl ?_
    refine g_bipush C (v := 59) dX9_readDish_151 (by decide) ?_
    refine g_callVI C K (c_X10_take W9 hLa0 hka0 59 (rg_w rc_59 (by decide) (by decide)) hU_26) hLa0 hka0 (by decide) rfl v_9_110 rfl ⟨rfl, rfl⟩ ⟨Nat.le_of_ble_eq_true rfl, Nat.le_of_ble_eq_true rfl⟩ (Nat.le_of_ble_eq_true rfl) ⟨Nat.le_of_ble_eq_true rfl, Nat.le_of_ble_eq_true rfl⟩ dX9_readDish_153 rfl (st := []) (fun x_28 I_29 J_30 h_31 => ?_)
    obtain ⟨hUI_29, hFI_29, hGJ_30, rx_28⟩ := h_31
    have hF_32 := fq_tr hF_27 hFI_29 (by decide)
    have hG_33 := fq_tr hG_17 hGJ_30 (by decide)
    exact g_zret (ty := .boolean) (r := x_28) B K rfl (nar_z (rx_28)) ⟨hUI_29, hF_32, hG_33, rx_28⟩ dX9_readDish_156
  refine g_aload_n C 0 dX9_readDish_0 rfl rfl ?_
  refine g_getR C K hLx hkx f_9_12 hb_1 dX9_readDish_1 ?_
  obtain ⟨x_34, hx_34, rx_34⟩ := ex_get (I := I) (a := b_1) (j := 6) (lo := 0) (hi := 6) hU.1 hb_1L (ro_o hb_1k (by decide)) rfl
  refine g_getI C K hb_1L hb_1k f_9_113 (v := x_34) hx_34 dX9_readDish_4 ?_
  refine g_bipush C (v := 6) dX9_readDish_7 (by decide) ?_
  refine g_icmp_lt C (tgt := 18) dX9_readDish_9 (by decide) (fun h_35 => ?_) (fun h_35 => ?_)
  · skip
    have r_36 := lt_l (hi := 5) (h_35) rx_34 rc_6 (by decide)
    refine g_aload_n C 1 dX9_readDish_18 rfl rfl ?_
    refine g_callVV C K (c_X10_advance W9 hLa0 hka0   hU) hLa0 hka0 (by decide) rfl v_9_82 rfl ⟨rfl, rfl⟩ ⟨Nat.le_of_ble_eq_true rfl, Nat.le_of_ble_eq_true rfl⟩ (Nat.le_of_ble_eq_true rfl) ⟨Nat.le_of_ble_eq_true rfl, Nat.le_of_ble_eq_true rfl⟩ dX9_readDish_19 rfl (st := []) (fun I_38 J_39 h_40 => ?_)
    obtain ⟨hUI_38, hFI_38, hGJ_39⟩ := h_40
    have hF_41 := fq_tr hF hFI_38 (by decide)
    have hG_42 := fq_tr hG hGJ_39 (by decide)
    refine g_aload_n C 1 dX9_readDish_22 rfl rfl ?_
    obtain ⟨y_43, hy_43⟩ : ∃ z, J_39 a0 10 = z := ⟨_, rfl⟩
    refine g_getJ C K hLa0 hka0 f_9_71 (v := y_43) hy_43 dX9_readDish_23 ?_
    refine g_lstore_n C dX9_readDish_26 rfl (by decide) (lo2 := [(2, .long y_43), (0, .ref x), (1, .ref a0)]) rfl ?_
    refine g_aload_n C 1 dX9_readDish_27 rfl rfl ?_
    refine g_aload_n C 2 dX9_readDish_28 rfl rfl ?_
    refine g_callVI C K (c_X9_newName W9 hLx hkx hLa0 hka0  hUI_38) hLx hkx (by decide) rfl v_9_88 rfl ⟨rfl, rfl⟩ ⟨Nat.le_of_ble_eq_true rfl, Nat.le_of_ble_eq_true rfl⟩ (Nat.le_of_ble_eq_true rfl) ⟨Nat.le_of_ble_eq_true rfl, Nat.le_of_ble_eq_true rfl⟩ dX9_readDish_29 rfl (st := []) (fun x_44 I_45 J_46 h_47 => ?_)
    obtain ⟨hUI_45, hFI_45, hGJ_46, rx_44⟩ := h_47
    have hF_48 := fq_tr hF_41 hFI_45 (by decide)
    have hG_49 := fq_tr hG_42 hGJ_46 (by decide)
    refine g_if_ne C (tgt := 37) dX9_readDish_32 (by decide) (fun h_50 => ?_) (fun h_50 => ?_)
    · skip
      have n_51 : ¬ x_44 = 0 := h_50
      have r_52 := ne_lo (lo := 1) n_51 rx_44 rc_0 rfl (by decide)
      refine g_aload_n C 2 dX9_readDish_37 rfl rfl ?_
      refine g_iconst C (v := 0) dX9_readDish_38 (by decide) ?_
      refine g_bipush C (v := 99) dX9_readDish_39 (by decide) ?_
      refine g_callVI C K (c_X10_takeNumber W9 hLa0 hka0 0 99 (rg_w rc_0 (by decide) (by decide)) (rg_w rc_99 (by decide) (by decide)) hUI_45) hLa0 hka0 (by decide) rfl v_9_91 rfl ⟨rfl, rfl⟩ ⟨Nat.le_of_ble_eq_true rfl, Nat.le_of_ble_eq_true rfl⟩ (Nat.le_of_ble_eq_true rfl) ⟨Nat.le_of_ble_eq_true rfl, Nat.le_of_ble_eq_true rfl⟩ dX9_readDish_41 rfl (st := []) (fun x_53 I_54 J_55 h_56 => ?_)
      obtain ⟨hUI_54, hFI_54, hGJ_55, rx_53⟩ := h_56
      have hF_57 := fq_tr hF_48 hFI_54 (by decide)
      have hG_58 := fq_tr hG_49 hGJ_55 (by decide)
      refine g_istore C dX9_readDish_44 (by decide) (lo2 := [(4, .int x_53), (2, .long y_43), (0, .ref x), (1, .ref a0)]) rfl ?_
      refine g_iload C 0 dX9_readDish_46 rfl ?_
      refine g_iconst C (v := (-1)) dX9_readDish_48 (by decide) ?_
      refine g_icmp_ne C (tgt := 54) dX9_readDish_49 (by decide) (fun h_59 => ?_) (fun h_59 => ?_)
      · skip
        have n_60 : ¬ x_53 = (-1) := h_59
        refine g_iconst C (v := 0) dX9_readDish_54 (by decide) ?_
        refine g_istore C dX9_readDish_55 (by decide) (lo2 := [(5, .int 0), (4, .int x_53), (2, .long y_43), (0, .ref x), (1, .ref a0)]) rfl ?_
        refine g_aload_n C 4 dX9_readDish_57 rfl rfl ?_
        obtain ⟨x_61, hx_61, rx_61⟩ := ex_get (I := I_54) (a := a0) (j := 8) (lo := (-2147483648)) (hi := 2147483647) hUI_54.1 hLa0 (ro_o hka0 (by decide)) rfl
        refine g_getI C K hLa0 hka0 f_9_44 (v := x_61) hx_61 dX9_readDish_58 ?_
        refine g_bipush C (v := 6) dX9_readDish_61 (by decide) ?_
        refine g_icmp_ne C (tgt := 87) dX9_readDish_63 (by decide) (fun h_62 => ?_) (fun h_62 => ?_)
        · skip
          have n_63 : ¬ x_61 = 6 := h_62
          refine g_lo (is := [3, 4, 2, 1, 0]) (lo2 := [(0, .ref x), (1, .ref a0), (2, .long y_43), (4, .int x_53), (5, .int 0)]) rfl ?_
          exact j_87 I_54 J_55 hUI_54 hF_57 hG_58 y_43 x_53 (n_60) 0 (by decide) x_34 (r_36) (fq_at hFI_54 hb_1L hb_1k (by decide) (by decide) (fq_at hFI_45 hb_1L hb_1k (by decide) (by decide) (fq_at hFI_38 hb_1L hb_1k (by decide) (by decide) hx_34)))
        · skip
          have r_64 := (⟨(eq_rg (h_62) rc_6).1, (eq_rg (h_62) rc_6).2⟩ : Rg 6 6 x_61)
          refine g_aload_n C 4 dX9_readDish_66 rfl rfl ?_
          refine g_callVV C K (c_X10_advance W9 hLa0 hka0   hUI_54) hLa0 hka0 (by decide) rfl v_9_82 rfl ⟨rfl, rfl⟩ ⟨Nat.le_of_ble_eq_true rfl, Nat.le_of_ble_eq_true rfl⟩ (Nat.le_of_ble_eq_true rfl) ⟨Nat.le_of_ble_eq_true rfl, Nat.le_of_ble_eq_true rfl⟩ dX9_readDish_67 rfl (st := []) (fun I_66 J_67 h_68 => ?_)
          obtain ⟨hUI_66, hFI_66, hGJ_67⟩ := h_68
          have hF_69 := fq_tr hF_57 hFI_66 (by decide)
          have hG_70 := fq_tr hG_58 hGJ_67 (by decide)
          refine g_aload_n C 4 dX9_readDish_70 rfl rfl ?_
          refine g_iconst C (v := 1) dX9_readDish_71 (by decide) ?_
          refine g_bipush C (v := 9) dX9_readDish_72 (by decide) ?_
          refine g_callVI C K (c_X10_takeNumber W9 hLa0 hka0 1 9 (rg_w rc_1 (by decide) (by decide)) (rg_w rc_9 (by decide) (by decide)) hUI_66) hLa0 hka0 (by decide) rfl v_9_91 rfl ⟨rfl, rfl⟩ ⟨Nat.le_of_ble_eq_true rfl, Nat.le_of_ble_eq_true rfl⟩ (Nat.le_of_ble_eq_true rfl) ⟨Nat.le_of_ble_eq_true rfl, Nat.le_of_ble_eq_true rfl⟩ dX9_readDish_74 rfl (st := []) (fun x_71 I_72 J_73 h_74 => ?_)
          obtain ⟨hUI_72, hFI_72, hGJ_73, rx_71⟩ := h_74
          have hF_75 := fq_tr hF_69 hFI_72 (by decide)
          have hG_76 := fq_tr hG_70 hGJ_73 (by decide)
          refine g_istore C dX9_readDish_77 (by decide) (lo2 := [(5, .int x_71), (4, .int x_53), (2, .long y_43), (0, .ref x), (1, .ref a0)]) rfl ?_
          refine g_iload C 0 dX9_readDish_79 rfl ?_
          refine g_iconst C (v := (-1)) dX9_readDish_81 (by decide) ?_
          refine g_icmp_ne C (tgt := 87) dX9_readDish_82 (by decide) (fun h_77 => ?_) (fun h_77 => ?_)
          · skip
            have n_78 : ¬ x_71 = (-1) := h_77
            have q_79 := (fq_at hFI_72 hb_1L hb_1k (by decide) (by decide) (fq_at hFI_66 hb_1L hb_1k (by decide) (by decide) (fq_at hFI_54 hb_1L hb_1k (by decide) (by decide) (fq_at hFI_45 hb_1L hb_1k (by decide) (by decide) (fq_at hFI_38 hb_1L hb_1k (by decide) (by decide) hx_34)))))
            refine g_lo (is := [3, 4, 2, 1, 0]) (lo2 := [(0, .ref x), (1, .ref a0), (2, .long y_43), (4, .int x_53), (5, .int x_71)]) rfl ?_
            exact j_87 I_72 J_73 hUI_72 hF_75 hG_76 y_43 x_53 (n_60) x_71 (n_78) x_34 (r_36) q_79
          · skip
            have r_80 := (⟨(eq_rg (h_77) rc_m1).1, (eq_rg (h_77) rc_m1).2⟩ : Rg (-1) (-1) x_71)
            refine g_iconst C (v := 0) dX9_readDish_85 (by decide) ?_
            exact g_zret (ty := .boolean) (r := 0) B K rfl (rfl) ⟨hUI_72, hF_75, hG_76, rg_w rc_0 (by decide) (by decide)⟩ dX9_readDish_86
      · skip
        have r_81 := (⟨(eq_rg (h_59) rc_m1).1, (eq_rg (h_59) rc_m1).2⟩ : Rg (-1) (-1) x_53)
        refine g_iconst C (v := 0) dX9_readDish_52 (by decide) ?_
        exact g_zret (ty := .boolean) (r := 0) B K rfl (rfl) ⟨hUI_54, hF_57, hG_58, rg_w rc_0 (by decide) (by decide)⟩ dX9_readDish_53
    · skip
      have r_82 := (⟨(rx_44).1, (eq_rg (h_50) rc_0).2⟩ : Rg 0 0 x_44)
      refine g_iconst C (v := 0) dX9_readDish_35 (by decide) ?_
      exact g_zret (ty := .boolean) (r := 0) B K rfl (rfl) ⟨hUI_45, hF_48, hG_49, rg_w rc_0 (by decide) (by decide)⟩ dX9_readDish_36
  · skip
    have r_83 := le_r (nlt h_35) rc_6 rx_34
    refine g_aload_n C 1 dX9_readDish_12 rfl rfl ?_
    refine g_iconst C (v := 4) dX9_readDish_13 (by decide) ?_
    refine g_callVI C K (c_X10_fail W9 hLa0 hka0 4 (rg_w rc_4 (by decide) (by decide)) hU) hLa0 hka0 (by decide) rfl v_9_67 rfl ⟨rfl, rfl⟩ ⟨Nat.le_of_ble_eq_true rfl, Nat.le_of_ble_eq_true rfl⟩ (Nat.le_of_ble_eq_true rfl) ⟨Nat.le_of_ble_eq_true rfl, Nat.le_of_ble_eq_true rfl⟩ dX9_readDish_14 rfl (st := []) (fun x_84 I_85 J_86 h_87 => ?_)
    obtain ⟨hUI_85, hFI_85, hGJ_86, rx_84⟩ := h_87
    have hF_88 := fq_tr hF hFI_85 (by decide)
    have hG_89 := fq_tr hG hGJ_86 (by decide)
    exact g_zret (ty := .boolean) (r := x_84) B K rfl (nar_z (rg_w rx_84 (by decide) (by decide))) ⟨hUI_85, hF_88, hG_89, rg_w rx_84 (by decide) (by decide)⟩ dX9_readDish_17
set_option maxRecDepth 100000 in
set_option maxHeartbeats 8000000 in
theorem c_X9_readDogs {l : Launch} {D : va_G} {cy : Nat → ClassId} {L : List Nat} {κ ln : Nat → Nat} {R : Nat → Nat → Option Nat} {I : Nat → Nat → Int32} {J : Nat → Nat → Int64} {ow : Nat → Nat × Nat} (W9 : ∀ a ∈ L, Shp L κ ln R ow a) {x : Nat} (hLx : x ∈ L) (hkx : κ x = 9) {a0 : Nat} (hLa0 : a0 ∈ L) (hka0 : κ a0 = 10) (hU : Iv L κ R ow I) : CtI l yX9_readDogs cX9_readDogs 2 (some .boolean) { frames := 2, cells := 0, slots := 0, locals := 44 } D cy L κ ln R I J [.ref x, .ref a0] (fun r I2 J2 => Iv L κ R ow I2 ∧ Fq L κ ow [808, 903, 1007, 1008, 1009, 1011, 1012] I I2 ∧ Fq L κ ow [1010] J J2 ∧ Rg 0 1 r) := by
  refine CtI.of (by decide +kernel) (Nat.le_of_ble_eq_true rfl) ?_
  intro p e s m below meth c B K
  have C := B.1
  have hF : Fq L κ ow [808, 903, 1007, 1008, 1009, 1011, 1012] I I := fq_rf
  have hG : Fq L κ ow [1010] J J := fq_rf
  obtain ⟨b_1, hb_1, hb_1L, hb_1k⟩ := shp_o (W9 x hLx) hkx 0 8 rfl (by decide)
  refine g_lo (is := [0, 1]) (lo2 := [(0, .ref x), (1, .ref a0)]) rfl ?_
  refine g_aload_n C 0 dX9_readDogs_0 rfl rfl ?_
  obtain ⟨x_2, hx_2, rx_2⟩ := ex_get (I := I) (a := x) (j := 3) (lo := 0) (hi := 1) hU.1 hLx (ro_o hkx (by decide)) rfl
  refine g_getI C K hLx hkx f_9_31 (v := x_2) hx_2 dX9_readDogs_1 ?_
  refine g_if_eq C (tgt := 13) dX9_readDogs_4 (by decide) (fun h_3 => ?_) (fun h_3 => ?_)
  · skip
    have r_4 := (⟨(rx_2).1, (eq_rg (h_3) rc_0).2⟩ : Rg 0 0 x_2)
    refine g_aload_n C 0 dX9_readDogs_13 rfl rfl ?_
    refine g_iconst C (v := 1) dX9_readDogs_14 (by decide) ?_
    refine h_putZ C K hLx hkx f_9_31 p_9_3 (rg_bool (rg_w rc_1 (by decide) (by decide))) dX9_readDogs_15 (fun I_5 hI_5 => ?_)
    have hU_6 := iv_put W9 hU hI_5 (ro_o hkx (by decide)) (lo := 0) (hi := 1) (rfl) (rg_w rc_1 (by decide) (by decide)) rfl
    have hF_7 := fq_puto hF hI_5 hkx (by decide) (by decide)
    refine g_aload_n C 1 dX9_readDogs_18 rfl rfl ?_
    refine g_callVV C K (c_X10_advance W9 hLa0 hka0   hU_6) hLa0 hka0 (by decide) rfl v_9_82 rfl ⟨rfl, rfl⟩ ⟨Nat.le_of_ble_eq_true rfl, Nat.le_of_ble_eq_true rfl⟩ (Nat.le_of_ble_eq_true rfl) ⟨Nat.le_of_ble_eq_true rfl, Nat.le_of_ble_eq_true rfl⟩ dX9_readDogs_19 rfl (st := []) (fun I_9 J_10 h_11 => ?_)
    obtain ⟨hUI_9, hFI_9, hGJ_10⟩ := h_11
    have hF_12 := fq_tr hF_7 hFI_9 (by decide)
    have hG_13 := fq_tr hG hGJ_10 (by decide)
    refine g_aload_n C 0 dX9_readDogs_22 rfl rfl ?_
    refine g_getR C K hLx hkx f_9_12 hb_1 dX9_readDogs_23 ?_
    refine g_aload_n C 1 dX9_readDogs_26 rfl rfl ?_
    refine g_iconst C (v := 0) dX9_readDogs_27 (by decide) ?_
    refine g_bipush C (v := 9) dX9_readDogs_28 (by decide) ?_
    refine g_callVI C K (c_X10_takeNumber W9 hLa0 hka0 0 9 (rg_w rc_0 (by decide) (by decide)) (rg_w rc_9 (by decide) (by decide)) hUI_9) hLa0 hka0 (by decide) rfl v_9_91 rfl ⟨rfl, rfl⟩ ⟨Nat.le_of_ble_eq_true rfl, Nat.le_of_ble_eq_true rfl⟩ (Nat.le_of_ble_eq_true rfl) ⟨Nat.le_of_ble_eq_true rfl, Nat.le_of_ble_eq_true rfl⟩ dX9_readDogs_30 rfl (st := [.ref b_1]) (fun x_14 I_15 J_16 h_17 => ?_)
    obtain ⟨hUI_15, hFI_15, hGJ_16, rx_14⟩ := h_17
    have hF_18 := fq_tr hF_12 hFI_15 (by decide)
    have hG_19 := fq_tr hG_13 hGJ_16 (by decide)
    refine h_putI C K hb_1L hb_1k f_9_135 p_8_8 dX9_readDogs_33 (fun I_20 hI_20 => ?_)
    have hU_21 := iv_put W9 hUI_15 hI_20 (ro_o hb_1k (by decide)) (lo := (-2147483648)) (hi := 2147483647) (rfl) (rx_14) rfl
    have hF_22 := fq_puto hF_18 hI_20 hb_1k (by decide) (by decide)
    refine g_aload_n C 0 dX9_readDogs_36 rfl rfl ?_
    refine g_getR C K hLx hkx f_9_12 hb_1 dX9_readDogs_37 ?_
    refine g_getI C K hb_1L hb_1k f_9_135 (v := x_14) (kp_s hI_20) dX9_readDogs_40 ?_
    refine g_iconst C (v := (-1)) dX9_readDogs_43 (by decide) ?_
    refine g_icmp_eq C (tgt := 60) dX9_readDogs_44 (by decide) (fun h_23 => ?_) (fun h_23 => ?_)
    · skip
      have r_24 := (⟨(eq_rg (h_23) rc_m1).1, (eq_rg (h_23) rc_m1).2⟩ : Rg (-1) (-1) x_14)
      refine g_iconst C (v := 0) dX9_readDogs_60 (by decide) ?_
      exact g_zret (ty := .boolean) (r := 0) B K rfl (rfl) ⟨hU_21, hF_22, hG_19, rg_w rc_0 (by decide) (by decide)⟩ dX9_readDogs_61
    · skip
      have n_25 : ¬ x_14 = (-1) := h_23
      refine g_aload_n C 1 dX9_readDogs_47 rfl rfl ?_
      refine g_bipush C (v := 59) dX9_readDogs_48 (by decide) ?_
      refine g_callVI C K (c_X10_take W9 hLa0 hka0 59 (rg_w rc_59 (by decide) (by decide)) hU_21) hLa0 hka0 (by decide) rfl v_9_110 rfl ⟨rfl, rfl⟩ ⟨Nat.le_of_ble_eq_true rfl, Nat.le_of_ble_eq_true rfl⟩ (Nat.le_of_ble_eq_true rfl) ⟨Nat.le_of_ble_eq_true rfl, Nat.le_of_ble_eq_true rfl⟩ dX9_readDogs_50 rfl (st := []) (fun x_26 I_27 J_28 h_29 => ?_)
      obtain ⟨hUI_27, hFI_27, hGJ_28, rx_26⟩ := h_29
      have hF_30 := fq_tr hF_22 hFI_27 (by decide)
      have hG_31 := fq_tr hG_19 hGJ_28 (by decide)
      refine g_if_eq C (tgt := 60) dX9_readDogs_53 (by decide) (fun h_32 => ?_) (fun h_32 => ?_)
      · skip
        have r_33 := (⟨(rx_26).1, (eq_rg (h_32) rc_0).2⟩ : Rg 0 0 x_26)
        refine g_iconst C (v := 0) dX9_readDogs_60 (by decide) ?_
        exact g_zret (ty := .boolean) (r := 0) B K rfl (rfl) ⟨hUI_27, hF_30, hG_31, rg_w rc_0 (by decide) (by decide)⟩ dX9_readDogs_61
      · skip
        have n_34 : ¬ x_26 = 0 := h_32
        have r_35 := ne_lo (lo := 1) n_34 rx_26 rc_0 rfl (by decide)
        refine g_iconst C (v := 1) dX9_readDogs_56 (by decide) ?_
        refine g_goto C (tgt := 61) dX9_readDogs_57 (by decide) ?_
        exact g_zret (ty := .boolean) (r := 1) B K rfl (rfl) ⟨hUI_27, hF_30, hG_31, rg_w rc_1 (by decide) (by decide)⟩ dX9_readDogs_61
  · skip
    have n_36 : ¬ x_2 = 0 := h_3
    have r_37 := ne_lo (lo := 1) n_36 rx_2 rc_0 rfl (by decide)
    refine g_aload_n C 1 dX9_readDogs_7 rfl rfl ?_
    refine g_iconst C (v := 3) dX9_readDogs_8 (by decide) ?_
    refine g_callVI C K (c_X10_fail W9 hLa0 hka0 3 (rg_w rc_3 (by decide) (by decide)) hU) hLa0 hka0 (by decide) rfl v_9_67 rfl ⟨rfl, rfl⟩ ⟨Nat.le_of_ble_eq_true rfl, Nat.le_of_ble_eq_true rfl⟩ (Nat.le_of_ble_eq_true rfl) ⟨Nat.le_of_ble_eq_true rfl, Nat.le_of_ble_eq_true rfl⟩ dX9_readDogs_9 rfl (st := []) (fun x_38 I_39 J_40 h_41 => ?_)
    obtain ⟨hUI_39, hFI_39, hGJ_40, rx_38⟩ := h_41
    have hF_42 := fq_tr hF hFI_39 (by decide)
    have hG_43 := fq_tr hG hGJ_40 (by decide)
    exact g_zret (ty := .boolean) (r := x_38) B K rfl (nar_z (rg_w rx_38 (by decide) (by decide))) ⟨hUI_39, hF_42, hG_43, rg_w rx_38 (by decide) (by decide)⟩ dX9_readDogs_12
set_option maxRecDepth 100000 in
set_option maxHeartbeats 8000000 in
theorem c_X9_readLaw {l : Launch} {D : va_G} {cy : Nat → ClassId} {L : List Nat} {κ ln : Nat → Nat} {R : Nat → Nat → Option Nat} {I : Nat → Nat → Int32} {J : Nat → Nat → Int64} {ow : Nat → Nat × Nat} (W9 : ∀ a ∈ L, Shp L κ ln R ow a) {x : Nat} (hLx : x ∈ L) (hkx : κ x = 9) {a0 : Nat} (hLa0 : a0 ∈ L) (hka0 : κ a0 = 10) (hU : Iv L κ R ow I) : CtI l yX9_readLaw cX9_readLaw 2 (some .boolean) { frames := 2, cells := 0, slots := 0, locals := 42 } D cy L κ ln R I J [.ref x, .ref a0] (fun r I2 J2 => Iv L κ R ow I2 ∧ Fq L κ ow [807, 902, 1007, 1008, 1009, 1011, 1012] I I2 ∧ Fq L κ ow [1010] J J2 ∧ Rg 0 1 r) := by
  refine CtI.of (by decide +kernel) (Nat.le_of_ble_eq_true rfl) ?_
  intro p e s m below meth c B K
  have C := B.1
  have hF : Fq L κ ow [807, 902, 1007, 1008, 1009, 1011, 1012] I I := fq_rf
  have hG : Fq L κ ow [1010] J J := fq_rf
  obtain ⟨b_1, hb_1, hb_1L, hb_1k⟩ := shp_o (W9 x hLx) hkx 0 8 rfl (by decide)
  refine g_lo (is := [0, 1]) (lo2 := [(0, .ref x), (1, .ref a0)]) rfl ?_
  have j_88 : ∀ (I_2 : Nat → Nat → Int32) (J_3 : Nat → Nat → Int64) (hU_4 : Iv L κ R ow I_2) (hF_5 : Fq L κ ow [807, 902, 1007, 1008, 1009, 1011, 1012] I I_2) (hG_6 : Fq L κ ow [1010] J J_3) (v_7 : Int32) (rv_7 : Rg 7 9 v_7) (v_8 : Int32) (rv_8 : Rg 0 2 v_8) (q_9 : I_2 a0 8 = v_7) (q_10 : I_2 x 2 = 1) (q_11 : I_2 b_1 7 = v_8), WG p l e { frames := 2, cells := 0, slots := 0, locals := 42 } s m ([.ref x, .ref a0] : List Value).toArray below meth c 2 0 0 (MQ below (Qi_ D cy L κ ln R (fun r I2 J2 => Iv L κ R ow I2 ∧ Fq L κ ow [807, 902, 1007, 1008, 1009, 1011, 1012] I I2 ∧ Fq L κ ow [1010] J J2 ∧ Rg 0 1 r)) ([.ref x, .ref a0] : List Value).toArray s 0 0 (Al_ L)) D cy (Al_ L) s.heap L κ ln R I_2 J_3 88 [(0, .ref x), (1, .ref a0)] [] := by
    intro I_2 J_3 hU_4 hF_5 hG_6 v_7 rv_7 v_8 rv_8 q_9 q_10 q_11
    refine g_aload_n C 1 dX9_readLaw_88 rfl rfl ?_
    refine g_callVV C K (c_X10_advance W9 hLa0 hka0   hU_4) hLa0 hka0 (by decide) rfl v_9_82 rfl ⟨rfl, rfl⟩ ⟨Nat.le_of_ble_eq_true rfl, Nat.le_of_ble_eq_true rfl⟩ (Nat.le_of_ble_eq_true rfl) ⟨Nat.le_of_ble_eq_true rfl, Nat.le_of_ble_eq_true rfl⟩ dX9_readLaw_89 rfl (st := []) (fun I_13 J_14 h_15 => ?_)
    obtain ⟨hUI_13, hFI_13, hGJ_14⟩ := h_15
    have hF_16 := fq_tr hF_5 hFI_13 (by decide)
    have hG_17 := fq_tr hG_6 hGJ_14 (by decide)
    refine g_aload_n C 1 dX9_readLaw_92 rfl rfl ?_
    refine g_bipush C (v := 59) dX9_readLaw_93 (by decide) ?_
    refine g_callVI C K (c_X10_take W9 hLa0 hka0 59 (rg_w rc_59 (by decide) (by decide)) hUI_13) hLa0 hka0 (by decide) rfl v_9_110 rfl ⟨rfl, rfl⟩ ⟨Nat.le_of_ble_eq_true rfl, Nat.le_of_ble_eq_true rfl⟩ (Nat.le_of_ble_eq_true rfl) ⟨Nat.le_of_ble_eq_true rfl, Nat.le_of_ble_eq_true rfl⟩ dX9_readLaw_95 rfl (st := []) (fun x_18 I_19 J_20 h_21 => ?_)
    obtain ⟨hUI_19, hFI_19, hGJ_20, rx_18⟩ := h_21
    have hF_22 := fq_tr hF_16 hFI_19 (by decide)
    have hG_23 := fq_tr hG_17 hGJ_20 (by decide)
    exact g_zret (ty := .boolean) (r := x_18) B K rfl (nar_z (rx_18)) ⟨hUI_19, hF_22, hG_23, rx_18⟩ dX9_readLaw_98
  refine g_aload_n C 0 dX9_readLaw_0 rfl rfl ?_
  obtain ⟨x_24, hx_24, rx_24⟩ := ex_get (I := I) (a := x) (j := 2) (lo := 0) (hi := 1) hU.1 hLx (ro_o hkx (by decide)) rfl
  refine g_getI C K hLx hkx f_9_27 (v := x_24) hx_24 dX9_readLaw_1 ?_
  refine g_if_eq C (tgt := 13) dX9_readLaw_4 (by decide) (fun h_25 => ?_) (fun h_25 => ?_)
  · skip
    have r_26 := (⟨(rx_24).1, (eq_rg (h_25) rc_0).2⟩ : Rg 0 0 x_24)
    refine g_aload_n C 0 dX9_readLaw_13 rfl rfl ?_
    refine g_iconst C (v := 1) dX9_readLaw_14 (by decide) ?_
    refine h_putZ C K hLx hkx f_9_27 p_9_2 (rg_bool (rg_w rc_1 (by decide) (by decide))) dX9_readLaw_15 (fun I_27 hI_27 => ?_)
    have hU_28 := iv_put W9 hU hI_27 (ro_o hkx (by decide)) (lo := 0) (hi := 1) (rfl) (rg_w rc_1 (by decide) (by decide)) rfl
    have hF_29 := fq_puto hF hI_27 hkx (by decide) (by decide)
    refine g_aload_n C 1 dX9_readLaw_18 rfl rfl ?_
    refine g_callVV C K (c_X10_advance W9 hLa0 hka0   hU_28) hLa0 hka0 (by decide) rfl v_9_82 rfl ⟨rfl, rfl⟩ ⟨Nat.le_of_ble_eq_true rfl, Nat.le_of_ble_eq_true rfl⟩ (Nat.le_of_ble_eq_true rfl) ⟨Nat.le_of_ble_eq_true rfl, Nat.le_of_ble_eq_true rfl⟩ dX9_readLaw_19 rfl (st := []) (fun I_31 J_32 h_33 => ?_)
    obtain ⟨hUI_31, hFI_31, hGJ_32⟩ := h_33
    have hF_34 := fq_tr hF_29 hFI_31 (by decide)
    have hG_35 := fq_tr hG hGJ_32 (by decide)
    refine g_aload_n C 1 dX9_readLaw_22 rfl rfl ?_
    obtain ⟨x_36, hx_36, rx_36⟩ := ex_get (I := I_31) (a := a0) (j := 8) (lo := (-2147483648)) (hi := 2147483647) hUI_31.1 hLa0 (ro_o hka0 (by decide)) rfl
    refine g_getI C K hLa0 hka0 f_9_44 (v := x_36) hx_36 dX9_readLaw_23 ?_
    refine g_bipush C (v := 7) dX9_readLaw_26 (by decide) ?_
    refine g_icmp_ne C (tgt := 42) dX9_readLaw_28 (by decide) (fun h_37 => ?_) (fun h_37 => ?_)
    · skip
      have n_38 : ¬ x_36 = 7 := h_37
      refine g_aload_n C 1 dX9_readLaw_42 rfl rfl ?_
      refine g_getI C K hLa0 hka0 f_9_44 (v := x_36) hx_36 dX9_readLaw_43 ?_
      refine g_bipush C (v := 8) dX9_readLaw_46 (by decide) ?_
      refine g_icmp_ne C (tgt := 62) dX9_readLaw_48 (by decide) (fun h_39 => ?_) (fun h_39 => ?_)
      · skip
        have n_40 : ¬ x_36 = 8 := h_39
        refine g_aload_n C 1 dX9_readLaw_62 rfl rfl ?_
        refine g_getI C K hLa0 hka0 f_9_44 (v := x_36) hx_36 dX9_readLaw_63 ?_
        refine g_bipush C (v := 9) dX9_readLaw_66 (by decide) ?_
        refine g_icmp_ne C (tgt := 82) dX9_readLaw_68 (by decide) (fun h_41 => ?_) (fun h_41 => ?_)
        · skip
          have n_42 : ¬ x_36 = 9 := h_41
          refine g_aload_n C 1 dX9_readLaw_82 rfl rfl ?_
          refine g_iconst C (v := 1) dX9_readLaw_83 (by decide) ?_
          refine g_callVI C K (c_X10_fail W9 hLa0 hka0 1 (rg_w rc_1 (by decide) (by decide)) hUI_31) hLa0 hka0 (by decide) rfl v_9_67 rfl ⟨rfl, rfl⟩ ⟨Nat.le_of_ble_eq_true rfl, Nat.le_of_ble_eq_true rfl⟩ (Nat.le_of_ble_eq_true rfl) ⟨Nat.le_of_ble_eq_true rfl, Nat.le_of_ble_eq_true rfl⟩ dX9_readLaw_84 rfl (st := []) (fun x_43 I_44 J_45 h_46 => ?_)
          obtain ⟨hUI_44, hFI_44, hGJ_45, rx_43⟩ := h_46
          have hF_47 := fq_tr hF_34 hFI_44 (by decide)
          have hG_48 := fq_tr hG_35 hGJ_45 (by decide)
          exact g_zret (ty := .boolean) (r := x_43) B K rfl (nar_z (rg_w rx_43 (by decide) (by decide))) ⟨hUI_44, hF_47, hG_48, rg_w rx_43 (by decide) (by decide)⟩ dX9_readLaw_87
        · skip
          have r_49 := (⟨(eq_rg (h_41) rc_9).1, (eq_rg (h_41) rc_9).2⟩ : Rg 9 9 x_36)
          refine g_aload_n C 0 dX9_readLaw_71 rfl rfl ?_
          refine g_getR C K hLx hkx f_9_12 hb_1 dX9_readLaw_72 ?_
          refine g_iconst C (v := 2) dX9_readLaw_75 (by decide) ?_
          refine h_putI C K hb_1L hb_1k f_9_132 p_8_7 dX9_readLaw_76 (fun I_50 hI_50 => ?_)
          have hU_51 := iv_put W9 hUI_31 hI_50 (ro_o hb_1k (by decide)) (lo := (-2147483648)) (hi := 2147483647) (rfl) (rg_all _) rfl
          have hF_52 := fq_puto hF_34 hI_50 hb_1k (by decide) (by decide)
          refine g_goto C (tgt := 88) dX9_readLaw_79 (by decide) ?_
          refine g_lo (is := [0, 1]) (lo2 := [(0, .ref x), (1, .ref a0)]) rfl ?_
          exact j_88 I_50 J_32 hU_51 hF_52 hG_35 x_36 (rg_w r_49 (by decide) (by decide)) 2 (rg_w rc_2 (by decide) (by decide)) (kp_k (κ := κ) hI_50 (by rw [hka0, hb_1k]; decide) hx_36) (kp_k (κ := κ) hI_50 (by rw [hkx, hb_1k]; decide) (fq_at hFI_31 hLx hkx (by decide) (by decide) (kp_s hI_27))) (kp_s hI_50)
      · skip
        have r_53 := (⟨(eq_rg (h_39) rc_8).1, (eq_rg (h_39) rc_8).2⟩ : Rg 8 8 x_36)
        refine g_aload_n C 0 dX9_readLaw_51 rfl rfl ?_
        refine g_getR C K hLx hkx f_9_12 hb_1 dX9_readLaw_52 ?_
        refine g_iconst C (v := 1) dX9_readLaw_55 (by decide) ?_
        refine h_putI C K hb_1L hb_1k f_9_132 p_8_7 dX9_readLaw_56 (fun I_54 hI_54 => ?_)
        have hU_55 := iv_put W9 hUI_31 hI_54 (ro_o hb_1k (by decide)) (lo := (-2147483648)) (hi := 2147483647) (rfl) (rg_all _) rfl
        have hF_56 := fq_puto hF_34 hI_54 hb_1k (by decide) (by decide)
        refine g_goto C (tgt := 88) dX9_readLaw_59 (by decide) ?_
        refine g_lo (is := [0, 1]) (lo2 := [(0, .ref x), (1, .ref a0)]) rfl ?_
        exact j_88 I_54 J_32 hU_55 hF_56 hG_35 x_36 (rg_w r_53 (by decide) (by decide)) 1 (rg_w rc_1 (by decide) (by decide)) (kp_k (κ := κ) hI_54 (by rw [hka0, hb_1k]; decide) hx_36) (kp_k (κ := κ) hI_54 (by rw [hkx, hb_1k]; decide) (fq_at hFI_31 hLx hkx (by decide) (by decide) (kp_s hI_27))) (kp_s hI_54)
    · skip
      have r_57 := (⟨(eq_rg (h_37) rc_7).1, (eq_rg (h_37) rc_7).2⟩ : Rg 7 7 x_36)
      refine g_aload_n C 0 dX9_readLaw_31 rfl rfl ?_
      refine g_getR C K hLx hkx f_9_12 hb_1 dX9_readLaw_32 ?_
      refine g_iconst C (v := 0) dX9_readLaw_35 (by decide) ?_
      refine h_putI C K hb_1L hb_1k f_9_132 p_8_7 dX9_readLaw_36 (fun I_58 hI_58 => ?_)
      have hU_59 := iv_put W9 hUI_31 hI_58 (ro_o hb_1k (by decide)) (lo := (-2147483648)) (hi := 2147483647) (rfl) (rg_all _) rfl
      have hF_60 := fq_puto hF_34 hI_58 hb_1k (by decide) (by decide)
      refine g_goto C (tgt := 88) dX9_readLaw_39 (by decide) ?_
      refine g_lo (is := [0, 1]) (lo2 := [(0, .ref x), (1, .ref a0)]) rfl ?_
      exact j_88 I_58 J_32 hU_59 hF_60 hG_35 x_36 (rg_w r_57 (by decide) (by decide)) 0 (rg_w rc_0 (by decide) (by decide)) (kp_k (κ := κ) hI_58 (by rw [hka0, hb_1k]; decide) hx_36) (kp_k (κ := κ) hI_58 (by rw [hkx, hb_1k]; decide) (fq_at hFI_31 hLx hkx (by decide) (by decide) (kp_s hI_27))) (kp_s hI_58)
  · skip
    have n_61 : ¬ x_24 = 0 := h_25
    have r_62 := ne_lo (lo := 1) n_61 rx_24 rc_0 rfl (by decide)
    refine g_aload_n C 1 dX9_readLaw_7 rfl rfl ?_
    refine g_iconst C (v := 3) dX9_readLaw_8 (by decide) ?_
    refine g_callVI C K (c_X10_fail W9 hLa0 hka0 3 (rg_w rc_3 (by decide) (by decide)) hU) hLa0 hka0 (by decide) rfl v_9_67 rfl ⟨rfl, rfl⟩ ⟨Nat.le_of_ble_eq_true rfl, Nat.le_of_ble_eq_true rfl⟩ (Nat.le_of_ble_eq_true rfl) ⟨Nat.le_of_ble_eq_true rfl, Nat.le_of_ble_eq_true rfl⟩ dX9_readLaw_9 rfl (st := []) (fun x_63 I_64 J_65 h_66 => ?_)
    obtain ⟨hUI_64, hFI_64, hGJ_65, rx_63⟩ := h_66
    have hF_67 := fq_tr hF hFI_64 (by decide)
    have hG_68 := fq_tr hG hGJ_65 (by decide)
    exact g_zret (ty := .boolean) (r := x_63) B K rfl (nar_z (rg_w rx_63 (by decide) (by decide))) ⟨hUI_64, hF_67, hG_68, rg_w rx_63 (by decide) (by decide)⟩ dX9_readLaw_12
set_option maxRecDepth 100000 in
set_option maxHeartbeats 8000000 in
theorem c_X10_takeName {l : Launch} {D : va_G} {cy : Nat → ClassId} {L : List Nat} {κ ln : Nat → Nat} {R : Nat → Nat → Option Nat} {I : Nat → Nat → Int32} {J : Nat → Nat → Int64} {ow : Nat → Nat × Nat} (W9 : ∀ a ∈ L, Shp L κ ln R ow a) {x : Nat} (hLx : x ∈ L) (hkx : κ x = 10) (a0 : Int32) (ra0 : Rg (-1) 6 a0) (hU : Iv L κ R ow I) : CtI l yX10_takeName cX10_takeName 2 (some .int) { frames := 1, cells := 0, slots := 0, locals := 21 } D cy L κ ln R I J [.ref x, .int a0] (fun r I2 J2 => Iv L κ R ow I2 ∧ Fq L κ ow [1007, 1008, 1009, 1011, 1012] I I2 ∧ Fq L κ ow [1010] J J2 ∧ Rg (-1) 6 r ∧ (r = (-1) ∨ r = a0)) := by
  refine CtI.of (by decide +kernel) (Nat.le_of_ble_eq_true rfl) ?_
  intro p e s m below meth c B K
  have C := B.1
  have hF : Fq L κ ow [1007, 1008, 1009, 1011, 1012] I I := fq_rf
  have hG : Fq L κ ow [1010] J J := fq_rf
  refine g_lo (is := [0, 1]) (lo2 := [(0, .ref x), (1, .int a0)]) rfl ?_
  refine g_aload_n C 0 dX10_takeName_0 rfl rfl ?_
  obtain ⟨x_1, hx_1, rx_1⟩ := ex_get (I := I) (a := x) (j := 8) (lo := (-2147483648)) (hi := 2147483647) hU.1 hLx (ro_o hkx (by decide)) rfl
  refine g_getI C K hLx hkx f_10_39 (v := x_1) hx_1 dX10_takeName_1 ?_
  refine g_bipush C (v := 100) dX10_takeName_4 (by decide) ?_
  refine g_icmp_eq C (tgt := 17) dX10_takeName_6 (by decide) (fun h_2 => ?_) (fun h_2 => ?_)
  · skip
    have r_3 := (⟨(eq_rg (h_2) rc_100).1, (eq_rg (h_2) rc_100).2⟩ : Rg 100 100 x_1)
    refine g_iload_n C 1 dX10_takeName_17 rfl rfl ?_
    refine g_iconst C (v := (-1)) dX10_takeName_18 (by decide) ?_
    refine g_icmp_ne C (tgt := 30) dX10_takeName_19 (by decide) (fun h_4 => ?_) (fun h_4 => ?_)
    · skip
      have n_5 : ¬ a0 = (-1) := h_4
      have r_6 := ne_lo (lo := 0) n_5 ra0 rc_m1 rfl (by decide)
      refine g_aload_n C 0 dX10_takeName_30 rfl rfl ?_
      refine g_callVV C K (c_X10_advance W9 hLx hkx   hU) hLx hkx (by decide) rfl v_10_84 rfl ⟨rfl, rfl⟩ ⟨Nat.le_of_ble_eq_true rfl, Nat.le_of_ble_eq_true rfl⟩ (Nat.le_of_ble_eq_true rfl) ⟨Nat.le_of_ble_eq_true rfl, Nat.le_of_ble_eq_true rfl⟩ dX10_takeName_31 rfl (st := []) (fun I_8 J_9 h_10 => ?_)
      obtain ⟨hUI_8, hFI_8, hGJ_9⟩ := h_10
      have hF_11 := fq_tr hF hFI_8 (by decide)
      have hG_12 := fq_tr hG hGJ_9 (by decide)
      refine g_iload_n C 1 dX10_takeName_34 rfl rfl ?_
      exact g_zret (ty := .int) (r := a0) B K rfl (rfl) ⟨hUI_8, hF_11, hG_12, rg_w r_6 (by decide) (by decide), (Or.inr rfl)⟩ dX10_takeName_35
    · skip
      have r_13 := (⟨(ra0).1, (eq_rg (h_4) rc_m1).2⟩ : Rg (-1) (-1) a0)
      refine g_aload_n C 0 dX10_takeName_22 rfl rfl ?_
      refine g_iconst C (v := 3) dX10_takeName_23 (by decide) ?_
      refine g_callVI C K (c_X10_fail W9 hLx hkx 3 (rg_w rc_3 (by decide) (by decide)) hU) hLx hkx (by decide) rfl v_10_101 rfl ⟨rfl, rfl⟩ ⟨Nat.le_of_ble_eq_true rfl, Nat.le_of_ble_eq_true rfl⟩ (Nat.le_of_ble_eq_true rfl) ⟨Nat.le_of_ble_eq_true rfl, Nat.le_of_ble_eq_true rfl⟩ dX10_takeName_24 rfl (st := []) (fun x_14 I_15 J_16 h_17 => ?_)
      obtain ⟨hUI_15, hFI_15, hGJ_16, rx_14⟩ := h_17
      have hF_18 := fq_tr hF hFI_15 (by decide)
      have hG_19 := fq_tr hG hGJ_16 (by decide)
      refine g_pop C dX10_takeName_27 rfl ?_
      refine g_iconst C (v := (-1)) dX10_takeName_28 (by decide) ?_
      exact g_zret (ty := .int) (r := (-1)) B K rfl (rfl) ⟨hUI_15, hF_18, hG_19, rg_w rc_m1 (by decide) (by decide), (Or.inl rfl)⟩ dX10_takeName_29
  · skip
    have n_20 : ¬ x_1 = 100 := h_2
    refine g_aload_n C 0 dX10_takeName_9 rfl rfl ?_
    refine g_iconst C (v := 1) dX10_takeName_10 (by decide) ?_
    refine g_callVI C K (c_X10_fail W9 hLx hkx 1 (rg_w rc_1 (by decide) (by decide)) hU) hLx hkx (by decide) rfl v_10_101 rfl ⟨rfl, rfl⟩ ⟨Nat.le_of_ble_eq_true rfl, Nat.le_of_ble_eq_true rfl⟩ (Nat.le_of_ble_eq_true rfl) ⟨Nat.le_of_ble_eq_true rfl, Nat.le_of_ble_eq_true rfl⟩ dX10_takeName_11 rfl (st := []) (fun x_21 I_22 J_23 h_24 => ?_)
    obtain ⟨hUI_22, hFI_22, hGJ_23, rx_21⟩ := h_24
    have hF_25 := fq_tr hF hFI_22 (by decide)
    have hG_26 := fq_tr hG hGJ_23 (by decide)
    refine g_pop C dX10_takeName_14 rfl ?_
    refine g_iconst C (v := (-1)) dX10_takeName_15 (by decide) ?_
    exact g_zret (ty := .int) (r := (-1)) B K rfl (rfl) ⟨hUI_22, hF_25, hG_26, rg_w rc_m1 (by decide) (by decide), (Or.inl rfl)⟩ dX10_takeName_16
