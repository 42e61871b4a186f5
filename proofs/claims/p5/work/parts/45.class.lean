theorem dX10_begin_0 : decode cX10_begin 0 = .ok (.aload_n 0, 1) := by decide +kernel
theorem dX10_begin_1 : decode cX10_begin 1 = .ok (.getfield 29, 3) := by decide +kernel
theorem dX10_begin_4 : decode cX10_begin 4 = .ok (.iload_n 1, 1) := by decide +kernel
theorem dX10_begin_5 : decode cX10_begin 5 = .ok (.invokestatic 70, 3) := by decide +kernel
theorem dX10_begin_8 : decode cX10_begin 8 = .ok (.aload_n 0, 1) := by decide +kernel
theorem dX10_begin_9 : decode cX10_begin 9 = .ok (.getfield 9, 3) := by decide +kernel
theorem dX10_begin_12 : decode cX10_begin 12 = .ok (.arraylength, 1) := by decide +kernel
theorem dX10_begin_13 : decode cX10_begin 13 = .ok (.invokestatic 70, 3) := by decide +kernel
theorem dX10_begin_16 : decode cX10_begin 16 = .ok (.istore_n 2, 1) := by decide +kernel
theorem dX10_begin_17 : decode cX10_begin 17 = .ok (.iconst 0, 1) := by decide +kernel
theorem dX10_begin_18 : decode cX10_begin 18 = .ok (.istore_n 3, 1) := by decide +kernel
theorem dX10_begin_19 : decode cX10_begin 19 = .ok (.aload_n 0, 1) := by decide +kernel
theorem dX10_begin_20 : decode cX10_begin 20 = .ok (.iconst 0, 1) := by decide +kernel
theorem dX10_begin_21 : decode cX10_begin 21 = .ok (.putfield 33, 3) := by decide +kernel
theorem dX10_begin_24 : decode cX10_begin 24 = .ok (.iconst 0, 1) := by decide +kernel
theorem dX10_begin_25 : decode cX10_begin 25 = .ok (.istore 4, 2) := by decide +kernel
theorem dX10_begin_27 : decode cX10_begin 27 = .ok (.iload 4, 2) := by decide +kernel
theorem dX10_begin_29 : decode cX10_begin 29 = .ok (.iload_n 2, 1) := by decide +kernel
theorem dX10_begin_30 : decode cX10_begin 30 = .ok (.if_icmp .ge 46, 3) := by decide +kernel
theorem dX10_begin_33 : decode cX10_begin 33 = .ok (.iload 4, 2) := by decide +kernel
theorem dX10_begin_35 : decode cX10_begin 35 = .ok (.iload_n 3, 1) := by decide +kernel
theorem dX10_begin_36 : decode cX10_begin 36 = .ok (.if_icmp .lt 34, 3) := by decide +kernel
theorem dX10_begin_39 : decode cX10_begin 39 = .ok (.aload_n 0, 1) := by decide +kernel
theorem dX10_begin_40 : decode cX10_begin 40 = .ok (.getfield 9, 3) := by decide +kernel
theorem dX10_begin_43 : decode cX10_begin 43 = .ok (.iload 4, 2) := by decide +kernel
theorem dX10_begin_45 : decode cX10_begin 45 = .ok (.baload, 1) := by decide +kernel
theorem dX10_begin_46 : decode cX10_begin 46 = .ok (.bipush 32, 2) := by decide +kernel
theorem dX10_begin_48 : decode cX10_begin 48 = .ok (.if_icmp .eq 22, 3) := by decide +kernel
theorem dX10_begin_51 : decode cX10_begin 51 = .ok (.aload_n 0, 1) := by decide +kernel
theorem dX10_begin_52 : decode cX10_begin 52 = .ok (.getfield 9, 3) := by decide +kernel
theorem dX10_begin_55 : decode cX10_begin 55 = .ok (.iload 4, 2) := by decide +kernel
theorem dX10_begin_57 : decode cX10_begin 57 = .ok (.baload, 1) := by decide +kernel
theorem dX10_begin_58 : decode cX10_begin 58 = .ok (.bipush 10, 2) := by decide +kernel
theorem dX10_begin_60 : decode cX10_begin 60 = .ok (.if_icmp .eq 10, 3) := by decide +kernel
theorem dX10_begin_63 : decode cX10_begin 63 = .ok (.aload_n 0, 1) := by decide +kernel
theorem dX10_begin_64 : decode cX10_begin 64 = .ok (.iload 4, 2) := by decide +kernel
theorem dX10_begin_66 : decode cX10_begin 66 = .ok (.invokevirtual 76, 3) := by decide +kernel
theorem dX10_begin_69 : decode cX10_begin 69 = .ok (.istore_n 3, 1) := by decide +kernel
theorem dX10_begin_70 : decode cX10_begin 70 = .ok (.iinc 4 1, 3) := by decide +kernel
theorem dX10_begin_73 : decode cX10_begin 73 = .ok (.goto (-46), 3) := by decide +kernel
theorem dX10_begin_76 : decode cX10_begin 76 = .ok (.aload_n 0, 1) := by decide +kernel
theorem dX10_begin_77 : decode cX10_begin 77 = .ok (.aload_n 0, 1) := by decide +kernel
theorem dX10_begin_78 : decode cX10_begin 78 = .ok (.getfield 29, 3) := by decide +kernel
theorem dX10_begin_81 : decode cX10_begin 81 = .ok (.iload_n 1, 1) := by decide +kernel
theorem dX10_begin_82 : decode cX10_begin 82 = .ok (.if_icmp .le 8, 3) := by decide +kernel
theorem dX10_begin_85 : decode cX10_begin 85 = .ok (.bipush 103, 2) := by decide +kernel
theorem dX10_begin_87 : decode cX10_begin 87 = .ok (.goto 5, 3) := by decide +kernel
theorem dX10_begin_90 : decode cX10_begin 90 = .ok (.bipush 102, 2) := by decide +kernel
theorem dX10_begin_92 : decode cX10_begin 92 = .ok (.iload_n 2, 1) := by decide +kernel
theorem dX10_begin_93 : decode cX10_begin 93 = .ok (.lconst 0, 1) := by decide +kernel
theorem dX10_begin_94 : decode cX10_begin 94 = .ok (.invokevirtual 80, 3) := by decide +kernel
theorem dX10_begin_97 : decode cX10_begin 97 = .ok (.aload_n 0, 1) := by decide +kernel
theorem dX10_begin_98 : decode cX10_begin 98 = .ok (.iconst 0, 1) := by decide +kernel
theorem dX10_begin_99 : decode cX10_begin 99 = .ok (.putfield 49, 3) := by decide +kernel
theorem dX10_begin_102 : decode cX10_begin 102 = .ok (.aload_n 0, 1) := by decide +kernel
theorem dX10_begin_103 : decode cX10_begin 103 = .ok (.iconst 0, 1) := by decide +kernel
theorem dX10_begin_104 : decode cX10_begin 104 = .ok (.putfield 52, 3) := by decide +kernel
theorem dX10_begin_107 : decode cX10_begin 107 = .ok (.aload_n 0, 1) := by decide +kernel
theorem dX10_begin_108 : decode cX10_begin 108 = .ok (.iconst (-1), 1) := by decide +kernel
theorem dX10_begin_109 : decode cX10_begin 109 = .ok (.putfield 36, 3) := by decide +kernel
theorem dX10_begin_112 : decode cX10_begin 112 = .ok (.aload_n 0, 1) := by decide +kernel
theorem dX10_begin_113 : decode cX10_begin 113 = .ok (.invokevirtual 84, 3) := by decide +kernel
theorem dX10_begin_116 : decode cX10_begin 116 = .ok (.return_, 1) := by decide +kernel
theorem dX10_fail_0 : decode cX10_fail 0 = .ok (.aload_n 0, 1) := by decide +kernel
theorem dX10_fail_1 : decode cX10_fail 1 = .ok (.getfield 49, 3) := by decide +kernel
theorem dX10_fail_4 : decode cX10_fail 4 = .ok (.ifCond .ne 16, 3) := by decide +kernel
theorem dX10_fail_7 : decode cX10_fail 7 = .ok (.aload_n 0, 1) := by decide +kernel
theorem dX10_fail_8 : decode cX10_fail 8 = .ok (.iload_n 1, 1) := by decide +kernel
theorem dX10_fail_9 : decode cX10_fail 9 = .ok (.putfield 49, 3) := by decide +kernel
theorem dX10_fail_12 : decode cX10_fail 12 = .ok (.aload_n 0, 1) := by decide +kernel
theorem dX10_fail_13 : decode cX10_fail 13 = .ok (.aload_n 0, 1) := by decide +kernel
theorem dX10_fail_14 : decode cX10_fail 14 = .ok (.getfield 42, 3) := by decide +kernel
theorem dX10_fail_17 : decode cX10_fail 17 = .ok (.putfield 52, 3) := by decide +kernel
theorem dX10_fail_20 : decode cX10_fail 20 = .ok (.iconst 0, 1) := by decide +kernel
theorem dX10_fail_21 : decode cX10_fail 21 = .ok (.ireturn, 1) := by decide +kernel
theorem dX10_readToken_0 : decode cX10_readToken 0 = .ok (.iconst 0, 1) := by decide +kernel
theorem dX10_readToken_1 : decode cX10_readToken 1 = .ok (.istore_n 2, 1) := by decide +kernel
theorem dX10_readToken_2 : decode cX10_readToken 2 = .ok (.iconst 0, 1) := by decide +kernel
theorem dX10_readToken_3 : decode cX10_readToken 3 = .ok (.istore_n 3, 1) := by decide +kernel
theorem dX10_readToken_4 : decode cX10_readToken 4 = .ok (.lconst 0, 1) := by decide +kernel
theorem dX10_readToken_5 : decode cX10_readToken 5 = .ok (.lstore 4, 2) := by decide +kernel
theorem dX10_readToken_7 : decode cX10_readToken 7 = .ok (.iconst 0, 1) := by decide +kernel
theorem dX10_readToken_8 : decode cX10_readToken 8 = .ok (.istore 6, 2) := by decide +kernel
theorem dX10_readToken_10 : decode cX10_readToken 10 = .ok (.iload_n 1, 1) := by decide +kernel
theorem dX10_readToken_11 : decode cX10_readToken 11 = .ok (.istore 7, 2) := by decide +kernel
theorem dX10_readToken_13 : decode cX10_readToken 13 = .ok (.iload 7, 2) := by decide +kernel
theorem dX10_readToken_15 : decode cX10_readToken 15 = .ok (.aload_n 0, 1) := by decide +kernel
theorem dX10_readToken_16 : decode cX10_readToken 16 = .ok (.getfield 29, 3) := by decide +kernel
theorem dX10_readToken_19 : decode cX10_readToken 19 = .ok (.if_icmp .ge 99, 3) := by decide +kernel
theorem dX10_readToken_22 : decode cX10_readToken 22 = .ok (.iload 7, 2) := by decide +kernel
theorem dX10_readToken_24 : decode cX10_readToken 24 = .ok (.aload_n 0, 1) := by decide +kernel
theorem dX10_readToken_25 : decode cX10_readToken 25 = .ok (.getfield 9, 3) := by decide +kernel
theorem dX10_readToken_28 : decode cX10_readToken 28 = .ok (.arraylength, 1) := by decide +kernel
theorem dX10_readToken_29 : decode cX10_readToken 29 = .ok (.if_icmp .ge 89, 3) := by decide +kernel
theorem dX10_readToken_32 : decode cX10_readToken 32 = .ok (.aload_n 0, 1) := by decide +kernel
theorem dX10_readToken_33 : decode cX10_readToken 33 = .ok (.getfield 9, 3) := by decide +kernel
theorem dX10_readToken_36 : decode cX10_readToken 36 = .ok (.iload 7, 2) := by decide +kernel
theorem dX10_readToken_38 : decode cX10_readToken 38 = .ok (.baload, 1) := by decide +kernel
theorem dX10_readToken_39 : decode cX10_readToken 39 = .ok (.invokestatic 87, 3) := by decide +kernel
theorem dX10_readToken_42 : decode cX10_readToken 42 = .ok (.ifCond .ne 16, 3) := by decide +kernel
theorem dX10_readToken_45 : decode cX10_readToken 45 = .ok (.aload_n 0, 1) := by decide +kernel
theorem dX10_readToken_46 : decode cX10_readToken 46 = .ok (.getfield 9, 3) := by decide +kernel
theorem dX10_readToken_49 : decode cX10_readToken 49 = .ok (.iload 7, 2) := by decide +kernel
theorem dX10_readToken_51 : decode cX10_readToken 51 = .ok (.baload, 1) := by decide +kernel
theorem dX10_readToken_52 : decode cX10_readToken 52 = .ok (.invokestatic 91, 3) := by decide +kernel
theorem dX10_readToken_55 : decode cX10_readToken 55 = .ok (.ifCond .eq 63, 3) := by decide +kernel
theorem dX10_readToken_58 : decode cX10_readToken 58 = .ok (.aload_n 0, 1) := by decide +kernel
theorem dX10_readToken_59 : decode cX10_readToken 59 = .ok (.getfield 9, 3) := by decide +kernel
theorem dX10_readToken_62 : decode cX10_readToken 62 = .ok (.iload 7, 2) := by decide +kernel
theorem dX10_readToken_64 : decode cX10_readToken 64 = .ok (.baload, 1) := by decide +kernel
theorem dX10_readToken_65 : decode cX10_readToken 65 = .ok (.invokestatic 87, 3) := by decide +kernel
theorem dX10_readToken_68 : decode cX10_readToken 68 = .ok (.ifCond .eq 23, 3) := by decide +kernel
theorem dX10_readToken_71 : decode cX10_readToken 71 = .ok (.lload 4, 2) := by decide +kernel
theorem dX10_readToken_73 : decode cX10_readToken 73 = .ok (.aload_n 0, 1) := by decide +kernel
theorem dX10_readToken_74 : decode cX10_readToken 74 = .ok (.getfield 9, 3) := by decide +kernel
theorem dX10_readToken_77 : decode cX10_readToken 77 = .ok (.iload 7, 2) := by decide +kernel
theorem dX10_readToken_79 : decode cX10_readToken 79 = .ok (.baload, 1) := by decide +kernel
theorem dX10_readToken_80 : decode cX10_readToken 80 = .ok (.invokestatic 66, 3) := by decide +kernel
theorem dX10_readToken_83 : decode cX10_readToken 83 = .ok (.lstore 4, 2) := by decide +kernel
theorem dX10_readToken_85 : decode cX10_readToken 85 = .ok (.iinc 2 1, 3) := by decide +kernel
theorem dX10_readToken_88 : decode cX10_readToken 88 = .ok (.goto 24, 3) := by decide +kernel
theorem dX10_readToken_91 : decode cX10_readToken 91 = .ok (.iload 6, 2) := by decide +kernel
theorem dX10_readToken_93 : decode cX10_readToken 93 = .ok (.bipush 10, 2) := by decide +kernel
theorem dX10_readToken_95 : decode cX10_readToken 95 = .ok (.imul, 1) := by decide +kernel
theorem dX10_readToken_96 : decode cX10_readToken 96 = .ok (.aload_n 0, 1) := by decide +kernel
theorem dX10_readToken_97 : decode cX10_readToken 97 = .ok (.getfield 9, 3) := by decide +kernel
theorem dX10_readToken_100 : decode cX10_readToken 100 = .ok (.iload 7, 2) := by decide +kernel
theorem dX10_readToken_102 : decode cX10_readToken 102 = .ok (.baload, 1) := by decide +kernel
theorem dX10_readToken_103 : decode cX10_readToken 103 = .ok (.iadd, 1) := by decide +kernel
theorem dX10_readToken_104 : decode cX10_readToken 104 = .ok (.bipush 48, 2) := by decide +kernel
theorem dX10_readToken_106 : decode cX10_readToken 106 = .ok (.isub, 1) := by decide +kernel
theorem dX10_readToken_107 : decode cX10_readToken 107 = .ok (.istore 6, 2) := by decide +kernel
theorem dX10_readToken_109 : decode cX10_readToken 109 = .ok (.iinc 3 1, 3) := by decide +kernel
theorem dX10_readToken_112 : decode cX10_readToken 112 = .ok (.iinc 7 1, 3) := by decide +kernel
theorem dX10_readToken_115 : decode cX10_readToken 115 = .ok (.goto (-102), 3) := by decide +kernel
theorem dX10_readToken_118 : decode cX10_readToken 118 = .ok (.iload 7, 2) := by decide +kernel
theorem dX10_readToken_120 : decode cX10_readToken 120 = .ok (.iload_n 1, 1) := by decide +kernel
theorem dX10_readToken_121 : decode cX10_readToken 121 = .ok (.if_icmp .ne 36, 3) := by decide +kernel
theorem dX10_readToken_124 : decode cX10_readToken 124 = .ok (.aload_n 0, 1) := by decide +kernel
theorem dX10_readToken_125 : decode cX10_readToken 125 = .ok (.aload_n 0, 1) := by decide +kernel
theorem dX10_readToken_126 : decode cX10_readToken 126 = .ok (.getfield 9, 3) := by decide +kernel
theorem dX10_readToken_129 : decode cX10_readToken 129 = .ok (.iload_n 1, 1) := by decide +kernel
theorem dX10_readToken_130 : decode cX10_readToken 130 = .ok (.baload, 1) := by decide +kernel
theorem dX10_readToken_131 : decode cX10_readToken 131 = .ok (.invokestatic 94, 3) := by decide +kernel
theorem dX10_readToken_134 : decode cX10_readToken 134 = .ok (.ifCond .eq 12, 3) := by decide +kernel
theorem dX10_readToken_137 : decode cX10_readToken 137 = .ok (.aload_n 0, 1) := by decide +kernel
theorem dX10_readToken_138 : decode cX10_readToken 138 = .ok (.getfield 9, 3) := by decide +kernel
theorem dX10_readToken_141 : decode cX10_readToken 141 = .ok (.iload_n 1, 1) := by decide +kernel
theorem dX10_readToken_142 : decode cX10_readToken 142 = .ok (.baload, 1) := by decide +kernel
theorem dX10_readToken_143 : decode cX10_readToken 143 = .ok (.goto 5, 3) := by decide +kernel
theorem dX10_readToken_146 : decode cX10_readToken 146 = .ok (.bipush 103, 2) := by decide +kernel
theorem dX10_readToken_148 : decode cX10_readToken 148 = .ok (.iload_n 1, 1) := by decide +kernel
theorem dX10_readToken_149 : decode cX10_readToken 149 = .ok (.lconst 0, 1) := by decide +kernel
theorem dX10_readToken_150 : decode cX10_readToken 150 = .ok (.invokevirtual 80, 3) := by decide +kernel
theorem dX10_readToken_153 : decode cX10_readToken 153 = .ok (.iload_n 1, 1) := by decide +kernel
theorem dX10_readToken_154 : decode cX10_readToken 154 = .ok (.iconst 1, 1) := by decide +kernel
theorem dX10_readToken_155 : decode cX10_readToken 155 = .ok (.iadd, 1) := by decide +kernel
theorem dX10_readToken_156 : decode cX10_readToken 156 = .ok (.ireturn, 1) := by decide +kernel
theorem dX10_readToken_157 : decode cX10_readToken 157 = .ok (.iload_n 3, 1) := by decide +kernel
theorem dX10_readToken_158 : decode cX10_readToken 158 = .ok (.ifCond .ne 25, 3) := by decide +kernel
theorem dX10_readToken_161 : decode cX10_readToken 161 = .ok (.iload_n 2, 1) := by decide +kernel
theorem dX10_readToken_162 : decode cX10_readToken 162 = .ok (.bipush 7, 2) := by decide +kernel
theorem dX10_readToken_164 : decode cX10_readToken 164 = .ok (.if_icmp .gt 19, 3) := by decide +kernel
theorem dX10_readToken_167 : decode cX10_readToken 167 = .ok (.aload_n 0, 1) := by decide +kernel
theorem dX10_readToken_168 : decode cX10_readToken 168 = .ok (.aload_n 0, 1) := by decide +kernel
theorem dX10_readToken_169 : decode cX10_readToken 169 = .ok (.lload 4, 2) := by decide +kernel
theorem dX10_readToken_171 : decode cX10_readToken 171 = .ok (.invokevirtual 97, 3) := by decide +kernel
theorem dX10_readToken_174 : decode cX10_readToken 174 = .ok (.iload_n 1, 1) := by decide +kernel
theorem dX10_readToken_175 : decode cX10_readToken 175 = .ok (.lload 4, 2) := by decide +kernel
theorem dX10_readToken_177 : decode cX10_readToken 177 = .ok (.invokevirtual 80, 3) := by decide +kernel
theorem dX10_readToken_180 : decode cX10_readToken 180 = .ok (.goto 33, 3) := by decide +kernel
theorem dX10_readToken_183 : decode cX10_readToken 183 = .ok (.iload_n 2, 1) := by decide +kernel
theorem dX10_readToken_184 : decode cX10_readToken 184 = .ok (.ifCond .ne 21, 3) := by decide +kernel
theorem dX10_readToken_187 : decode cX10_readToken 187 = .ok (.iload_n 3, 1) := by decide +kernel
theorem dX10_readToken_188 : decode cX10_readToken 188 = .ok (.iconst 3, 1) := by decide +kernel
theorem dX10_readToken_189 : decode cX10_readToken 189 = .ok (.if_icmp .gt 16, 3) := by decide +kernel
theorem dX10_readToken_192 : decode cX10_readToken 192 = .ok (.aload_n 0, 1) := by decide +kernel
theorem dX10_readToken_193 : decode cX10_readToken 193 = .ok (.bipush 101, 2) := by decide +kernel
theorem dX10_readToken_195 : decode cX10_readToken 195 = .ok (.iload_n 1, 1) := by decide +kernel
theorem dX10_readToken_196 : decode cX10_readToken 196 = .ok (.iload 6, 2) := by decide +kernel
theorem dX10_readToken_198 : decode cX10_readToken 198 = .ok (.i2l, 1) := by decide +kernel
theorem dX10_readToken_199 : decode cX10_readToken 199 = .ok (.invokevirtual 80, 3) := by decide +kernel
theorem dX10_readToken_202 : decode cX10_readToken 202 = .ok (.goto 11, 3) := by decide +kernel
theorem dX10_readToken_205 : decode cX10_readToken 205 = .ok (.aload_n 0, 1) := by decide +kernel
theorem dX10_readToken_206 : decode cX10_readToken 206 = .ok (.bipush 103, 2) := by decide +kernel
theorem dX10_readToken_208 : decode cX10_readToken 208 = .ok (.iload_n 1, 1) := by decide +kernel
theorem dX10_readToken_209 : decode cX10_readToken 209 = .ok (.lconst 0, 1) := by decide +kernel
theorem dX10_readToken_210 : decode cX10_readToken 210 = .ok (.invokevirtual 80, 3) := by decide +kernel
theorem dX10_readToken_213 : decode cX10_readToken 213 = .ok (.iload 7, 2) := by decide +kernel
theorem dX10_readToken_215 : decode cX10_readToken 215 = .ok (.ireturn, 1) := by decide +kernel
theorem dX10_take_0 : decode cX10_take 0 = .ok (.aload_n 0, 1) := by decide +kernel
theorem dX10_take_1 : decode cX10_take 1 = .ok (.getfield 39, 3) := by decide +kernel
theorem dX10_take_4 : decode cX10_take 4 = .ok (.iload_n 1, 1) := by decide +kernel
theorem dX10_take_5 : decode cX10_take 5 = .ok (.if_icmp .eq 9, 3) := by decide +kernel
theorem dX10_take_8 : decode cX10_take 8 = .ok (.aload_n 0, 1) := by decide +kernel
theorem dX10_take_9 : decode cX10_take 9 = .ok (.iconst 1, 1) := by decide +kernel
theorem dX10_take_10 : decode cX10_take 10 = .ok (.invokevirtual 101, 3) := by decide +kernel
theorem dX10_take_13 : decode cX10_take 13 = .ok (.ireturn, 1) := by decide +kernel
theorem dX10_take_14 : decode cX10_take 14 = .ok (.aload_n 0, 1) := by decide +kernel
theorem dX10_take_15 : decode cX10_take 15 = .ok (.invokevirtual 84, 3) := by decide +kernel
theorem dX10_take_18 : decode cX10_take 18 = .ok (.iconst 1, 1) := by decide +kernel
theorem dX10_take_19 : decode cX10_take 19 = .ok (.ireturn, 1) := by decide +kernel
theorem dX10_takeName_0 : decode cX10_takeName 0 = .ok (.aload_n 0, 1) := by decide +kernel
theorem dX10_takeName_1 : decode cX10_takeName 1 = .ok (.getfield 39, 3) := by decide +kernel
theorem dX10_takeName_4 : decode cX10_takeName 4 = .ok (.bipush 100, 2) := by decide +kernel
theorem dX10_takeName_6 : decode cX10_takeName 6 = .ok (.if_icmp .eq 11, 3) := by decide +kernel
theorem dX10_takeName_9 : decode cX10_takeName 9 = .ok (.aload_n 0, 1) := by decide +kernel
theorem dX10_takeName_10 : decode cX10_takeName 10 = .ok (.iconst 1, 1) := by decide +kernel
theorem dX10_takeName_11 : decode cX10_takeName 11 = .ok (.invokevirtual 101, 3) := by decide +kernel
theorem dX10_takeName_14 : decode cX10_takeName 14 = .ok (.pop, 1) := by decide +kernel
theorem dX10_takeName_15 : decode cX10_takeName 15 = .ok (.iconst (-1), 1) := by decide +kernel
theorem dX10_takeName_16 : decode cX10_takeName 16 = .ok (.ireturn, 1) := by decide +kernel
theorem dX10_takeName_17 : decode cX10_takeName 17 = .ok (.iload_n 1, 1) := by decide +kernel
theorem dX10_takeName_18 : decode cX10_takeName 18 = .ok (.iconst (-1), 1) := by decide +kernel
theorem dX10_takeName_19 : decode cX10_takeName 19 = .ok (.if_icmp .ne 11, 3) := by decide +kernel
theorem dX10_takeName_22 : decode cX10_takeName 22 = .ok (.aload_n 0, 1) := by decide +kernel
theorem dX10_takeName_23 : decode cX10_takeName 23 = .ok (.iconst 3, 1) := by decide +kernel
theorem dX10_takeName_24 : decode cX10_takeName 24 = .ok (.invokevirtual 101, 3) := by decide +kernel
theorem dX10_takeName_27 : decode cX10_takeName 27 = .ok (.pop, 1) := by decide +kernel
theorem dX10_takeName_28 : decode cX10_takeName 28 = .ok (.iconst (-1), 1) := by decide +kernel
theorem dX10_takeName_29 : decode cX10_takeName 29 = .ok (.ireturn, 1) := by decide +kernel
theorem dX10_takeName_30 : decode cX10_takeName 30 = .ok (.aload_n 0, 1) := by decide +kernel
theorem dX10_takeName_31 : decode cX10_takeName 31 = .ok (.invokevirtual 84, 3) := by decide +kernel
theorem dX10_takeName_34 : decode cX10_takeName 34 = .ok (.iload_n 1, 1) := by decide +kernel
theorem dX10_takeName_35 : decode cX10_takeName 35 = .ok (.ireturn, 1) := by decide +kernel
theorem dX10_takeNumber_0 : decode cX10_takeNumber 0 = .ok (.aload_n 0, 1) := by decide +kernel
theorem dX10_takeNumber_1 : decode cX10_takeNumber 1 = .ok (.getfield 39, 3) := by decide +kernel
theorem dX10_takeNumber_4 : decode cX10_takeNumber 4 = .ok (.bipush 101, 2) := by decide +kernel
theorem dX10_takeNumber_6 : decode cX10_takeNumber 6 = .ok (.if_icmp .eq 11, 3) := by decide +kernel
theorem dX10_takeNumber_9 : decode cX10_takeNumber 9 = .ok (.aload_n 0, 1) := by decide +kernel
theorem dX10_takeNumber_10 : decode cX10_takeNumber 10 = .ok (.iconst 1, 1) := by decide +kernel
theorem dX10_takeNumber_11 : decode cX10_takeNumber 11 = .ok (.invokevirtual 101, 3) := by decide +kernel
theorem dX10_takeNumber_14 : decode cX10_takeNumber 14 = .ok (.pop, 1) := by decide +kernel
theorem dX10_takeNumber_15 : decode cX10_takeNumber 15 = .ok (.iconst (-1), 1) := by decide +kernel
theorem dX10_takeNumber_16 : decode cX10_takeNumber 16 = .ok (.ireturn, 1) := by decide +kernel
theorem dX10_takeNumber_17 : decode cX10_takeNumber 17 = .ok (.aload_n 0, 1) := by decide +kernel
theorem dX10_takeNumber_18 : decode cX10_takeNumber 18 = .ok (.getfield 45, 3) := by decide +kernel
theorem dX10_takeNumber_21 : decode cX10_takeNumber 21 = .ok (.iload_n 1, 1) := by decide +kernel
theorem dX10_takeNumber_22 : decode cX10_takeNumber 22 = .ok (.i2l, 1) := by decide +kernel
theorem dX10_takeNumber_23 : decode cX10_takeNumber 23 = .ok (.lcmp, 1) := by decide +kernel
theorem dX10_takeNumber_24 : decode cX10_takeNumber 24 = .ok (.ifCond .lt 13, 3) := by decide +kernel
theorem dX10_takeNumber_27 : decode cX10_takeNumber 27 = .ok (.aload_n 0, 1) := by decide +kernel
theorem dX10_takeNumber_28 : decode cX10_takeNumber 28 = .ok (.getfield 45, 3) := by decide +kernel
theorem dX10_takeNumber_31 : decode cX10_takeNumber 31 = .ok (.iload_n 2, 1) := by decide +kernel
theorem dX10_takeNumber_32 : decode cX10_takeNumber 32 = .ok (.i2l, 1) := by decide +kernel
theorem dX10_takeNumber_33 : decode cX10_takeNumber 33 = .ok (.lcmp, 1) := by decide +kernel
theorem dX10_takeNumber_34 : decode cX10_takeNumber 34 = .ok (.ifCond .le 11, 3) := by decide +kernel
theorem dX10_takeNumber_37 : decode cX10_takeNumber 37 = .ok (.aload_n 0, 1) := by decide +kernel
theorem dX10_takeNumber_38 : decode cX10_takeNumber 38 = .ok (.iconst 2, 1) := by decide +kernel
theorem dX10_takeNumber_39 : decode cX10_takeNumber 39 = .ok (.invokevirtual 101, 3) := by decide +kernel
theorem dX10_takeNumber_42 : decode cX10_takeNumber 42 = .ok (.pop, 1) := by decide +kernel
theorem dX10_takeNumber_43 : decode cX10_takeNumber 43 = .ok (.iconst (-1), 1) := by decide +kernel
theorem dX10_takeNumber_44 : decode cX10_takeNumber 44 = .ok (.ireturn, 1) := by decide +kernel
theorem dX10_takeNumber_45 : decode cX10_takeNumber 45 = .ok (.aload_n 0, 1) := by decide +kernel
theorem dX10_takeNumber_46 : decode cX10_takeNumber 46 = .ok (.getfield 45, 3) := by decide +kernel
theorem dX10_takeNumber_49 : decode cX10_takeNumber 49 = .ok (.l2i, 1) := by decide +kernel
theorem dX10_takeNumber_50 : decode cX10_takeNumber 50 = .ok (.istore_n 3, 1) := by decide +kernel
theorem dX10_takeNumber_51 : decode cX10_takeNumber 51 = .ok (.aload_n 0, 1) := by decide +kernel
theorem dX10_takeNumber_52 : decode cX10_takeNumber 52 = .ok (.invokevirtual 84, 3) := by decide +kernel
theorem dX10_takeNumber_55 : decode cX10_takeNumber 55 = .ok (.iload_n 3, 1) := by decide +kernel
theorem dX10_takeNumber_56 : decode cX10_takeNumber 56 = .ok (.ireturn, 1) := by decide +kernel
theorem dX1_forget_0 : decode cX1_forget 0 = .ok (.iconst 0, 1) := by decide +kernel
theorem dX1_forget_1 : decode cX1_forget 1 = .ok (.istore_n 1, 1) := by decide +kernel
theorem dX1_forget_2 : decode cX1_forget 2 = .ok (.iload_n 1, 1) := by decide +kernel
theorem dX1_forget_3 : decode cX1_forget 3 = .ok (.bipush 6, 2) := by decide +kernel
theorem dX1_forget_5 : decode cX1_forget 5 = .ok (.if_icmp .ge 16, 3) := by decide +kernel
theorem dX1_forget_8 : decode cX1_forget 8 = .ok (.aload_n 0, 1) := by decide +kernel
theorem dX1_forget_9 : decode cX1_forget 9 = .ok (.getfield 9, 3) := by decide +kernel
theorem dX1_forget_12 : decode cX1_forget 12 = .ok (.iload_n 1, 1) := by decide +kernel
theorem dX1_forget_13 : decode cX1_forget 13 = .ok (.iconst 0, 1) := by decide +kernel
theorem dX1_forget_14 : decode cX1_forget 14 = .ok (.iastore, 1) := by decide +kernel
theorem dX1_forget_15 : decode cX1_forget 15 = .ok (.iinc 1 1, 3) := by decide +kernel
theorem dX1_forget_18 : decode cX1_forget 18 = .ok (.goto (-16), 3) := by decide +kernel
theorem dX1_forget_21 : decode cX1_forget 21 = .ok (.iconst 0, 1) := by decide +kernel
theorem dX1_forget_22 : decode cX1_forget 22 = .ok (.istore_n 1, 1) := by decide +kernel
theorem dX1_forget_23 : decode cX1_forget 23 = .ok (.iload_n 1, 1) := by decide +kernel
theorem dX1_forget_24 : decode cX1_forget 24 = .ok (.bipush 42, 2) := by decide +kernel
theorem dX1_forget_26 : decode cX1_forget 26 = .ok (.if_icmp .ge 16, 3) := by decide +kernel
theorem dX1_forget_29 : decode cX1_forget 29 = .ok (.aload_n 0, 1) := by decide +kernel
theorem dX1_forget_30 : decode cX1_forget 30 = .ok (.getfield 15, 3) := by decide +kernel
theorem dX1_forget_33 : decode cX1_forget 33 = .ok (.iload_n 1, 1) := by decide +kernel
theorem dX1_forget_34 : decode cX1_forget 34 = .ok (.iconst 0, 1) := by decide +kernel
theorem dX1_forget_35 : decode cX1_forget 35 = .ok (.iastore, 1) := by decide +kernel
theorem dX1_forget_36 : decode cX1_forget 36 = .ok (.iinc 1 1, 3) := by decide +kernel
theorem dX1_forget_39 : decode cX1_forget 39 = .ok (.goto (-16), 3) := by decide +kernel
theorem dX1_forget_42 : decode cX1_forget 42 = .ok (.iconst 0, 1) := by decide +kernel
theorem dX1_forget_43 : decode cX1_forget 43 = .ok (.istore_n 1, 1) := by decide +kernel
theorem dX1_forget_44 : decode cX1_forget 44 = .ok (.iload_n 1, 1) := by decide +kernel
theorem dX1_forget_45 : decode cX1_forget 45 = .ok (.bipush 7, 2) := by decide +kernel
theorem dX1_forget_47 : decode cX1_forget 47 = .ok (.if_icmp .ge 37, 3) := by decide +kernel
theorem dX1_forget_50 : decode cX1_forget 50 = .ok (.aload_n 0, 1) := by decide +kernel
theorem dX1_forget_51 : decode cX1_forget 51 = .ok (.getfield 18, 3) := by decide +kernel
theorem dX1_forget_54 : decode cX1_forget 54 = .ok (.iload_n 1, 1) := by decide +kernel
theorem dX1_forget_55 : decode cX1_forget 55 = .ok (.iconst 0, 1) := by decide +kernel
theorem dX1_forget_56 : decode cX1_forget 56 = .ok (.iastore, 1) := by decide +kernel
theorem dX1_forget_57 : decode cX1_forget 57 = .ok (.aload_n 0, 1) := by decide +kernel
theorem dX1_forget_58 : decode cX1_forget 58 = .ok (.getfield 21, 3) := by decide +kernel
theorem dX1_forget_61 : decode cX1_forget 61 = .ok (.iload_n 1, 1) := by decide +kernel
theorem dX1_forget_62 : decode cX1_forget 62 = .ok (.iconst 0, 1) := by decide +kernel
theorem dX1_forget_63 : decode cX1_forget 63 = .ok (.iastore, 1) := by decide +kernel
theorem dX1_forget_64 : decode cX1_forget 64 = .ok (.aload_n 0, 1) := by decide +kernel
theorem dX1_forget_65 : decode cX1_forget 65 = .ok (.getfield 24, 3) := by decide +kernel
theorem dX1_forget_68 : decode cX1_forget 68 = .ok (.iload_n 1, 1) := by decide +kernel
theorem dX1_forget_69 : decode cX1_forget 69 = .ok (.iconst 0, 1) := by decide +kernel
theorem dX1_forget_70 : decode cX1_forget 70 = .ok (.iastore, 1) := by decide +kernel
theorem dX1_forget_71 : decode cX1_forget 71 = .ok (.aload_n 0, 1) := by decide +kernel
theorem dX1_forget_72 : decode cX1_forget 72 = .ok (.getfield 27, 3) := by decide +kernel
theorem dX1_forget_75 : decode cX1_forget 75 = .ok (.iload_n 1, 1) := by decide +kernel
theorem dX1_forget_76 : decode cX1_forget 76 = .ok (.iconst 0, 1) := by decide +kernel
theorem dX1_forget_77 : decode cX1_forget 77 = .ok (.iastore, 1) := by decide +kernel
theorem dX1_forget_78 : decode cX1_forget 78 = .ok (.iinc 1 1, 3) := by decide +kernel
theorem dX1_forget_81 : decode cX1_forget 81 = .ok (.goto (-37), 3) := by decide +kernel
theorem dX1_forget_84 : decode cX1_forget 84 = .ok (.aload_n 0, 1) := by decide +kernel
theorem dX1_forget_85 : decode cX1_forget 85 = .ok (.iconst 0, 1) := by decide +kernel
theorem dX1_forget_86 : decode cX1_forget 86 = .ok (.putfield 30, 3) := by decide +kernel
theorem dX1_forget_89 : decode cX1_forget 89 = .ok (.aload_n 0, 1) := by decide +kernel
theorem dX1_forget_90 : decode cX1_forget 90 = .ok (.iconst 0, 1) := by decide +kernel
theorem dX1_forget_91 : decode cX1_forget 91 = .ok (.putfield 34, 3) := by decide +kernel
theorem dX1_forget_94 : decode cX1_forget 94 = .ok (.aload_n 0, 1) := by decide +kernel
theorem dX1_forget_95 : decode cX1_forget 95 = .ok (.iconst 0, 1) := by decide +kernel
theorem dX1_forget_96 : decode cX1_forget 96 = .ok (.putfield 37, 3) := by decide +kernel
theorem dX1_forget_99 : decode cX1_forget 99 = .ok (.aload_n 0, 1) := by decide +kernel
theorem dX1_forget_100 : decode cX1_forget 100 = .ok (.iconst 0, 1) := by decide +kernel
theorem dX1_forget_101 : decode cX1_forget 101 = .ok (.putfield 40, 3) := by decide +kernel
theorem dX1_forget_104 : decode cX1_forget 104 = .ok (.aload_n 0, 1) := by decide +kernel
theorem dX1_forget_105 : decode cX1_forget 105 = .ok (.iconst 0, 1) := by decide +kernel
theorem dX1_forget_106 : decode cX1_forget 106 = .ok (.putfield 43, 3) := by decide +kernel
theorem dX1_forget_109 : decode cX1_forget 109 = .ok (.aload_n 0, 1) := by decide +kernel
theorem dX1_forget_110 : decode cX1_forget 110 = .ok (.iconst 0, 1) := by decide +kernel
theorem dX1_forget_111 : decode cX1_forget 111 = .ok (.putfield 46, 3) := by decide +kernel
theorem dX1_forget_114 : decode cX1_forget 114 = .ok (.return_, 1) := by decide +kernel
theorem dX8_dishNamed_0 : decode cX8_dishNamed 0 = .ok (.iconst 0, 1) := by decide +kernel
theorem dX8_dishNamed_1 : decode cX8_dishNamed 1 = .ok (.istore_n 3, 1) := by decide +kernel
theorem dX8_dishNamed_2 : decode cX8_dishNamed 2 = .ok (.iload_n 3, 1) := by decide +kernel
theorem dX8_dishNamed_3 : decode cX8_dishNamed 3 = .ok (.aload_n 0, 1) := by decide +kernel
theorem dX8_dishNamed_4 : decode cX8_dishNamed 4 = .ok (.getfield 32, 3) := by decide +kernel
theorem dX8_dishNamed_7 : decode cX8_dishNamed 7 = .ok (.if_icmp .ge 22, 3) := by decide +kernel
theorem dX8_dishNamed_10 : decode cX8_dishNamed 10 = .ok (.aload_n 0, 1) := by decide +kernel
theorem dX8_dishNamed_11 : decode cX8_dishNamed 11 = .ok (.getfield 22, 3) := by decide +kernel
theorem dX8_dishNamed_14 : decode cX8_dishNamed 14 = .ok (.iload_n 3, 1) := by decide +kernel
theorem dX8_dishNamed_15 : decode cX8_dishNamed 15 = .ok (.laload, 1) := by decide +kernel
theorem dX8_dishNamed_16 : decode cX8_dishNamed 16 = .ok (.lload_n 1, 1) := by decide +kernel
theorem dX8_dishNamed_17 : decode cX8_dishNamed 17 = .ok (.lcmp, 1) := by decide +kernel
theorem dX8_dishNamed_18 : decode cX8_dishNamed 18 = .ok (.ifCond .ne 5, 3) := by decide +kernel
theorem dX8_dishNamed_21 : decode cX8_dishNamed 21 = .ok (.iload_n 3, 1) := by decide +kernel
theorem dX8_dishNamed_22 : decode cX8_dishNamed 22 = .ok (.ireturn, 1) := by decide +kernel
theorem dX8_dishNamed_23 : decode cX8_dishNamed 23 = .ok (.iinc 3 1, 3) := by decide +kernel
theorem dX8_dishNamed_26 : decode cX8_dishNamed 26 = .ok (.goto (-24), 3) := by decide +kernel
theorem dX8_dishNamed_29 : decode cX8_dishNamed 29 = .ok (.iconst (-1), 1) := by decide +kernel
theorem dX8_dishNamed_30 : decode cX8_dishNamed 30 = .ok (.ireturn, 1) := by decide +kernel
theorem dX8_forget_0 : decode cX8_forget 0 = .ok (.aload_n 0, 1) := by decide +kernel
theorem dX8_forget_1 : decode cX8_forget 1 = .ok (.iconst 0, 1) := by decide +kernel
theorem dX8_forget_2 : decode cX8_forget 2 = .ok (.putfield 28, 3) := by decide +kernel
theorem dX8_forget_5 : decode cX8_forget 5 = .ok (.aload_n 0, 1) := by decide +kernel
theorem dX8_forget_6 : decode cX8_forget 6 = .ok (.iconst 0, 1) := by decide +kernel
theorem dX8_forget_7 : decode cX8_forget 7 = .ok (.putfield 32, 3) := by decide +kernel
theorem dX8_forget_10 : decode cX8_forget 10 = .ok (.aload_n 0, 1) := by decide +kernel
theorem dX8_forget_11 : decode cX8_forget 11 = .ok (.iconst 0, 1) := by decide +kernel
theorem dX8_forget_12 : decode cX8_forget 12 = .ok (.putfield 35, 3) := by decide +kernel
theorem dX8_forget_15 : decode cX8_forget 15 = .ok (.aload_n 0, 1) := by decide +kernel
theorem dX8_forget_16 : decode cX8_forget 16 = .ok (.iconst 0, 1) := by decide +kernel
theorem dX8_forget_17 : decode cX8_forget 17 = .ok (.putfield 38, 3) := by decide +kernel
theorem dX8_forget_20 : decode cX8_forget 20 = .ok (.return_, 1) := by decide +kernel
theorem dX8_personNamed_0 : decode cX8_personNamed 0 = .ok (.iconst 0, 1) := by decide +kernel
theorem dX8_personNamed_1 : decode cX8_personNamed 1 = .ok (.istore_n 3, 1) := by decide +kernel
theorem dX8_personNamed_2 : decode cX8_personNamed 2 = .ok (.iload_n 3, 1) := by decide +kernel
theorem dX8_personNamed_3 : decode cX8_personNamed 3 = .ok (.aload_n 0, 1) := by decide +kernel
theorem dX8_personNamed_4 : decode cX8_personNamed 4 = .ok (.getfield 28, 3) := by decide +kernel
theorem dX8_personNamed_7 : decode cX8_personNamed 7 = .ok (.if_icmp .ge 22, 3) := by decide +kernel
theorem dX8_personNamed_10 : decode cX8_personNamed 10 = .ok (.aload_n 0, 1) := by decide +kernel
theorem dX8_personNamed_11 : decode cX8_personNamed 11 = .ok (.getfield 9, 3) := by decide +kernel
theorem dX8_personNamed_14 : decode cX8_personNamed 14 = .ok (.iload_n 3, 1) := by decide +kernel
theorem dX8_personNamed_15 : decode cX8_personNamed 15 = .ok (.laload, 1) := by decide +kernel
theorem dX8_personNamed_16 : decode cX8_personNamed 16 = .ok (.lload_n 1, 1) := by decide +kernel
theorem dX8_personNamed_17 : decode cX8_personNamed 17 = .ok (.lcmp, 1) := by decide +kernel
theorem dX8_personNamed_18 : decode cX8_personNamed 18 = .ok (.ifCond .ne 5, 3) := by decide +kernel
theorem dX8_personNamed_21 : decode cX8_personNamed 21 = .ok (.iload_n 3, 1) := by decide +kernel
theorem dX8_personNamed_22 : decode cX8_personNamed 22 = .ok (.ireturn, 1) := by decide +kernel
theorem dX8_personNamed_23 : decode cX8_personNamed 23 = .ok (.iinc 3 1, 3) := by decide +kernel
theorem dX8_personNamed_26 : decode cX8_personNamed 26 = .ok (.goto (-24), 3) := by decide +kernel
theorem dX8_personNamed_29 : decode cX8_personNamed 29 = .ok (.iconst (-1), 1) := by decide +kernel
theorem dX8_personNamed_30 : decode cX8_personNamed 30 = .ok (.ireturn, 1) := by decide +kernel
theorem dX9_newName_0 : decode cX9_newName 0 = .ok (.aload_n 1, 1) := by decide +kernel
theorem dX9_newName_1 : decode cX9_newName 1 = .ok (.getfield 44, 3) := by decide +kernel
theorem dX9_newName_4 : decode cX9_newName 4 = .ok (.bipush 100, 2) := by decide +kernel
theorem dX9_newName_6 : decode cX9_newName 6 = .ok (.if_icmp .eq 9, 3) := by decide +kernel
theorem dX9_newName_9 : decode cX9_newName 9 = .ok (.aload_n 1, 1) := by decide +kernel
theorem dX9_newName_10 : decode cX9_newName 10 = .ok (.iconst 1, 1) := by decide +kernel
theorem dX9_newName_11 : decode cX9_newName 11 = .ok (.invokevirtual 67, 3) := by decide +kernel
theorem dX9_newName_14 : decode cX9_newName 14 = .ok (.ireturn, 1) := by decide +kernel
theorem dX9_newName_15 : decode cX9_newName 15 = .ok (.aload_n 0, 1) := by decide +kernel
theorem dX9_newName_16 : decode cX9_newName 16 = .ok (.getfield 12, 3) := by decide +kernel
theorem dX9_newName_19 : decode cX9_newName 19 = .ok (.aload_n 1, 1) := by decide +kernel
theorem dX9_newName_20 : decode cX9_newName 20 = .ok (.getfield 71, 3) := by decide +kernel
theorem dX9_newName_23 : decode cX9_newName 23 = .ok (.invokevirtual 75, 3) := by decide +kernel
theorem dX9_newName_26 : decode cX9_newName 26 = .ok (.iconst (-1), 1) := by decide +kernel
theorem dX9_newName_27 : decode cX9_newName 27 = .ok (.if_icmp .ne 18, 3) := by decide +kernel
theorem dX9_newName_30 : decode cX9_newName 30 = .ok (.aload_n 0, 1) := by decide +kernel
theorem dX9_newName_31 : decode cX9_newName 31 = .ok (.getfield 12, 3) := by decide +kernel
theorem dX9_newName_34 : decode cX9_newName 34 = .ok (.aload_n 1, 1) := by decide +kernel
theorem dX9_newName_35 : decode cX9_newName 35 = .ok (.getfield 71, 3) := by decide +kernel
theorem dX9_newName_38 : decode cX9_newName 38 = .ok (.invokevirtual 79, 3) := by decide +kernel
theorem dX9_newName_41 : decode cX9_newName 41 = .ok (.iconst (-1), 1) := by decide +kernel
theorem dX9_newName_42 : decode cX9_newName 42 = .ok (.if_icmp .eq 9, 3) := by decide +kernel
theorem dX9_newName_45 : decode cX9_newName 45 = .ok (.aload_n 1, 1) := by decide +kernel
theorem dX9_newName_46 : decode cX9_newName 46 = .ok (.iconst 3, 1) := by decide +kernel
theorem dX9_newName_47 : decode cX9_newName 47 = .ok (.invokevirtual 67, 3) := by decide +kernel
theorem dX9_newName_50 : decode cX9_newName 50 = .ok (.ireturn, 1) := by decide +kernel
theorem dX9_newName_51 : decode cX9_newName 51 = .ok (.aload_n 1, 1) := by decide +kernel
theorem dX9_newName_52 : decode cX9_newName 52 = .ok (.invokevirtual 82, 3) := by decide +kernel
theorem dX9_newName_55 : decode cX9_newName 55 = .ok (.iconst 1, 1) := by decide +kernel
theorem dX9_newName_56 : decode cX9_newName 56 = .ok (.ireturn, 1) := by decide +kernel
theorem dX9_readDish_0 : decode cX9_readDish 0 = .ok (.aload_n 0, 1) := by decide +kernel
theorem dX9_readDish_1 : decode cX9_readDish 1 = .ok (.getfield 12, 3) := by decide +kernel
theorem dX9_readDish_4 : decode cX9_readDish 4 = .ok (.getfield 113, 3) := by decide +kernel
theorem dX9_readDish_7 : decode cX9_readDish 7 = .ok (.bipush 6, 2) := by decide +kernel
theorem dX9_readDish_9 : decode cX9_readDish 9 = .ok (.if_icmp .lt 9, 3) := by decide +kernel
theorem dX9_readDish_12 : decode cX9_readDish 12 = .ok (.aload_n 1, 1) := by decide +kernel
theorem dX9_readDish_13 : decode cX9_readDish 13 = .ok (.iconst 4, 1) := by decide +kernel
theorem dX9_readDish_14 : decode cX9_readDish 14 = .ok (.invokevirtual 67, 3) := by decide +kernel
theorem dX9_readDish_17 : decode cX9_readDish 17 = .ok (.ireturn, 1) := by decide +kernel
theorem dX9_readDish_18 : decode cX9_readDish 18 = .ok (.aload_n 1, 1) := by decide +kernel
theorem dX9_readDish_19 : decode cX9_readDish 19 = .ok (.invokevirtual 82, 3) := by decide +kernel
theorem dX9_readDish_22 : decode cX9_readDish 22 = .ok (.aload_n 1, 1) := by decide +kernel
theorem dX9_readDish_23 : decode cX9_readDish 23 = .ok (.getfield 71, 3) := by decide +kernel
theorem dX9_readDish_26 : decode cX9_readDish 26 = .ok (.lstore_n 2, 1) := by decide +kernel
theorem dX9_readDish_27 : decode cX9_readDish 27 = .ok (.aload_n 0, 1) := by decide +kernel
theorem dX9_readDish_28 : decode cX9_readDish 28 = .ok (.aload_n 1, 1) := by decide +kernel
theorem dX9_readDish_29 : decode cX9_readDish 29 = .ok (.invokevirtual 88, 3) := by decide +kernel
theorem dX9_readDish_32 : decode cX9_readDish 32 = .ok (.ifCond .ne 5, 3) := by decide +kernel
theorem dX9_readDish_35 : decode cX9_readDish 35 = .ok (.iconst 0, 1) := by decide +kernel
theorem dX9_readDish_36 : decode cX9_readDish 36 = .ok (.ireturn, 1) := by decide +kernel
theorem dX9_readDish_37 : decode cX9_readDish 37 = .ok (.aload_n 1, 1) := by decide +kernel
theorem dX9_readDish_38 : decode cX9_readDish 38 = .ok (.iconst 0, 1) := by decide +kernel
theorem dX9_readDish_39 : decode cX9_readDish 39 = .ok (.bipush 99, 2) := by decide +kernel
theorem dX9_readDish_41 : decode cX9_readDish 41 = .ok (.invokevirtual 91, 3) := by decide +kernel
theorem dX9_readDish_44 : decode cX9_readDish 44 = .ok (.istore 4, 2) := by decide +kernel
theorem dX9_readDish_46 : decode cX9_readDish 46 = .ok (.iload 4, 2) := by decide +kernel
theorem dX9_readDish_48 : decode cX9_readDish 48 = .ok (.iconst (-1), 1) := by decide +kernel
theorem dX9_readDish_49 : decode cX9_readDish 49 = .ok (.if_icmp .ne 5, 3) := by decide +kernel
theorem dX9_readDish_52 : decode cX9_readDish 52 = .ok (.iconst 0, 1) := by decide +kernel
theorem dX9_readDish_53 : decode cX9_readDish 53 = .ok (.ireturn, 1) := by decide +kernel
theorem dX9_readDish_54 : decode cX9_readDish 54 = .ok (.iconst 0, 1) := by decide +kernel
theorem dX9_readDish_55 : decode cX9_readDish 55 = .ok (.istore 5, 2) := by decide +kernel
theorem dX9_readDish_57 : decode cX9_readDish 57 = .ok (.aload_n 1, 1) := by decide +kernel
theorem dX9_readDish_58 : decode cX9_readDish 58 = .ok (.getfield 44, 3) := by decide +kernel
theorem dX9_readDish_61 : decode cX9_readDish 61 = .ok (.bipush 6, 2) := by decide +kernel
theorem dX9_readDish_63 : decode cX9_readDish 63 = .ok (.if_icmp .ne 24, 3) := by decide +kernel
theorem dX9_readDish_66 : decode cX9_readDish 66 = .ok (.aload_n 1, 1) := by decide +kernel
theorem dX9_readDish_67 : decode cX9_readDish 67 = .ok (.invokevirtual 82, 3) := by decide +kernel
theorem dX9_readDish_70 : decode cX9_readDish 70 = .ok (.aload_n 1, 1) := by decide +kernel
theorem dX9_readDish_71 : decode cX9_readDish 71 = .ok (.iconst 1, 1) := by decide +kernel
theorem dX9_readDish_72 : decode cX9_readDish 72 = .ok (.bipush 9, 2) := by decide +kernel
theorem dX9_readDish_74 : decode cX9_readDish 74 = .ok (.invokevirtual 91, 3) := by decide +kernel
theorem dX9_readDish_77 : decode cX9_readDish 77 = .ok (.istore 5, 2) := by decide +kernel
theorem dX9_readDish_79 : decode cX9_readDish 79 = .ok (.iload 5, 2) := by decide +kernel
theorem dX9_readDish_81 : decode cX9_readDish 81 = .ok (.iconst (-1), 1) := by decide +kernel
theorem dX9_readDish_82 : decode cX9_readDish 82 = .ok (.if_icmp .ne 5, 3) := by decide +kernel
theorem dX9_readDish_85 : decode cX9_readDish 85 = .ok (.iconst 0, 1) := by decide +kernel
theorem dX9_readDish_86 : decode cX9_readDish 86 = .ok (.ireturn, 1) := by decide +kernel
theorem dX9_readDish_87 : decode cX9_readDish 87 = .ok (.aload_n 0, 1) := by decide +kernel
theorem dX9_readDish_88 : decode cX9_readDish 88 = .ok (.getfield 12, 3) := by decide +kernel
theorem dX9_readDish_91 : decode cX9_readDish 91 = .ok (.getfield 116, 3) := by decide +kernel
theorem dX9_readDish_94 : decode cX9_readDish 94 = .ok (.aload_n 0, 1) := by decide +kernel
theorem dX9_readDish_95 : decode cX9_readDish 95 = .ok (.getfield 12, 3) := by decide +kernel
theorem dX9_readDish_98 : decode cX9_readDish 98 = .ok (.getfield 113, 3) := by decide +kernel
theorem dX9_readDish_101 : decode cX9_readDish 101 = .ok (.lload_n 2, 1) := by decide +kernel
theorem dX9_readDish_102 : decode cX9_readDish 102 = .ok (.lastore, 1) := by decide +kernel
theorem dX9_readDish_103 : decode cX9_readDish 103 = .ok (.aload_n 0, 1) := by decide +kernel
theorem dX9_readDish_104 : decode cX9_readDish 104 = .ok (.getfield 12, 3) := by decide +kernel
theorem dX9_readDish_107 : decode cX9_readDish 107 = .ok (.getfield 119, 3) := by decide +kernel
theorem dX9_readDish_110 : decode cX9_readDish 110 = .ok (.aload_n 0, 1) := by decide +kernel
theorem dX9_readDish_111 : decode cX9_readDish 111 = .ok (.getfield 12, 3) := by decide +kernel
theorem dX9_readDish_114 : decode cX9_readDish 114 = .ok (.getfield 113, 3) := by decide +kernel
theorem dX9_readDish_117 : decode cX9_readDish 117 = .ok (.iload 5, 2) := by decide +kernel
theorem dX9_readDish_119 : decode cX9_readDish 119 = .ok (.iastore, 1) := by decide +kernel
theorem dX9_readDish_120 : decode cX9_readDish 120 = .ok (.aload_n 0, 1) := by decide +kernel
theorem dX9_readDish_121 : decode cX9_readDish 121 = .ok (.getfield 23, 3) := by decide +kernel
theorem dX9_readDish_124 : decode cX9_readDish 124 = .ok (.getfield 122, 3) := by decide +kernel
theorem dX9_readDish_127 : decode cX9_readDish 127 = .ok (.aload_n 0, 1) := by decide +kernel
theorem dX9_readDish_128 : decode cX9_readDish 128 = .ok (.getfield 12, 3) := by decide +kernel
theorem dX9_readDish_131 : decode cX9_readDish 131 = .ok (.getfield 113, 3) := by decide +kernel
theorem dX9_readDish_134 : decode cX9_readDish 134 = .ok (.iload 4, 2) := by decide +kernel
theorem dX9_readDish_136 : decode cX9_readDish 136 = .ok (.iastore, 1) := by decide +kernel
theorem dX9_readDish_137 : decode cX9_readDish 137 = .ok (.aload_n 0, 1) := by decide +kernel
theorem dX9_readDish_138 : decode cX9_readDish 138 = .ok (.getfield 12, 3) := by decide +kernel
theorem dX9_readDish_141 : decode cX9_readDish 141 = .ok (.dup, 1) := by decide +kernel
theorem dX9_readDish_142 : decode cX9_readDish 142 = .ok (.getfield 113, 3) := by decide +kernel
theorem dX9_readDish_145 : decode cX9_readDish 145 = .ok (.iconst 1, 1) := by decide +kernel
theorem dX9_readDish_146 : decode cX9_readDish 146 = .ok (.iadd, 1) := by decide +kernel
theorem dX9_readDish_147 : decode cX9_readDish 147 = .ok (.putfield 113, 3) := by decide +kernel
theorem dX9_readDish_150 : decode cX9_readDish 150 = .ok (.aload_n 1, 1) := by decide +kernel
theorem dX9_readDish_151 : decode cX9_readDish 151 = .ok (.bipush 59, 2) := by decide +kernel
theorem dX9_readDish_153 : decode cX9_readDish 153 = .ok (.invokevirtual 110, 3) := by decide +kernel
theorem dX9_readDish_156 : decode cX9_readDish 156 = .ok (.ireturn, 1) := by decide +kernel
theorem dX9_readDogs_0 : decode cX9_readDogs 0 = .ok (.aload_n 0, 1) := by decide +kernel
theorem dX9_readDogs_1 : decode cX9_readDogs 1 = .ok (.getfield 31, 3) := by decide +kernel
theorem dX9_readDogs_4 : decode cX9_readDogs 4 = .ok (.ifCond .eq 9, 3) := by decide +kernel
theorem dX9_readDogs_7 : decode cX9_readDogs 7 = .ok (.aload_n 1, 1) := by decide +kernel
theorem dX9_readDogs_8 : decode cX9_readDogs 8 = .ok (.iconst 3, 1) := by decide +kernel
theorem dX9_readDogs_9 : decode cX9_readDogs 9 = .ok (.invokevirtual 67, 3) := by decide +kernel
theorem dX9_readDogs_12 : decode cX9_readDogs 12 = .ok (.ireturn, 1) := by decide +kernel
theorem dX9_readDogs_13 : decode cX9_readDogs 13 = .ok (.aload_n 0, 1) := by decide +kernel
theorem dX9_readDogs_14 : decode cX9_readDogs 14 = .ok (.iconst 1, 1) := by decide +kernel
theorem dX9_readDogs_15 : decode cX9_readDogs 15 = .ok (.putfield 31, 3) := by decide +kernel
theorem dX9_readDogs_18 : decode cX9_readDogs 18 = .ok (.aload_n 1, 1) := by decide +kernel
theorem dX9_readDogs_19 : decode cX9_readDogs 19 = .ok (.invokevirtual 82, 3) := by decide +kernel
theorem dX9_readDogs_22 : decode cX9_readDogs 22 = .ok (.aload_n 0, 1) := by decide +kernel
theorem dX9_readDogs_23 : decode cX9_readDogs 23 = .ok (.getfield 12, 3) := by decide +kernel
theorem dX9_readDogs_26 : decode cX9_readDogs 26 = .ok (.aload_n 1, 1) := by decide +kernel
theorem dX9_readDogs_27 : decode cX9_readDogs 27 = .ok (.iconst 0, 1) := by decide +kernel
theorem dX9_readDogs_28 : decode cX9_readDogs 28 = .ok (.bipush 9, 2) := by decide +kernel
theorem dX9_readDogs_30 : decode cX9_readDogs 30 = .ok (.invokevirtual 91, 3) := by decide +kernel
theorem dX9_readDogs_33 : decode cX9_readDogs 33 = .ok (.putfield 135, 3) := by decide +kernel
theorem dX9_readDogs_36 : decode cX9_readDogs 36 = .ok (.aload_n 0, 1) := by decide +kernel
theorem dX9_readDogs_37 : decode cX9_readDogs 37 = .ok (.getfield 12, 3) := by decide +kernel
theorem dX9_readDogs_40 : decode cX9_readDogs 40 = .ok (.getfield 135, 3) := by decide +kernel
theorem dX9_readDogs_43 : decode cX9_readDogs 43 = .ok (.iconst (-1), 1) := by decide +kernel
theorem dX9_readDogs_44 : decode cX9_readDogs 44 = .ok (.if_icmp .eq 16, 3) := by decide +kernel
theorem dX9_readDogs_47 : decode cX9_readDogs 47 = .ok (.aload_n 1, 1) := by decide +kernel
theorem dX9_readDogs_48 : decode cX9_readDogs 48 = .ok (.bipush 59, 2) := by decide +kernel
theorem dX9_readDogs_50 : decode cX9_readDogs 50 = .ok (.invokevirtual 110, 3) := by decide +kernel
theorem dX9_readDogs_53 : decode cX9_readDogs 53 = .ok (.ifCond .eq 7, 3) := by decide +kernel
theorem dX9_readDogs_56 : decode cX9_readDogs 56 = .ok (.iconst 1, 1) := by decide +kernel
theorem dX9_readDogs_57 : decode cX9_readDogs 57 = .ok (.goto 4, 3) := by decide +kernel
theorem dX9_readDogs_60 : decode cX9_readDogs 60 = .ok (.iconst 0, 1) := by decide +kernel
theorem dX9_readDogs_61 : decode cX9_readDogs 61 = .ok (.ireturn, 1) := by decide +kernel
theorem dX9_readLaw_0 : decode cX9_readLaw 0 = .ok (.aload_n 0, 1) := by decide +kernel
theorem dX9_readLaw_1 : decode cX9_readLaw 1 = .ok (.getfield 27, 3) := by decide +kernel
theorem dX9_readLaw_4 : decode cX9_readLaw 4 = .ok (.ifCond .eq 9, 3) := by decide +kernel
theorem dX9_readLaw_7 : decode cX9_readLaw 7 = .ok (.aload_n 1, 1) := by decide +kernel
theorem dX9_readLaw_8 : decode cX9_readLaw 8 = .ok (.iconst 3, 1) := by decide +kernel
theorem dX9_readLaw_9 : decode cX9_readLaw 9 = .ok (.invokevirtual 67, 3) := by decide +kernel
theorem dX9_readLaw_12 : decode cX9_readLaw 12 = .ok (.ireturn, 1) := by decide +kernel
theorem dX9_readLaw_13 : decode cX9_readLaw 13 = .ok (.aload_n 0, 1) := by decide +kernel
theorem dX9_readLaw_14 : decode cX9_readLaw 14 = .ok (.iconst 1, 1) := by decide +kernel
theorem dX9_readLaw_15 : decode cX9_readLaw 15 = .ok (.putfield 27, 3) := by decide +kernel
theorem dX9_readLaw_18 : decode cX9_readLaw 18 = .ok (.aload_n 1, 1) := by decide +kernel
theorem dX9_readLaw_19 : decode cX9_readLaw 19 = .ok (.invokevirtual 82, 3) := by decide +kernel
theorem dX9_readLaw_22 : decode cX9_readLaw 22 = .ok (.aload_n 1, 1) := by decide +kernel
theorem dX9_readLaw_23 : decode cX9_readLaw 23 = .ok (.getfield 44, 3) := by decide +kernel
theorem dX9_readLaw_26 : decode cX9_readLaw 26 = .ok (.bipush 7, 2) := by decide +kernel
theorem dX9_readLaw_28 : decode cX9_readLaw 28 = .ok (.if_icmp .ne 14, 3) := by decide +kernel
theorem dX9_readLaw_31 : decode cX9_readLaw 31 = .ok (.aload_n 0, 1) := by decide +kernel
theorem dX9_readLaw_32 : decode cX9_readLaw 32 = .ok (.getfield 12, 3) := by decide +kernel
theorem dX9_readLaw_35 : decode cX9_readLaw 35 = .ok (.iconst 0, 1) := by decide +kernel
theorem dX9_readLaw_36 : decode cX9_readLaw 36 = .ok (.putfield 132, 3) := by decide +kernel
theorem dX9_readLaw_39 : decode cX9_readLaw 39 = .ok (.goto 49, 3) := by decide +kernel
theorem dX9_readLaw_42 : decode cX9_readLaw 42 = .ok (.aload_n 1, 1) := by decide +kernel
theorem dX9_readLaw_43 : decode cX9_readLaw 43 = .ok (.getfield 44, 3) := by decide +kernel
theorem dX9_readLaw_46 : decode cX9_readLaw 46 = .ok (.bipush 8, 2) := by decide +kernel
theorem dX9_readLaw_48 : decode cX9_readLaw 48 = .ok (.if_icmp .ne 14, 3) := by decide +kernel
theorem dX9_readLaw_51 : decode cX9_readLaw 51 = .ok (.aload_n 0, 1) := by decide +kernel
theorem dX9_readLaw_52 : decode cX9_readLaw 52 = .ok (.getfield 12, 3) := by decide +kernel
theorem dX9_readLaw_55 : decode cX9_readLaw 55 = .ok (.iconst 1, 1) := by decide +kernel
theorem dX9_readLaw_56 : decode cX9_readLaw 56 = .ok (.putfield 132, 3) := by decide +kernel
theorem dX9_readLaw_59 : decode cX9_readLaw 59 = .ok (.goto 29, 3) := by decide +kernel
theorem dX9_readLaw_62 : decode cX9_readLaw 62 = .ok (.aload_n 1, 1) := by decide +kernel
theorem dX9_readLaw_63 : decode cX9_readLaw 63 = .ok (.getfield 44, 3) := by decide +kernel
theorem dX9_readLaw_66 : decode cX9_readLaw 66 = .ok (.bipush 9, 2) := by decide +kernel
theorem dX9_readLaw_68 : decode cX9_readLaw 68 = .ok (.if_icmp .ne 14, 3) := by decide +kernel
theorem dX9_readLaw_71 : decode cX9_readLaw 71 = .ok (.aload_n 0, 1) := by decide +kernel
theorem dX9_readLaw_72 : decode cX9_readLaw 72 = .ok (.getfield 12, 3) := by decide +kernel
theorem dX9_readLaw_75 : decode cX9_readLaw 75 = .ok (.iconst 2, 1) := by decide +kernel
theorem dX9_readLaw_76 : decode cX9_readLaw 76 = .ok (.putfield 132, 3) := by decide +kernel
theorem dX9_readLaw_79 : decode cX9_readLaw 79 = .ok (.goto 9, 3) := by decide +kernel
theorem dX9_readLaw_82 : decode cX9_readLaw 82 = .ok (.aload_n 1, 1) := by decide +kernel
theorem dX9_readLaw_83 : decode cX9_readLaw 83 = .ok (.iconst 1, 1) := by decide +kernel
theorem dX9_readLaw_84 : decode cX9_readLaw 84 = .ok (.invokevirtual 67, 3) := by decide +kernel
theorem dX9_readLaw_87 : decode cX9_readLaw 87 = .ok (.ireturn, 1) := by decide +kernel
theorem dX9_readLaw_88 : decode cX9_readLaw 88 = .ok (.aload_n 1, 1) := by decide +kernel
theorem dX9_readLaw_89 : decode cX9_readLaw 89 = .ok (.invokevirtual 82, 3) := by decide +kernel
theorem dX9_readLaw_92 : decode cX9_readLaw 92 = .ok (.aload_n 1, 1) := by decide +kernel
theorem dX9_readLaw_93 : decode cX9_readLaw 93 = .ok (.bipush 59, 2) := by decide +kernel
theorem dX9_readLaw_95 : decode cX9_readLaw 95 = .ok (.invokevirtual 110, 3) := by decide +kernel
theorem dX9_readLaw_98 : decode cX9_readLaw 98 = .ok (.ireturn, 1) := by decide +kernel
theorem rc_2 : Rg 2 2 2 := ⟨by decide, by decide⟩
theorem rc_3 : Rg 3 3 3 := ⟨by decide, by decide⟩
theorem rc_4 : Rg 4 4 4 := ⟨by decide, by decide⟩
theorem rc_6 : Rg 6 6 6 := ⟨by decide, by decide⟩
theorem rc_7 : Rg 7 7 7 := ⟨by decide, by decide⟩
theorem rc_9 : Rg 9 9 9 := ⟨by decide, by decide⟩
theorem rc_10 : Rg 10 10 10 := ⟨by decide, by decide⟩
theorem rc_32 : Rg 32 32 32 := ⟨by decide, by decide⟩
theorem rc_42 : Rg 42 42 42 := ⟨by decide, by decide⟩
theorem rc_99 : Rg 99 99 99 := ⟨by decide, by decide⟩
theorem rc_101 : Rg 101 101 101 := ⟨by decide, by decide⟩
theorem rc_102 : Rg 102 102 102 := ⟨by decide, by decide⟩
theorem rc_103 : Rg 103 103 103 := ⟨by decide, by decide⟩
set_option maxRecDepth 100000 in
set_option maxHeartbeats 8000000 in
theorem c_X10_readToken {l : Launch} {D : va_G} {cy : Nat → ClassId} {L : List Nat} {κ ln : Nat → Nat} {R : Nat → Nat → Option Nat} {I : Nat → Nat → Int32} {J : Nat → Nat → Int64} {ow : Nat → Nat × Nat} (W9 : ∀ a ∈ L, Shp L κ ln R ow a) {x : Nat} (hLx : x ∈ L) (hkx : κ x = 10) (a0 : Int32) (ra0 : Rg 0 939 a0) (hU : Iv L κ R ow I) : CtI l yX10_readToken cX10_readToken 8 (some .int) { frames := 1, cells := 0, slots := 0, locals := 24 } D cy L κ ln R I J [.ref x, .int a0] (fun r I2 J2 => Iv L κ R ow I2 ∧ Fq L κ ow [1006, 70200, 70300] I I2 ∧ Fq L κ ow [70400] J J2 ∧ Rg 0 940 r ∧ ((r, TPf R I2 J2 x) = fReadToken a0 (TPf R I J x))) := by
  refine CtI.of (by decide +kernel) (Nat.le_of_ble_eq_true rfl) ?_
  intro p e s m below meth c B K
  have C := B.1
  have hF : Fq L κ ow [1006, 70200, 70300] I I := fq_rf
  have hG : Fq L κ ow [70400] J J := fq_rf
  obtain ⟨b_1, hb_1, hb_1L, hb_1k, hb_1n, hb_1o⟩ := shp_a (W9 x hLx) hkx 0 13 940 rfl (by decide)
  obtain ⟨b_2, hb_2, hb_2L, hb_2k, hb_2n, hb_2o⟩ := shp_a (W9 x hLx) hkx 1 15 28 rfl (by decide)
  obtain ⟨b_3, hb_3, hb_3L, hb_3k, hb_3n, hb_3o⟩ := shp_a (W9 x hLx) hkx 2 14 901 rfl (by decide)
  obtain ⟨b_4, hb_4, hb_4L, hb_4k, hb_4n, hb_4o⟩ := shp_a (W9 x hLx) hkx 3 14 901 rfl (by decide)
  obtain ⟨b_5, hb_5, hb_5L, hb_5k, hb_5n, hb_5o⟩ := shp_a (W9 x hLx) hkx 4 15 901 rfl (by decide)
  have etqx : ∀ I J, TPf R I J x = TPq I J x b_1 b_2 b_3 b_4 b_5 := fun I J => by simp only [TPf, rr_, Option.getD_some, hb_1, hb_2, hb_3, hb_4, hb_5]
  have wtqx : tqw_ L κ ow x b_1 b_2 b_3 b_4 b_5 := ⟨⟨hLx, hb_1L, hb_2L, hb_3L, hb_4L, hb_5L⟩, ⟨(ro_o hkx (by decide)), (ro_a hb_1k (by decide) hb_1o hkx rfl), (ro_a hb_2k (by decide) hb_2o hkx rfl), (ro_a hb_3k (by decide) hb_3o hkx rfl), (ro_a hb_4k (by decide) hb_4o hkx rfl), (ro_a hb_5k (by decide) hb_5o hkx rfl)⟩⟩
  obtain ⟨s_6, hs_6⟩ : ∃ z, TPq I J x b_1 b_2 b_3 b_4 b_5 = z := ⟨_, rfl⟩
  refine g_lo (is := [0, 1]) (lo2 := [(0, .ref x), (1, .int a0)]) rfl ?_
  have l_13 : ∀ (n_13 : Nat) (v_7 : Int32) (v_8 : Int32) (y_9 : Int64) (v_10 : Int32) (v_11 : Int32) (rv_11 : Rg 0 940 v_11) (hq_12 : rq s_6.by_ s_6.len v_11 v_7 v_8 y_9 v_10 = rq s_6.by_ s_6.len a0 0 0 0 0) (hm_13 : 940 < (v_11 : Int32).toInt + (n_13 : Int)), WG p l e { frames := 1, cells := 0, slots := 0, locals := 24 } s m ([.ref x, .int a0] : List Value).toArray below meth c 8 0 0 (MQ below (Qi_ D cy L κ ln R (fun r I2 J2 => Iv L κ R ow I2 ∧ Fq L κ ow [1006, 70200, 70300] I I2 ∧ Fq L κ ow [70400] J J2 ∧ Rg 0 940 r ∧ ((r, TPf R I2 J2 x) = fReadToken a0 (TPf R I J x)))) ([.ref x, .int a0] : List Value).toArray s 0 0 (Al_ L)) D cy (Al_ L) s.heap L κ ln R I J 13 [(0, .ref x), (1, .int a0), (2, .int v_7), (3, .int v_8), (4, .long y_9), (6, .int v_10), (7, .int v_11)] [] := by
    intro n_13
    induction n_13 with
    | zero =>
      intro v_7 v_8 y_9 v_10 v_11 rv_11 hq_12 hm_13
      exact ms_0 rv_11 hm_13
    | succ n_13 ih_13 =>
      intro v_7 v_8 y_9 v_10 v_11 rv_11 hq_12 hm_13
      have hQ_14 := hq_12.symm
      have u_15 := rq_eq (b := s_6.by_) (len := s_6.len) (i := v_11) (le := v_7) (dg := v_8) (w := y_9) (nu := v_10) (rv_11)
      refine g_iload C 6 dX10_readToken_13 rfl ?_
      refine g_aload_n C 0 dX10_readToken_15 rfl rfl ?_
      obtain ⟨x_16, hx_16, rx_16⟩ := ex_get (I := I) (a := x) (j := 5) (lo := 0) (hi := 940) hU.1 hLx (ro_o hkx (by decide)) rfl
      have f_17 : s_6.len = x_16 := (congrArg TP_.len hs_6).symm.trans hx_16
      refine g_getI C K hLx hkx f_10_29 (v := x_16) hx_16 dX10_readToken_16 ?_
      refine g_icmp_ge C (tgt := 118) dX10_readToken_19 (by decide) (fun h_18 => ?_) (fun h_18 => ?_)
      · skip
        refine g_iload C 6 dX10_readToken_118 rfl ?_
        refine g_iload_n C 1 dX10_readToken_120 rfl rfl ?_
        refine g_icmp_ne C (tgt := 157) dX10_readToken_121 (by decide) (fun h_19 => ?_) (fun h_19 => ?_)
        · skip
          refine g_iload_n C 3 dX10_readToken_157 rfl rfl ?_
          refine g_if_ne C (tgt := 183) dX10_readToken_158 (by decide) (fun h_20 => ?_) (fun h_20 => ?_)
          · skip
            have n_21 : ¬ v_8 = 0 := h_20
            refine g_iload_n C 2 dX10_readToken_183 rfl rfl ?_
            refine g_if_ne C (tgt := 205) dX10_readToken_184 (by decide) (fun h_22 => ?_) (fun h_22 => ?_)
            · skip
              have n_23 : ¬ v_7 = 0 := h_22
              refine g_aload_n C 0 dX10_readToken_205 rfl rfl ?_
              refine g_bipush C (v := 103) dX10_readToken_206 (by decide) ?_
              refine g_iload_n C 1 dX10_readToken_208 rfl rfl ?_
              refine g_lconst C (v := 0) dX10_readToken_209 (by decide) ?_
              refine g_callVV C K (c_X10_addToken W9 hLx hkx 103 a0 0 (rg_w rc_103 (by decide) (by decide)) (ra0) hU) hLx hkx (by decide) rfl v_10_80 rfl ⟨rfl, rfl⟩ ⟨Nat.le_of_ble_eq_true rfl, Nat.le_of_ble_eq_true rfl⟩ (Nat.le_of_ble_eq_true rfl) ⟨Nat.le_of_ble_eq_true rfl, Nat.le_of_ble_eq_true rfl⟩ dX10_readToken_210 rfl (st := []) (fun I_25 J_26 h_27 => ?_)
              obtain ⟨hUI_25, hFI_25, hGJ_26, fx_24⟩ := h_27
              have hF_28 := fq_tr hF hFI_25 (by decide)
              have hG_29 := fq_tr hG hGJ_26 (by decide)
              obtain ⟨s_31, hs_31⟩ : ∃ z, TPq I_25 J_26 x b_1 b_2 b_3 b_4 b_5 = z := ⟨_, rfl⟩
              have c_30 : fAddToken (103) (a0) (0) (s_6) = s_31 := by have q := fx_24; simp only [etqx, hs_6, hs_31] at q; exact q.symm
              refine g_iload C 6 dX10_readToken_213 rfl ?_
              exact g_zret (ty := .int) (r := v_11) B K rfl (rfl) ⟨hUI_25, hF_28, hG_29, rv_11, (by (try simp only [hx_16, f_17, h_18, h_19, h_20, h_22, c_30, if_true, if_false, tqM_by_, tqM_wd, tqM_tk, tqM_pl, tqM_vl, tqM_len, tqM_n, tqM_at_, tqM_token, tqM_place, tqM_value, tqM_fault, tqM_fat, TP_.w_by_, TP_.w_wd, TP_.w_tk, TP_.w_pl, TP_.w_vl, TP_.w_len, TP_.w_n, TP_.w_at_, TP_.w_token, TP_.w_place, TP_.w_value, TP_.w_fault, TP_.w_fat] at hQ_14); (try simp only [hx_16, f_17, h_18, h_19, h_20, h_22, c_30, if_true, if_false, tqM_by_, tqM_wd, tqM_tk, tqM_pl, tqM_vl, tqM_len, tqM_n, tqM_at_, tqM_token, tqM_place, tqM_value, tqM_fault, tqM_fat, TP_.w_by_, TP_.w_wd, TP_.w_tk, TP_.w_pl, TP_.w_vl, TP_.w_len, TP_.w_n, TP_.w_at_, TP_.w_token, TP_.w_place, TP_.w_value, TP_.w_fault, TP_.w_fat] at u_15); simp only [fReadToken, RQ_.i, RQ_.le, RQ_.dg, RQ_.w, RQ_.nu, etqx, hs_31, hs_6, hQ_14, u_15, hx_16, f_17, h_18, h_19, h_20, h_22, c_30, if_true, if_false, tqM_by_, tqM_wd, tqM_tk, tqM_pl, tqM_vl, tqM_len, tqM_n, tqM_at_, tqM_token, tqM_place, tqM_value, tqM_fault, tqM_fat, TP_.w_by_, TP_.w_wd, TP_.w_tk, TP_.w_pl, TP_.w_vl, TP_.w_len, TP_.w_n, TP_.w_at_, TP_.w_token, TP_.w_place, TP_.w_value, TP_.w_fault, TP_.w_fat])⟩ dX10_readToken_215
            · skip
              have r_32 := (⟨(eq_rg (h_22) rc_0).1, (eq_rg (h_22) rc_0).2⟩ : Rg 0 0 v_7)
              refine g_iload_n C 3 dX10_readToken_187 rfl rfl ?_
              refine g_iconst C (v := 3) dX10_readToken_188 (by decide) ?_
              refine g_icmp_gt C (tgt := 205) dX10_readToken_189 (by decide) (fun h_33 => ?_) (fun h_33 => ?_)
              · skip
                have r_34 := lt_r (lo := 4) (h_33) rc_3 (rg_all v_8) (by decide)
                refine g_aload_n C 0 dX10_readToken_205 rfl rfl ?_
                refine g_bipush C (v := 103) dX10_readToken_206 (by decide) ?_
                refine g_iload_n C 1 dX10_readToken_208 rfl rfl ?_
                refine g_lconst C (v := 0) dX10_readToken_209 (by decide) ?_
                refine g_callVV C K (c_X10_addToken W9 hLx hkx 103 a0 0 (rg_w rc_103 (by decide) (by decide)) (ra0) hU) hLx hkx (by decide) rfl v_10_80 rfl ⟨rfl, rfl⟩ ⟨Nat.le_of_ble_eq_true rfl, Nat.le_of_ble_eq_true rfl⟩ (Nat.le_of_ble_eq_true rfl) ⟨Nat.le_of_ble_eq_true rfl, Nat.le_of_ble_eq_true rfl⟩ dX10_readToken_210 rfl (st := []) (fun I_36 J_37 h_38 => ?_)
                obtain ⟨hUI_36, hFI_36, hGJ_37, fx_35⟩ := h_38
                have hF_39 := fq_tr hF hFI_36 (by decide)
                have hG_40 := fq_tr hG hGJ_37 (by decide)
                obtain ⟨s_42, hs_42⟩ : ∃ z, TPq I_36 J_37 x b_1 b_2 b_3 b_4 b_5 = z := ⟨_, rfl⟩
                have c_41 : fAddToken (103) (a0) (0) (s_6) = s_42 := by have q := fx_35; simp only [etqx, hs_6, hs_42] at q; exact q.symm
                refine g_iload C 6 dX10_readToken_213 rfl ?_
                exact g_zret (ty := .int) (r := v_11) B K rfl (rfl) ⟨hUI_36, hF_39, hG_40, rv_11, (by (try simp only [hx_16, f_17, h_18, h_19, h_20, (eq_true h_22), h_33, c_41, if_true, if_false, tqM_by_, tqM_wd, tqM_tk, tqM_pl, tqM_vl, tqM_len, tqM_n, tqM_at_, tqM_token, tqM_place, tqM_value, tqM_fault, tqM_fat, TP_.w_by_, TP_.w_wd, TP_.w_tk, TP_.w_pl, TP_.w_vl, TP_.w_len, TP_.w_n, TP_.w_at_, TP_.w_token, TP_.w_place, TP_.w_value, TP_.w_fault, TP_.w_fat] at hQ_14); (try simp only [hx_16, f_17, h_18, h_19, h_20, (eq_true h_22), h_33, c_41, if_true, if_false, tqM_by_, tqM_wd, tqM_tk, tqM_pl, tqM_vl, tqM_len, tqM_n, tqM_at_, tqM_token, tqM_place, tqM_value, tqM_fault, tqM_fat, TP_.w_by_, TP_.w_wd, TP_.w_tk, TP_.w_pl, TP_.w_vl, TP_.w_len, TP_.w_n, TP_.w_at_, TP_.w_token, TP_.w_place, TP_.w_value, TP_.w_fault, TP_.w_fat] at u_15); simp only [fReadToken, RQ_.i, RQ_.le, RQ_.dg, RQ_.w, RQ_.nu, etqx, hs_42, hs_6, hQ_14, u_15, hx_16, f_17, h_18, h_19, h_20, (eq_true h_22), h_33, c_41, if_true, if_false, tqM_by_, tqM_wd, tqM_tk, tqM_pl, tqM_vl, tqM_len, tqM_n, tqM_at_, tqM_token, tqM_place, tqM_value, tqM_fault, tqM_fat, TP_.w_by_, TP_.w_wd, TP_.w_tk, TP_.w_pl, TP_.w_vl, TP_.w_len, TP_.w_n, TP_.w_at_, TP_.w_token, TP_.w_place, TP_.w_value, TP_.w_fault, TP_.w_fat])⟩ dX10_readToken_215
              · skip
                have r_43 := le_l (nlt h_33) (rg_all v_8) rc_3
                refine g_aload_n C 0 dX10_readToken_192 rfl rfl ?_
                refine g_bipush C (v := 101) dX10_readToken_193 (by decide) ?_
                refine g_iload_n C 1 dX10_readToken_195 rfl rfl ?_
                refine g_iload C 5 dX10_readToken_196 rfl ?_
                obtain ⟨y_44, hy_44⟩ : ∃ z, Int32.toInt64 v_10 = z := ⟨_, rfl⟩
                refine g_i2l C (v := y_44) dX10_readToken_198 hy_44 ?_
                refine g_callVV C K (c_X10_addToken W9 hLx hkx 101 a0 y_44 (rg_w rc_101 (by decide) (by decide)) (ra0) hU) hLx hkx (by decide) rfl v_10_80 rfl ⟨rfl, rfl⟩ ⟨Nat.le_of_ble_eq_true rfl, Nat.le_of_ble_eq_true rfl⟩ (Nat.le_of_ble_eq_true rfl) ⟨Nat.le_of_ble_eq_true rfl, Nat.le_of_ble_eq_true rfl⟩ dX10_readToken_199 rfl (st := []) (fun I_46 J_47 h_48 => ?_)
                obtain ⟨hUI_46, hFI_46, hGJ_47, fx_45⟩ := h_48
                have hF_49 := fq_tr hF hFI_46 (by decide)
                have hG_50 := fq_tr hG hGJ_47 (by decide)
                obtain ⟨s_52, hs_52⟩ : ∃ z, TPq I_46 J_47 x b_1 b_2 b_3 b_4 b_5 = z := ⟨_, rfl⟩
                have c_51 : fAddToken (101) (a0) (y_44) (s_6) = s_52 := by have q := fx_45; simp only [etqx, hs_6, hs_52] at q; exact q.symm
                refine g_goto C (tgt := 213) dX10_readToken_202 (by decide) ?_
                refine g_iload C 6 dX10_readToken_213 rfl ?_
                exact g_zret (ty := .int) (r := v_11) B K rfl (rfl) ⟨hUI_46, hF_49, hG_50, rv_11, (by (try simp only [hx_16, f_17, h_18, h_19, h_20, (eq_true h_22), h_33, (nlt h_33), hy_44, c_51, if_true, if_false, tqM_by_, tqM_wd, tqM_tk, tqM_pl, tqM_vl, tqM_len, tqM_n, tqM_at_, tqM_token, tqM_place, tqM_value, tqM_fault, tqM_fat, TP_.w_by_, TP_.w_wd, TP_.w_tk, TP_.w_pl, TP_.w_vl, TP_.w_len, TP_.w_n, TP_.w_at_, TP_.w_token, TP_.w_place, TP_.w_value, TP_.w_fault, TP_.w_fat] at hQ_14); (try simp only [hx_16, f_17, h_18, h_19, h_20, (eq_true h_22), h_33, (nlt h_33), hy_44, c_51, if_true, if_false, tqM_by_, tqM_wd, tqM_tk, tqM_pl, tqM_vl, tqM_len, tqM_n, tqM_at_, tqM_token, tqM_place, tqM_value, tqM_fault, tqM_fat, TP_.w_by_, TP_.w_wd, TP_.w_tk, TP_.w_pl, TP_.w_vl, TP_.w_len, TP_.w_n, TP_.w_at_, TP_.w_token, TP_.w_place, TP_.w_value, TP_.w_fault, TP_.w_fat] at u_15); simp only [fReadToken, RQ_.i, RQ_.le, RQ_.dg, RQ_.w, RQ_.nu, etqx, hs_52, hs_6, hQ_14, u_15, hx_16, f_17, h_18, h_19, h_20, (eq_true h_22), h_33, (nlt h_33), hy_44, c_51, if_true, if_false, tqM_by_, tqM_wd, tqM_tk, tqM_pl, tqM_vl, tqM_len, tqM_n, tqM_at_, tqM_token, tqM_place, tqM_value, tqM_fault, tqM_fat, TP_.w_by_, TP_.w_wd, TP_.w_tk, TP_.w_pl, TP_.w_vl, TP_.w_len, TP_.w_n, TP_.w_at_, TP_.w_token, TP_.w_place, TP_.w_value, TP_.w_fault, TP_.w_fat])⟩ dX10_readToken_215
          · skip
            have r_53 := (⟨(eq_rg (h_20) rc_0).1, (eq_rg (h_20) rc_0).2⟩ : Rg 0 0 v_8)
            refine g_iload_n C 2 dX10_readToken_161 rfl rfl ?_
            refine g_bipush C (v := 7) dX10_readToken_162 (by decide) ?_
            refine g_icmp_gt C (tgt := 183) dX10_readToken_164 (by decide) (fun h_54 => ?_) (fun h_54 => ?_)
            · skip
              have r_55 := lt_r (lo := 8) (h_54) rc_7 (rg_all v_7) (by decide)
              refine g_iload_n C 2 dX10_readToken_183 rfl rfl ?_
              refine g_if_ne C (tgt := 205) dX10_readToken_184 (by decide) (fun h_56 => ?_) (fun h_56 => ?_)
              · skip
                have n_57 : ¬ v_7 = 0 := h_56
                refine g_aload_n C 0 dX10_readToken_205 rfl rfl ?_
                refine g_bipush C (v := 103) dX10_readToken_206 (by decide) ?_
                refine g_iload_n C 1 dX10_readToken_208 rfl rfl ?_
                refine g_lconst C (v := 0) dX10_readToken_209 (by decide) ?_
                refine g_callVV C K (c_X10_addToken W9 hLx hkx 103 a0 0 (rg_w rc_103 (by decide) (by decide)) (ra0) hU) hLx hkx (by decide) rfl v_10_80 rfl ⟨rfl, rfl⟩ ⟨Nat.le_of_ble_eq_true rfl, Nat.le_of_ble_eq_true rfl⟩ (Nat.le_of_ble_eq_true rfl) ⟨Nat.le_of_ble_eq_true rfl, Nat.le_of_ble_eq_true rfl⟩ dX10_readToken_210 rfl (st := []) (fun I_59 J_60 h_61 => ?_)
                obtain ⟨hUI_59, hFI_59, hGJ_60, fx_58⟩ := h_61
                have hF_62 := fq_tr hF hFI_59 (by decide)
                have hG_63 := fq_tr hG hGJ_60 (by decide)
                obtain ⟨s_65, hs_65⟩ : ∃ z, TPq I_59 J_60 x b_1 b_2 b_3 b_4 b_5 = z := ⟨_, rfl⟩
                have c_64 : fAddToken (103) (a0) (0) (s_6) = s_65 := by have q := fx_58; simp only [etqx, hs_6, hs_65] at q; exact q.symm
                refine g_iload C 6 dX10_readToken_213 rfl ?_
                exact g_zret (ty := .int) (r := v_11) B K rfl (rfl) ⟨hUI_59, hF_62, hG_63, rv_11, (by (try simp only [hx_16, f_17, h_18, h_19, (eq_true h_20), h_54, h_56, c_64, if_true, if_false, tqM_by_, tqM_wd, tqM_tk, tqM_pl, tqM_vl, tqM_len, tqM_n, tqM_at_, tqM_token, tqM_place, tqM_value, tqM_fault, tqM_fat, TP_.w_by_, TP_.w_wd, TP_.w_tk, TP_.w_pl, TP_.w_vl, TP_.w_len, TP_.w_n, TP_.w_at_, TP_.w_token, TP_.w_place, TP_.w_value, TP_.w_fault, TP_.w_fat] at hQ_14); (try simp only [hx_16, f_17, h_18, h_19, (eq_true h_20), h_54, h_56, c_64, if_true, if_false, tqM_by_, tqM_wd, tqM_tk, tqM_pl, tqM_vl, tqM_len, tqM_n, tqM_at_, tqM_token, tqM_place, tqM_value, tqM_fault, tqM_fat, TP_.w_by_, TP_.w_wd, TP_.w_tk, TP_.w_pl, TP_.w_vl, TP_.w_len, TP_.w_n, TP_.w_at_, TP_.w_token, TP_.w_place, TP_.w_value, TP_.w_fault, TP_.w_fat] at u_15); simp only [fReadToken, RQ_.i, RQ_.le, RQ_.dg, RQ_.w, RQ_.nu, etqx, hs_65, hs_6, hQ_14, u_15, hx_16, f_17, h_18, h_19, (eq_true h_20), h_54, h_56, c_64, if_true, if_false, tqM_by_, tqM_wd, tqM_tk, tqM_pl, tqM_vl, tqM_len, tqM_n, tqM_at_, tqM_token, tqM_place, tqM_value, tqM_fault, tqM_fat, TP_.w_by_, TP_.w_wd, TP_.w_tk, TP_.w_pl, TP_.w_vl, TP_.w_len, TP_.w_n, TP_.w_at_, TP_.w_token, TP_.w_place, TP_.w_value, TP_.w_fault, TP_.w_fat])⟩ dX10_readToken_215
              · skip
                exact eq_no (h_56) r_55 rc_0 (by decide)
            · skip
              have r_66 := le_l (nlt h_54) (rg_all v_7) rc_7
              refine g_aload_n C 0 dX10_readToken_167 rfl rfl ?_
              refine g_aload_n C 0 dX10_readToken_168 rfl rfl ?_
              refine g_lload C 4 dX10_readToken_169 rfl ?_
              refine g_callVI C K (c_X10_tokenOfWord W9 hLx hkx y_9  hU) hLx hkx (by decide) rfl v_10_97 rfl ⟨rfl, rfl⟩ ⟨Nat.le_of_ble_eq_true rfl, Nat.le_of_ble_eq_true rfl⟩ (Nat.le_of_ble_eq_true rfl) ⟨Nat.le_of_ble_eq_true rfl, Nat.le_of_ble_eq_true rfl⟩ dX10_readToken_171 rfl (st := [.ref x]) (fun x_67 I_68 J_69 h_70 => ?_)
              obtain ⟨rfl, rfl, rx_67, fx_67⟩ := h_70
              have c_71 : fTow (y_9) (s_6) = x_67 := by have q := fx_67; simp only [etqx, hs_6] at q; exact q.symm
              refine g_iload_n C 1 dX10_readToken_174 rfl rfl ?_
              refine g_lload C 4 dX10_readToken_175 rfl ?_
              refine g_callVV C K (c_X10_addToken W9 hLx hkx x_67 a0 y_9 (rg_w rx_67 (by decide) (by decide)) (ra0) hU) hLx hkx (by decide) rfl v_10_80 rfl ⟨rfl, rfl⟩ ⟨Nat.le_of_ble_eq_true rfl, Nat.le_of_ble_eq_true rfl⟩ (Nat.le_of_ble_eq_true rfl) ⟨Nat.le_of_ble_eq_true rfl, Nat.le_of_ble_eq_true rfl⟩ dX10_readToken_177 rfl (st := []) (fun I_73 J_74 h_75 => ?_)
              obtain ⟨hUI_73, hFI_73, hGJ_74, fx_72⟩ := h_75
              have hF_76 := fq_tr hF hFI_73 (by decide)
              have hG_77 := fq_tr hG hGJ_74 (by decide)
              obtain ⟨s_79, hs_79⟩ : ∃ z, TPq I_73 J_74 x b_1 b_2 b_3 b_4 b_5 = z := ⟨_, rfl⟩
              have c_78 : fAddToken (x_67) (a0) (y_9) (s_6) = s_79 := by have q := fx_72; simp only [etqx, hs_6, hs_79] at q; exact q.symm
              refine g_goto C (tgt := 213) dX10_readToken_180 (by decide) ?_
              refine g_iload C 6 dX10_readToken_213 rfl ?_
              exact g_zret (ty := .int) (r := v_11) B K rfl (rfl) ⟨hUI_73, hF_76, hG_77, rv_11, (by (try simp only [hx_16, f_17, h_18, h_19, (eq_true h_20), h_54, (nlt h_54), c_71, c_78, if_true, if_false, tqM_by_, tqM_wd, tqM_tk, tqM_pl, tqM_vl, tqM_len, tqM_n, tqM_at_, tqM_token, tqM_place, tqM_value, tqM_fault, tqM_fat, TP_.w_by_, TP_.w_wd, TP_.w_tk, TP_.w_pl, TP_.w_vl, TP_.w_len, TP_.w_n, TP_.w_at_, TP_.w_token, TP_.w_place, TP_.w_value, TP_.w_fault, TP_.w_fat] at hQ_14); (try simp only [hx_16, f_17, h_18, h_19, (eq_true h_20), h_54, (nlt h_54), c_71, c_78, if_true, if_false, tqM_by_, tqM_wd, tqM_tk, tqM_pl, tqM_vl, tqM_len, tqM_n, tqM_at_, tqM_token, tqM_place, tqM_value, tqM_fault, tqM_fat, TP_.w_by_, TP_.w_wd, TP_.w_tk, TP_.w_pl, TP_.w_vl, TP_.w_len, TP_.w_n, TP_.w_at_, TP_.w_token, TP_.w_place, TP_.w_value, TP_.w_fault, TP_.w_fat] at u_15); simp only [fReadToken, RQ_.i, RQ_.le, RQ_.dg, RQ_.w, RQ_.nu, etqx, hs_79, hs_6, hQ_14, u_15, hx_16, f_17, h_18, h_19, (eq_true h_20), h_54, (nlt h_54), c_71, c_78, if_true, if_false, tqM_by_, tqM_wd, tqM_tk, tqM_pl, tqM_vl, tqM_len, tqM_n, tqM_at_, tqM_token, tqM_place, tqM_value, tqM_fault, tqM_fat, TP_.w_by_, TP_.w_wd, TP_.w_tk, TP_.w_pl, TP_.w_vl, TP_.w_len, TP_.w_n, TP_.w_at_, TP_.w_token, TP_.w_place, TP_.w_value, TP_.w_fault, TP_.w_fat])⟩ dX10_readToken_215
        · skip
          have r_80 := (⟨(rv_11).1, (eq_rg (h_19) ra0).2⟩ : Rg 0 939 v_11)
          refine g_aload_n C 0 dX10_readToken_124 rfl rfl ?_
          refine g_aload_n C 0 dX10_readToken_125 rfl rfl ?_
          refine g_getR C K hLx hkx f_10_9 hb_1 dX10_readToken_126 ?_
          refine g_iload_n C 1 dX10_readToken_129 rfl rfl ?_
          obtain ⟨x_81, hx_81, rx_81⟩ := ex_get (I := I) (a := b_1) (j := a0.toNatClampNeg) (lo := (-128)) (hi := 127) hU.1 hb_1L (ro_a hb_1k (by decide) hb_1o hkx rfl) (rfl)
          refine h_bald C K hb_1L hb_1k (v := x_81) (a0.toNatClampNeg) (rfl) (ix_0 ra0 (by decide)) (ix_lt ra0 (by decide) hb_1n (by decide)) hx_81 dX10_readToken_130 ?_
          have f_82 : s_6.by_ (a0.toNatClampNeg) = x_81 := (congrFun (congrArg TP_.by_ hs_6) _).symm.trans hx_81
          refine g_callSI C K (c_X10_isSign W9 x_81 (rx_81) hU) s_10_94 rfl ⟨rfl, rfl⟩ ⟨Nat.le_of_ble_eq_true rfl, Nat.le_of_ble_eq_true rfl⟩ (Nat.le_of_ble_eq_true rfl) ⟨Nat.le_of_ble_eq_true rfl, Nat.le_of_ble_eq_true rfl⟩ dX10_readToken_131 rfl (st := [.ref x]) (fun x_83 I_84 J_85 h_86 => ?_)
          obtain ⟨rfl, rfl, rx_83, fx_83⟩ := h_86
          have c_87 : isSg (x_81) = x_83 := fx_83.symm
          refine g_if_eq C (tgt := 146) dX10_readToken_134 (by decide) (fun h_88 => ?_) (fun h_88 => ?_)
          · skip
            have r_89 := (⟨(rx_83).1, (eq_rg (h_88) rc_0).2⟩ : Rg 0 0 x_83)
            refine g_bipush C (v := 103) dX10_readToken_146 (by decide) ?_
            refine g_iload_n C 1 dX10_readToken_148 rfl rfl ?_
            refine g_lconst C (v := 0) dX10_readToken_149 (by decide) ?_
            refine g_callVV C K (c_X10_addToken W9 hLx hkx 103 a0 0 (rg_w rc_103 (by decide) (by decide)) (ra0) hU) hLx hkx (by decide) rfl v_10_80 rfl ⟨rfl, rfl⟩ ⟨Nat.le_of_ble_eq_true rfl, Nat.le_of_ble_eq_true rfl⟩ (Nat.le_of_ble_eq_true rfl) ⟨Nat.le_of_ble_eq_true rfl, Nat.le_of_ble_eq_true rfl⟩ dX10_readToken_150 rfl (st := []) (fun I_91 J_92 h_93 => ?_)
            obtain ⟨hUI_91, hFI_91, hGJ_92, fx_90⟩ := h_93
            have hF_94 := fq_tr hF hFI_91 (by decide)
            have hG_95 := fq_tr hG hGJ_92 (by decide)
            obtain ⟨s_97, hs_97⟩ : ∃ z, TPq I_91 J_92 x b_1 b_2 b_3 b_4 b_5 = z := ⟨_, rfl⟩
            have c_96 : fAddToken (103) (a0) (0) (s_6) = s_97 := by have q := fx_90; simp only [etqx, hs_6, hs_97] at q; exact q.symm
            refine g_iload_n C 1 dX10_readToken_153 rfl rfl ?_
            refine g_iconst C (v := 1) dX10_readToken_154 (by decide) ?_
            obtain ⟨x_98, hx_98, rx_98, tx_98⟩ := ex_add 1 940 ra0 rc_1 (by decide) (by decide) (by decide) (by decide)
            refine g_iadd C (v := x_98) dX10_readToken_155 hx_98 ?_
            exact g_zret (ty := .int) (r := x_98) B K rfl (rfl) ⟨hUI_91, hF_94, hG_95, rg_w rx_98 (by decide) (by decide), (by (try simp only [hx_16, f_17, h_18, (eq_true h_19), hx_81, f_82, c_87, (eq_true h_88), c_96, hx_98, if_true, if_false, tqM_by_, tqM_wd, tqM_tk, tqM_pl, tqM_vl, tqM_len, tqM_n, tqM_at_, tqM_token, tqM_place, tqM_value, tqM_fault, tqM_fat, TP_.w_by_, TP_.w_wd, TP_.w_tk, TP_.w_pl, TP_.w_vl, TP_.w_len, TP_.w_n, TP_.w_at_, TP_.w_token, TP_.w_place, TP_.w_value, TP_.w_fault, TP_.w_fat] at hQ_14); (try simp only [hx_16, f_17, h_18, (eq_true h_19), hx_81, f_82, c_87, (eq_true h_88), c_96, hx_98, if_true, if_false, tqM_by_, tqM_wd, tqM_tk, tqM_pl, tqM_vl, tqM_len, tqM_n, tqM_at_, tqM_token, tqM_place, tqM_value, tqM_fault, tqM_fat, TP_.w_by_, TP_.w_wd, TP_.w_tk, TP_.w_pl, TP_.w_vl, TP_.w_len, TP_.w_n, TP_.w_at_, TP_.w_token, TP_.w_place, TP_.w_value, TP_.w_fault, TP_.w_fat] at u_15); simp only [fReadToken, RQ_.i, RQ_.le, RQ_.dg, RQ_.w, RQ_.nu, etqx, hs_97, hs_6, hQ_14, u_15, hx_16, f_17, h_18, (eq_true h_19), hx_81, f_82, c_87, (eq_true h_88), c_96, hx_98, if_true, if_false, tqM_by_, tqM_wd, tqM_tk, tqM_pl, tqM_vl, tqM_len, tqM_n, tqM_at_, tqM_token, tqM_place, tqM_value, tqM_fault, tqM_fat, TP_.w_by_, TP_.w_wd, TP_.w_tk, TP_.w_pl, TP_.w_vl, TP_.w_len, TP_.w_n, TP_.w_at_, TP_.w_token, TP_.w_place, TP_.w_value, TP_.w_fault, TP_.w_fat])⟩ dX10_readToken_156
          · skip
            have n_99 : ¬ x_83 = 0 := h_88
            have r_100 := ne_lo (lo := 1) n_99 rx_83 rc_0 rfl (by decide)
            refine g_aload_n C 0 dX10_readToken_137 rfl rfl ?_
            refine g_getR C K hLx hkx f_10_9 hb_1 dX10_readToken_138 ?_
            refine g_iload_n C 1 dX10_readToken_141 rfl rfl ?_
            refine h_bald C K hb_1L hb_1k (v := x_81) (a0.toNatClampNeg) (rfl) (ix_0 ra0 (by decide)) (ix_lt ra0 (by decide) hb_1n (by decide)) hx_81 dX10_readToken_142 ?_
            refine g_goto C (tgt := 148) dX10_readToken_143 (by decide) ?_
            refine g_iload_n C 1 dX10_readToken_148 rfl rfl ?_
            refine g_lconst C (v := 0) dX10_readToken_149 (by decide) ?_
            refine g_callVV C K (c_X10_addToken W9 hLx hkx x_81 a0 0 (rx_81) (ra0) hU) hLx hkx (by decide) rfl v_10_80 rfl ⟨rfl, rfl⟩ ⟨Nat.le_of_ble_eq_true rfl, Nat.le_of_ble_eq_true rfl⟩ (Nat.le_of_ble_eq_true rfl) ⟨Nat.le_of_ble_eq_true rfl, Nat.le_of_ble_eq_true rfl⟩ dX10_readToken_150 rfl (st := []) (fun I_103 J_104 h_105 => ?_)
            obtain ⟨hUI_103, hFI_103, hGJ_104, fx_102⟩ := h_105
            have hF_106 := fq_tr hF hFI_103 (by decide)
            have hG_107 := fq_tr hG hGJ_104 (by decide)
            obtain ⟨s_109, hs_109⟩ : ∃ z, TPq I_103 J_104 x b_1 b_2 b_3 b_4 b_5 = z := ⟨_, rfl⟩
            have c_108 : fAddToken (x_81) (a0) (0) (s_6) = s_109 := by have q := fx_102; simp only [etqx, hs_6, hs_109] at q; exact q.symm
            refine g_iload_n C 1 dX10_readToken_153 rfl rfl ?_
            refine g_iconst C (v := 1) dX10_readToken_154 (by decide) ?_
            obtain ⟨x_110, hx_110, rx_110, tx_110⟩ := ex_add 1 940 ra0 rc_1 (by decide) (by decide) (by decide) (by decide)
            refine g_iadd C (v := x_110) dX10_readToken_155 hx_110 ?_
            exact g_zret (ty := .int) (r := x_110) B K rfl (rfl) ⟨hUI_103, hF_106, hG_107, rg_w rx_110 (by decide) (by decide), (by (try simp only [hx_16, f_17, h_18, (eq_true h_19), hx_81, f_82, c_87, h_88, c_108, hx_110, if_true, if_false, tqM_by_, tqM_wd, tqM_tk, tqM_pl, tqM_vl, tqM_len, tqM_n, tqM_at_, tqM_token, tqM_place, tqM_value, tqM_fault, tqM_fat, TP_.w_by_, TP_.w_wd, TP_.w_tk, TP_.w_pl, TP_.w_vl, TP_.w_len, TP_.w_n, TP_.w_at_, TP_.w_token, TP_.w_place, TP_.w_value, TP_.w_fault, TP_.w_fat] at hQ_14); (try simp only [hx_16, f_17, h_18, (eq_true h_19), hx_81, f_82, c_87, h_88, c_108, hx_110, if_true, if_false, tqM_by_, tqM_wd, tqM_tk, tqM_pl, tqM_vl, tqM_len, tqM_n, tqM_at_, tqM_token, tqM_place, tqM_value, tqM_fault, tqM_fat, TP_.w_by_, TP_.w_wd, TP_.w_tk, TP_.w_pl, TP_.w_vl, TP_.w_len, TP_.w_n, TP_.w_at_, TP_.w_token, TP_.w_place, TP_.w_value, TP_.w_fault, TP_.w_fat] at u_15); simp only [fReadToken, RQ_.i, RQ_.le, RQ_.dg, RQ_.w, RQ_.nu, etqx, hs_109, hs_6, hQ_14, u_15, hx_16, f_17, h_18, (eq_true h_19), hx_81, f_82, c_87, h_88, c_108, hx_110, if_true, if_false, tqM_by_, tqM_wd, tqM_tk, tqM_pl, tqM_vl, tqM_len, tqM_n, tqM_at_, tqM_token, tqM_place, tqM_value, tqM_fault, tqM_fat, TP_.w_by_, TP_.w_wd, TP_.w_tk, TP_.w_pl, TP_.w_vl, TP_.w_len, TP_.w_n, TP_.w_at_, TP_.w_token, TP_.w_place, TP_.w_value, TP_.w_fault, TP_.w_fat])⟩ dX10_readToken_156
      · skip
        have r_111 := lt_l (hi := 939) (nle h_18) rv_11 rx_16 (by decide)
        have r_112 := lt_r (lo := 1) (nle h_18) rv_11 rx_16 (by decide)
        refine g_iload C 6 dX10_readToken_22 rfl ?_
        refine g_aload_n C 0 dX10_readToken_24 rfl rfl ?_
        refine g_getR C K hLx hkx f_10_9 hb_1 dX10_readToken_25 ?_
        refine g_alenB C K hb_1L hb_1k (v := 940) (by rw [hb_1n]; rfl) dX10_readToken_28 ?_
        refine g_icmp_ge C (tgt := 118) dX10_readToken_29 (by decide) (fun h_113 => ?_) (fun h_113 => ?_)
        · skip
          have r_114 := le_r (h_113) rc_940 r_111
          exact rg_no r_114 (by decide)
        · skip
          refine g_aload_n C 0 dX10_readToken_32 rfl rfl ?_
          refine g_getR C K hLx hkx f_10_9 hb_1 dX10_readToken_33 ?_
          refine g_iload C 6 dX10_readToken_36 rfl ?_
          obtain ⟨x_115, hx_115, rx_115⟩ := ex_get (I := I) (a := b_1) (j := v_11.toNatClampNeg) (lo := (-128)) (hi := 127) hU.1 hb_1L (ro_a hb_1k (by decide) hb_1o hkx rfl) (rfl)
          refine h_bald C K hb_1L hb_1k (v := x_115) (v_11.toNatClampNeg) (rfl) (ix_0 r_111 (by decide)) (ix_lt r_111 (by decide) hb_1n (by decide)) hx_115 dX10_readToken_38 ?_
          have f_116 : s_6.by_ (v_11.toNatClampNeg) = x_115 := (congrFun (congrArg TP_.by_ hs_6) _).symm.trans hx_115
          refine g_callSI C K (c_X10_isLetter W9 x_115 (rx_115) hU) s_10_87 rfl ⟨rfl, rfl⟩ ⟨Nat.le_of_ble_eq_true rfl, Nat.le_of_ble_eq_true rfl⟩ (Nat.le_of_ble_eq_true rfl) ⟨Nat.le_of_ble_eq_true rfl, Nat.le_of_ble_eq_true rfl⟩ dX10_readToken_39 rfl (st := []) (fun x_117 I_118 J_119 h_120 => ?_)
          obtain ⟨rfl, rfl, rx_117, fx_117⟩ := h_120
          have c_121 : isLc (x_115) = x_117 := fx_117.symm
          refine g_if_ne C (tgt := 58) dX10_readToken_42 (by decide) (fun h_122 => ?_) (fun h_122 => ?_)
          · skip
            have n_123 : ¬ x_117 = 0 := h_122
            have r_124 := ne_lo (lo := 1) n_123 rx_117 rc_0 rfl (by decide)
            refine g_aload_n C 0 dX10_readToken_58 rfl rfl ?_
            refine g_getR C K hLx hkx f_10_9 hb_1 dX10_readToken_59 ?_
            refine g_iload C 6 dX10_readToken_62 rfl ?_
            refine h_bald C K hb_1L hb_1k (v := x_115) (v_11.toNatClampNeg) (rfl) (ix_0 r_111 (by decide)) (ix_lt r_111 (by decide) hb_1n (by decide)) hx_115 dX10_readToken_64 ?_
            refine g_callSI C K (c_X10_isLetter W9 x_115 (rx_115) hU) s_10_87 rfl ⟨rfl, rfl⟩ ⟨Nat.le_of_ble_eq_true rfl, Nat.le_of_ble_eq_true rfl⟩ (Nat.le_of_ble_eq_true rfl) ⟨Nat.le_of_ble_eq_true rfl, Nat.le_of_ble_eq_true rfl⟩ dX10_readToken_65 rfl (st := []) (fun x_126 I_127 J_128 h_129 => ?_)
            obtain ⟨rfl, rfl, rx_126, fx_126⟩ := h_129
            have c_130 : isLc (x_115) = x_126 := fx_126.symm
            have ec_130 : x_117 = x_126 := c_121.symm.trans c_130
            subst ec_130
            refine g_if_eq C (tgt := 91) dX10_readToken_68 (by decide) (fun h_131 => ?_) (fun h_131 => ?_)
            · skip
              exact eq_no (h_131) r_124 rc_0 (by decide)
            · skip
              have n_132 : ¬ x_117 = 0 := h_131
              refine g_lload C 4 dX10_readToken_71 rfl ?_
              refine g_aload_n C 0 dX10_readToken_73 rfl rfl ?_
              refine g_getR C K hLx hkx f_10_9 hb_1 dX10_readToken_74 ?_
              refine g_iload C 6 dX10_readToken_77 rfl ?_
              refine h_bald C K hb_1L hb_1k (v := x_115) (v_11.toNatClampNeg) (rfl) (ix_0 r_111 (by decide)) (ix_lt r_111 (by decide) hb_1n (by decide)) hx_115 dX10_readToken_79 ?_
              refine g_callSL C K (c_X10_withLetter W9 y_9 x_115 (rx_115) hU) s_10_66 rfl ⟨rfl, rfl⟩ ⟨Nat.le_of_ble_eq_true rfl, Nat.le_of_ble_eq_true rfl⟩ (Nat.le_of_ble_eq_true rfl) ⟨Nat.le_of_ble_eq_true rfl, Nat.le_of_ble_eq_true rfl⟩ dX10_readToken_80 rfl (st := []) (fun x_134 I_135 J_136 h_137 => ?_)
              obtain ⟨rfl, rfl, fx_134⟩ := h_137
              have c_138 : wlt (y_9) (x_115) = x_134 := fx_134.symm
              refine g_lstore C dX10_readToken_83 (by decide) (lo2 := [(4, .long x_134), (0, .ref x), (1, .int a0), (2, .int v_7), (3, .int v_8), (6, .int v_10), (7, .int v_11)]) rfl ?_
              obtain ⟨x_139, hx_139, rx_139⟩ := ex_any (z0 := v_7 + 1)
              refine g_iinc C dX10_readToken_85 (k := 3) (v := x_139) rfl hx_139 (by decide) (lo2 := [(2, .int x_139), (4, .long x_134), (0, .ref x), (1, .int a0), (3, .int v_8), (6, .int v_10), (7, .int v_11)]) rfl ?_
              refine g_goto C (tgt := 112) dX10_readToken_88 (by decide) ?_
              obtain ⟨x_140, hx_140, rx_140, tx_140⟩ := ex_add (y := 1) 1 940 r_111 rc_1 (by decide) (by decide) (by decide) (by decide)
              refine g_iinc C dX10_readToken_112 (k := 6) (v := x_140) rfl hx_140 (by decide) (lo2 := [(7, .int x_140), (2, .int x_139), (4, .long x_134), (0, .ref x), (1, .int a0), (3, .int v_8), (6, .int v_10)]) rfl ?_
              refine g_goto C (tgt := 13) dX10_readToken_115 (by decide) ?_
              refine g_lo (is := [3, 4, 1, 5, 2, 6, 0]) (lo2 := [(0, .ref x), (1, .int a0), (2, .int x_139), (3, .int v_8), (4, .long x_134), (6, .int v_10), (7, .int x_140)]) rfl ?_
              exact ih_13 x_139 v_8 x_134 v_10 x_140 (rg_w rx_140 (by decide) (by decide)) (by (try simp only [hx_16, f_17, h_18, (nle h_18), h_113, (nle h_113), hx_115, f_116, c_121, h_122, h_131, c_138, hx_139, hx_140, if_true, if_false, tqM_by_, tqM_wd, tqM_tk, tqM_pl, tqM_vl, tqM_len, tqM_n, tqM_at_, tqM_token, tqM_place, tqM_value, tqM_fault, tqM_fat, TP_.w_by_, TP_.w_wd, TP_.w_tk, TP_.w_pl, TP_.w_vl, TP_.w_len, TP_.w_n, TP_.w_at_, TP_.w_token, TP_.w_place, TP_.w_value, TP_.w_fault, TP_.w_fat] at hQ_14); (try simp only [hx_16, f_17, h_18, (nle h_18), h_113, (nle h_113), hx_115, f_116, c_121, h_122, h_131, c_138, hx_139, hx_140, if_true, if_false, tqM_by_, tqM_wd, tqM_tk, tqM_pl, tqM_vl, tqM_len, tqM_n, tqM_at_, tqM_token, tqM_place, tqM_value, tqM_fault, tqM_fat, TP_.w_by_, TP_.w_wd, TP_.w_tk, TP_.w_pl, TP_.w_vl, TP_.w_len, TP_.w_n, TP_.w_at_, TP_.w_token, TP_.w_place, TP_.w_value, TP_.w_fault, TP_.w_fat] at u_15); simp only [RQ_.i, RQ_.le, RQ_.dg, RQ_.w, RQ_.nu, etqx, hs_6, hQ_14, u_15, hx_16, f_17, h_18, (nle h_18), h_113, (nle h_113), hx_115, f_116, c_121, h_122, h_131, c_138, hx_139, hx_140, if_true, if_false, tqM_by_, tqM_wd, tqM_tk, tqM_pl, tqM_vl, tqM_len, tqM_n, tqM_at_, tqM_token, tqM_place, tqM_value, tqM_fault, tqM_fat, TP_.w_by_, TP_.w_wd, TP_.w_tk, TP_.w_pl, TP_.w_vl, TP_.w_len, TP_.w_n, TP_.w_at_, TP_.w_token, TP_.w_place, TP_.w_value, TP_.w_fault, TP_.w_fat]) (ms_1 hm_13 (ti_k tx_140 rc_1) (by decide))
          · skip
            have r_141 := (⟨(rx_117).1, (eq_rg (h_122) rc_0).2⟩ : Rg 0 0 x_117)
            refine g_aload_n C 0 dX10_readToken_45 rfl rfl ?_
            refine g_getR C K hLx hkx f_10_9 hb_1 dX10_readToken_46 ?_
            refine g_iload C 6 dX10_readToken_49 rfl ?_
            refine h_bald C K hb_1L hb_1k (v := x_115) (v_11.toNatClampNeg) (rfl) (ix_0 r_111 (by decide)) (ix_lt r_111 (by decide) hb_1n (by decide)) hx_115 dX10_readToken_51 ?_
            refine g_callSI C K (c_X10_isDigit W9 x_115 (rx_115) hU) s_10_91 rfl ⟨rfl, rfl⟩ ⟨Nat.le_of_ble_eq_true rfl, Nat.le_of_ble_eq_true rfl⟩ (Nat.le_of_ble_eq_true rfl) ⟨Nat.le_of_ble_eq_true rfl, Nat.le_of_ble_eq_true rfl⟩ dX10_readToken_52 rfl (st := []) (fun x_143 I_144 J_145 h_146 => ?_)
            obtain ⟨rfl, rfl, rx_143, fx_143⟩ := h_146
            have c_147 : isDc (x_115) = x_143 := fx_143.symm
            refine g_if_eq C (tgt := 118) dX10_readToken_55 (by decide) (fun h_148 => ?_) (fun h_148 => ?_)
            · skip
              have r_149 := (⟨(rx_143).1, (eq_rg (h_148) rc_0).2⟩ : Rg 0 0 x_143)
              refine g_iload C 6 dX10_readToken_118 rfl ?_
              refine g_iload_n C 1 dX10_readToken_120 rfl rfl ?_
              refine g_icmp_ne C (tgt := 157) dX10_readToken_121 (by decide) (fun h_150 => ?_) (fun h_150 => ?_)
              · skip
                refine g_iload_n C 3 dX10_readToken_157 rfl rfl ?_
                refine g_if_ne C (tgt := 183) dX10_readToken_158 (by decide) (fun h_151 => ?_) (fun h_151 => ?_)
                · skip
                  have n_152 : ¬ v_8 = 0 := h_151
                  refine g_iload_n C 2 dX10_readToken_183 rfl rfl ?_
                  refine g_if_ne C (tgt := 205) dX10_readToken_184 (by decide) (fun h_153 => ?_) (fun h_153 => ?_)
                  · skip
                    have n_154 : ¬ v_7 = 0 := h_153
                    refine g_aload_n C 0 dX10_readToken_205 rfl rfl ?_
                    refine g_bipush C (v := 103) dX10_readToken_206 (by decide) ?_
                    refine g_iload_n C 1 dX10_readToken_208 rfl rfl ?_
                    refine g_lconst C (v := 0) dX10_readToken_209 (by decide) ?_
                    refine g_callVV C K (c_X10_addToken W9 hLx hkx 103 a0 0 (rg_w rc_103 (by decide) (by decide)) (ra0) hU) hLx hkx (by decide) rfl v_10_80 rfl ⟨rfl, rfl⟩ ⟨Nat.le_of_ble_eq_true rfl, Nat.le_of_ble_eq_true rfl⟩ (Nat.le_of_ble_eq_true rfl) ⟨Nat.le_of_ble_eq_true rfl, Nat.le_of_ble_eq_true rfl⟩ dX10_readToken_210 rfl (st := []) (fun I_156 J_157 h_158 => ?_)
                    obtain ⟨hUI_156, hFI_156, hGJ_157, fx_155⟩ := h_158
                    have hF_159 := fq_tr hF hFI_156 (by decide)
                    have hG_160 := fq_tr hG hGJ_157 (by decide)
                    obtain ⟨s_162, hs_162⟩ : ∃ z, TPq I_156 J_157 x b_1 b_2 b_3 b_4 b_5 = z := ⟨_, rfl⟩
                    have c_161 : fAddToken (103) (a0) (0) (s_6) = s_162 := by have q := fx_155; simp only [etqx, hs_6, hs_162] at q; exact q.symm
                    refine g_iload C 6 dX10_readToken_213 rfl ?_
                    exact g_zret (ty := .int) (r := v_11) B K rfl (rfl) ⟨hUI_156, hF_159, hG_160, rg_w r_111 (by decide) (by decide), (by (try simp only [hx_16, f_17, h_18, (nle h_18), h_113, (nle h_113), hx_115, f_116, c_121, (eq_true h_122), c_147, (eq_true h_148), h_150, h_151, h_153, c_161, if_true, if_false, tqM_by_, tqM_wd, tqM_tk, tqM_pl, tqM_vl, tqM_len, tqM_n, tqM_at_, tqM_token, tqM_place, tqM_value, tqM_fault, tqM_fat, TP_.w_by_, TP_.w_wd, TP_.w_tk, TP_.w_pl, TP_.w_vl, TP_.w_len, TP_.w_n, TP_.w_at_, TP_.w_token, TP_.w_place, TP_.w_value, TP_.w_fault, TP_.w_fat] at hQ_14); (try simp only [hx_16, f_17, h_18, (nle h_18), h_113, (nle h_113), hx_115, f_116, c_121, (eq_true h_122), c_147, (eq_true h_148), h_150, h_151, h_153, c_161, if_true, if_false, tqM_by_, tqM_wd, tqM_tk, tqM_pl, tqM_vl, tqM_len, tqM_n, tqM_at_, tqM_token, tqM_place, tqM_value, tqM_fault, tqM_fat, TP_.w_by_, TP_.w_wd, TP_.w_tk, TP_.w_pl, TP_.w_vl, TP_.w_len, TP_.w_n, TP_.w_at_, TP_.w_token, TP_.w_place, TP_.w_value, TP_.w_fault, TP_.w_fat] at u_15); simp only [fReadToken, RQ_.i, RQ_.le, RQ_.dg, RQ_.w, RQ_.nu, etqx, hs_162, hs_6, hQ_14, u_15, hx_16, f_17, h_18, (nle h_18), h_113, (nle h_113), hx_115, f_116, c_121, (eq_true h_122), c_147, (eq_true h_148), h_150, h_151, h_153, c_161, if_true, if_false, tqM_by_, tqM_wd, tqM_tk, tqM_pl, tqM_vl, tqM_len, tqM_n, tqM_at_, tqM_token, tqM_place, tqM_value, tqM_fault, tqM_fat, TP_.w_by_, TP_.w_wd, TP_.w_tk, TP_.w_pl, TP_.w_vl, TP_.w_len, TP_.w_n, TP_.w_at_, TP_.w_token, TP_.w_place, TP_.w_value, TP_.w_fault, TP_.w_fat])⟩ dX10_readToken_215
                  · skip
                    have r_163 := (⟨(eq_rg (h_153) rc_0).1, (eq_rg (h_153) rc_0).2⟩ : Rg 0 0 v_7)
                    refine g_iload_n C 3 dX10_readToken_187 rfl rfl ?_
                    refine g_iconst C (v := 3) dX10_readToken_188 (by decide) ?_
                    refine g_icmp_gt C (tgt := 205) dX10_readToken_189 (by decide) (fun h_164 => ?_) (fun h_164 => ?_)
                    · skip
                      have r_165 := lt_r (lo := 4) (h_164) rc_3 (rg_all v_8) (by decide)
                      refine g_aload_n C 0 dX10_readToken_205 rfl rfl ?_
                      refine g_bipush C (v := 103) dX10_readToken_206 (by decide) ?_
                      refine g_iload_n C 1 dX10_readToken_208 rfl rfl ?_
                      refine g_lconst C (v := 0) dX10_readToken_209 (by decide) ?_
                      refine g_callVV C K (c_X10_addToken W9 hLx hkx 103 a0 0 (rg_w rc_103 (by decide) (by decide)) (ra0) hU) hLx hkx (by decide) rfl v_10_80 rfl ⟨rfl, rfl⟩ ⟨Nat.le_of_ble_eq_true rfl, Nat.le_of_ble_eq_true rfl⟩ (Nat.le_of_ble_eq_true rfl) ⟨Nat.le_of_ble_eq_true rfl, Nat.le_of_ble_eq_true rfl⟩ dX10_readToken_210 rfl (st := []) (fun I_167 J_168 h_169 => ?_)
                      obtain ⟨hUI_167, hFI_167, hGJ_168, fx_166⟩ := h_169
                      have hF_170 := fq_tr hF hFI_167 (by decide)
                      have hG_171 := fq_tr hG hGJ_168 (by decide)
                      obtain ⟨s_173, hs_173⟩ : ∃ z, TPq I_167 J_168 x b_1 b_2 b_3 b_4 b_5 = z := ⟨_, rfl⟩
                      have c_172 : fAddToken (103) (a0) (0) (s_6) = s_173 := by have q := fx_166; simp only [etqx, hs_6, hs_173] at q; exact q.symm
                      refine g_iload C 6 dX10_readToken_213 rfl ?_
                      exact g_zret (ty := .int) (r := v_11) B K rfl (rfl) ⟨hUI_167, hF_170, hG_171, rg_w r_111 (by decide) (by decide), (by (try simp only [hx_16, f_17, h_18, (nle h_18), h_113, (nle h_113), hx_115, f_116, c_121, (eq_true h_122), c_147, (eq_true h_148), h_150, h_151, (eq_true h_153), h_164, c_172, if_true, if_false, tqM_by_, tqM_wd, tqM_tk, tqM_pl, tqM_vl, tqM_len, tqM_n, tqM_at_, tqM_token, tqM_place, tqM_value, tqM_fault, tqM_fat, TP_.w_by_, TP_.w_wd, TP_.w_tk, TP_.w_pl, TP_.w_vl, TP_.w_len, TP_.w_n, TP_.w_at_, TP_.w_token, TP_.w_place, TP_.w_value, TP_.w_fault, TP_.w_fat] at hQ_14); (try simp only [hx_16, f_17, h_18, (nle h_18), h_113, (nle h_113), hx_115, f_116, c_121, (eq_true h_122), c_147, (eq_true h_148), h_150, h_151, (eq_true h_153), h_164, c_172, if_true, if_false, tqM_by_, tqM_wd, tqM_tk, tqM_pl, tqM_vl, tqM_len, tqM_n, tqM_at_, tqM_token, tqM_place, tqM_value, tqM_fault, tqM_fat, TP_.w_by_, TP_.w_wd, TP_.w_tk, TP_.w_pl, TP_.w_vl, TP_.w_len, TP_.w_n, TP_.w_at_, TP_.w_token, TP_.w_place, TP_.w_value, TP_.w_fault, TP_.w_fat] at u_15); simp only [fReadToken, RQ_.i, RQ_.le, RQ_.dg, RQ_.w, RQ_.nu, etqx, hs_173, hs_6, hQ_14, u_15, hx_16, f_17, h_18, (nle h_18), h_113, (nle h_113), hx_115, f_116, c_121, (eq_true h_122), c_147, (eq_true h_148), h_150, h_151, (eq_true h_153), h_164, c_172, if_true, if_false, tqM_by_, tqM_wd, tqM_tk, tqM_pl, tqM_vl, tqM_len, tqM_n, tqM_at_, tqM_token, tqM_place, tqM_value, tqM_fault, tqM_fat, TP_.w_by_, TP_.w_wd, TP_.w_tk, TP_.w_pl, TP_.w_vl, TP_.w_len, TP_.w_n, TP_.w_at_, TP_.w_token, TP_.w_place, TP_.w_value, TP_.w_fault, TP_.w_fat])⟩ dX10_readToken_215
                    · skip
                      have r_174 := le_l (nlt h_164) (rg_all v_8) rc_3
                      refine g_aload_n C 0 dX10_readToken_192 rfl rfl ?_
                      refine g_bipush C (v := 101) dX10_readToken_193 (by decide) ?_
                      refine g_iload_n C 1 dX10_readToken_195 rfl rfl ?_
                      refine g_iload C 5 dX10_readToken_196 rfl ?_
                      obtain ⟨y_175, hy_175⟩ : ∃ z, Int32.toInt64 v_10 = z := ⟨_, rfl⟩
                      refine g_i2l C (v := y_175) dX10_readToken_198 hy_175 ?_
                      refine g_callVV C K (c_X10_addToken W9 hLx hkx 101 a0 y_175 (rg_w rc_101 (by decide) (by decide)) (ra0) hU) hLx hkx (by decide) rfl v_10_80 rfl ⟨rfl, rfl⟩ ⟨Nat.le_of_ble_eq_true rfl, Nat.le_of_ble_eq_true rfl⟩ (Nat.le_of_ble_eq_true rfl) ⟨Nat.le_of_ble_eq_true rfl, Nat.le_of_ble_eq_true rfl⟩ dX10_readToken_199 rfl (st := []) (fun I_177 J_178 h_179 => ?_)
                      obtain ⟨hUI_177, hFI_177, hGJ_178, fx_176⟩ := h_179
                      have hF_180 := fq_tr hF hFI_177 (by decide)
                      have hG_181 := fq_tr hG hGJ_178 (by decide)
                      obtain ⟨s_183, hs_183⟩ : ∃ z, TPq I_177 J_178 x b_1 b_2 b_3 b_4 b_5 = z := ⟨_, rfl⟩
                      have c_182 : fAddToken (101) (a0) (y_175) (s_6) = s_183 := by have q := fx_176; simp only [etqx, hs_6, hs_183] at q; exact q.symm
                      refine g_goto C (tgt := 213) dX10_readToken_202 (by decide) ?_
                      refine g_iload C 6 dX10_readToken_213 rfl ?_
                      exact g_zret (ty := .int) (r := v_11) B K rfl (rfl) ⟨hUI_177, hF_180, hG_181, rg_w r_111 (by decide) (by decide), (by first | ((try simp only [hx_16, f_17, h_18, (nle h_18), h_113, (nle h_113), hx_115, f_116, c_121, (eq_true h_122), c_147, (eq_true h_148), h_150, h_151, (eq_true h_153), h_164, (nlt h_164), hy_175, c_182, if_true, if_false, tqM_by_, tqM_wd, tqM_tk, tqM_pl, tqM_vl, tqM_len, tqM_n, tqM_at_, tqM_token, tqM_place, tqM_value, tqM_fault, tqM_fat, TP_.w_by_, TP_.w_wd, TP_.w_tk, TP_.w_pl, TP_.w_vl, TP_.w_len, TP_.w_n, TP_.w_at_, TP_.w_token, TP_.w_place, TP_.w_value, TP_.w_fault, TP_.w_fat] at hQ_14); (try simp only [hx_16, f_17, h_18, (nle h_18), h_113, (nle h_113), hx_115, f_116, c_121, (eq_true h_122), c_147, (eq_true h_148), h_150, h_151, (eq_true h_153), h_164, (nlt h_164), hy_175, c_182, if_true, if_false, tqM_by_, tqM_wd, tqM_tk, tqM_pl, tqM_vl, tqM_len, tqM_n, tqM_at_, tqM_token, tqM_place, tqM_value, tqM_fault, tqM_fat, TP_.w_by_, TP_.w_wd, TP_.w_tk, TP_.w_pl, TP_.w_vl, TP_.w_len, TP_.w_n, TP_.w_at_, TP_.w_token, TP_.w_place, TP_.w_value, TP_.w_fault, TP_.w_fat] at u_15); simp only [fReadToken, RQ_.i, RQ_.le, RQ_.dg, RQ_.w, RQ_.nu, etqx, hs_183, hs_6, hQ_14, u_15, hx_16, f_17, h_18, (nle h_18), h_113, (nle h_113), hx_115, f_116, c_121, (eq_true h_122), c_147, (eq_true h_148), h_150, h_151, (eq_true h_153), h_164, (nlt h_164), hy_175, c_182, if_true, if_false, tqM_by_, tqM_wd, tqM_tk, tqM_pl, tqM_vl, tqM_len, tqM_n, tqM_at_, tqM_token, tqM_place, tqM_value, tqM_fault, tqM_fat, TP_.w_by_, TP_.w_wd, TP_.w_tk, TP_.w_pl, TP_.w_vl, TP_.w_len, TP_.w_n, TP_.w_at_, TP_.w_token, TP_.w_place, TP_.w_value, TP_.w_fault, TP_.w_fat]; done) | exact absurd (nle h_18) h_164 | exact absurd (nle h_113) h_164)⟩ dX10_readToken_215
                · skip
                  have r_184 := (⟨(eq_rg (h_151) rc_0).1, (eq_rg (h_151) rc_0).2⟩ : Rg 0 0 v_8)
                  refine g_iload_n C 2 dX10_readToken_161 rfl rfl ?_
                  refine g_bipush C (v := 7) dX10_readToken_162 (by decide) ?_
                  refine g_icmp_gt C (tgt := 183) dX10_readToken_164 (by decide) (fun h_185 => ?_) (fun h_185 => ?_)
                  · skip
                    have r_186 := lt_r (lo := 8) (h_185) rc_7 (rg_all v_7) (by decide)
                    refine g_iload_n C 2 dX10_readToken_183 rfl rfl ?_
                    refine g_if_ne C (tgt := 205) dX10_readToken_184 (by decide) (fun h_187 => ?_) (fun h_187 => ?_)
                    · skip
                      have n_188 : ¬ v_7 = 0 := h_187
                      refine g_aload_n C 0 dX10_readToken_205 rfl rfl ?_
                      refine g_bipush C (v := 103) dX10_readToken_206 (by decide) ?_
                      refine g_iload_n C 1 dX10_readToken_208 rfl rfl ?_
                      refine g_lconst C (v := 0) dX10_readToken_209 (by decide) ?_
                      refine g_callVV C K (c_X10_addToken W9 hLx hkx 103 a0 0 (rg_w rc_103 (by decide) (by decide)) (ra0) hU) hLx hkx (by decide) rfl v_10_80 rfl ⟨rfl, rfl⟩ ⟨Nat.le_of_ble_eq_true rfl, Nat.le_of_ble_eq_true rfl⟩ (Nat.le_of_ble_eq_true rfl) ⟨Nat.le_of_ble_eq_true rfl, Nat.le_of_ble_eq_true rfl⟩ dX10_readToken_210 rfl (st := []) (fun I_190 J_191 h_192 => ?_)
                      obtain ⟨hUI_190, hFI_190, hGJ_191, fx_189⟩ := h_192
                      have hF_193 := fq_tr hF hFI_190 (by decide)
                      have hG_194 := fq_tr hG hGJ_191 (by decide)
                      obtain ⟨s_196, hs_196⟩ : ∃ z, TPq I_190 J_191 x b_1 b_2 b_3 b_4 b_5 = z := ⟨_, rfl⟩
                      have c_195 : fAddToken (103) (a0) (0) (s_6) = s_196 := by have q := fx_189; simp only [etqx, hs_6, hs_196] at q; exact q.symm
                      refine g_iload C 6 dX10_readToken_213 rfl ?_
                      exact g_zret (ty := .int) (r := v_11) B K rfl (rfl) ⟨hUI_190, hF_193, hG_194, rg_w r_111 (by decide) (by decide), (by (try simp only [hx_16, f_17, h_18, (nle h_18), h_113, (nle h_113), hx_115, f_116, c_121, (eq_true h_122), c_147, (eq_true h_148), h_150, (eq_true h_151), h_185, h_187, c_195, if_true, if_false, tqM_by_, tqM_wd, tqM_tk, tqM_pl, tqM_vl, tqM_len, tqM_n, tqM_at_, tqM_token, tqM_place, tqM_value, tqM_fault, tqM_fat, TP_.w_by_, TP_.w_wd, TP_.w_tk, TP_.w_pl, TP_.w_vl, TP_.w_len, TP_.w_n, TP_.w_at_, TP_.w_token, TP_.w_place, TP_.w_value, TP_.w_fault, TP_.w_fat] at hQ_14); (try simp only [hx_16, f_17, h_18, (nle h_18), h_113, (nle h_113), hx_115, f_116, c_121, (eq_true h_122), c_147, (eq_true h_148), h_150, (eq_true h_151), h_185, h_187, c_195, if_true, if_false, tqM_by_, tqM_wd, tqM_tk, tqM_pl, tqM_vl, tqM_len, tqM_n, tqM_at_, tqM_token, tqM_place, tqM_value, tqM_fault, tqM_fat, TP_.w_by_, TP_.w_wd, TP_.w_tk, TP_.w_pl, TP_.w_vl, TP_.w_len, TP_.w_n, TP_.w_at_, TP_.w_token, TP_.w_place, TP_.w_value, TP_.w_fault, TP_.w_fat] at u_15); simp only [fReadToken, RQ_.i, RQ_.le, RQ_.dg, RQ_.w, RQ_.nu, etqx, hs_196, hs_6, hQ_14, u_15, hx_16, f_17, h_18, (nle h_18), h_113, (nle h_113), hx_115, f_116, c_121, (eq_true h_122), c_147, (eq_true h_148), h_150, (eq_true h_151), h_185, h_187, c_195, if_true, if_false, tqM_by_, tqM_wd, tqM_tk, tqM_pl, tqM_vl, tqM_len, tqM_n, tqM_at_, tqM_token, tqM_place, tqM_value, tqM_fault, tqM_fat, TP_.w_by_, TP_.w_wd, TP_.w_tk, TP_.w_pl, TP_.w_vl, TP_.w_len, TP_.w_n, TP_.w_at_, TP_.w_token, TP_.w_place, TP_.w_value, TP_.w_fault, TP_.w_fat])⟩ dX10_readToken_215
                    · skip
                      exact eq_no (h_187) r_186 rc_0 (by decide)
                  · skip
                    have r_197 := le_l (nlt h_185) (rg_all v_7) rc_7
                    refine g_aload_n C 0 dX10_readToken_167 rfl rfl ?_
                    refine g_aload_n C 0 dX10_readToken_168 rfl rfl ?_
                    refine g_lload C 4 dX10_readToken_169 rfl ?_
                    refine g_callVI C K (c_X10_tokenOfWord W9 hLx hkx y_9  hU) hLx hkx (by decide) rfl v_10_97 rfl ⟨rfl, rfl⟩ ⟨Nat.le_of_ble_eq_true rfl, Nat.le_of_ble_eq_true rfl⟩ (Nat.le_of_ble_eq_true rfl) ⟨Nat.le_of_ble_eq_true rfl, Nat.le_of_ble_eq_true rfl⟩ dX10_readToken_171 rfl (st := [.ref x]) (fun x_198 I_199 J_200 h_201 => ?_)
                    obtain ⟨rfl, rfl, rx_198, fx_198⟩ := h_201
                    have c_202 : fTow (y_9) (s_6) = x_198 := by have q := fx_198; simp only [etqx, hs_6] at q; exact q.symm
                    refine g_iload_n C 1 dX10_readToken_174 rfl rfl ?_
                    refine g_lload C 4 dX10_readToken_175 rfl ?_
                    refine g_callVV C K (c_X10_addToken W9 hLx hkx x_198 a0 y_9 (rg_w rx_198 (by decide) (by decide)) (ra0) hU) hLx hkx (by decide) rfl v_10_80 rfl ⟨rfl, rfl⟩ ⟨Nat.le_of_ble_eq_true rfl, Nat.le_of_ble_eq_true rfl⟩ (Nat.le_of_ble_eq_true rfl) ⟨Nat.le_of_ble_eq_true rfl, Nat.le_of_ble_eq_true rfl⟩ dX10_readToken_177 rfl (st := []) (fun I_204 J_205 h_206 => ?_)
                    obtain ⟨hUI_204, hFI_204, hGJ_205, fx_203⟩ := h_206
                    have hF_207 := fq_tr hF hFI_204 (by decide)
                    have hG_208 := fq_tr hG hGJ_205 (by decide)
                    obtain ⟨s_210, hs_210⟩ : ∃ z, TPq I_204 J_205 x b_1 b_2 b_3 b_4 b_5 = z := ⟨_, rfl⟩
                    have c_209 : fAddToken (x_198) (a0) (y_9) (s_6) = s_210 := by have q := fx_203; simp only [etqx, hs_6, hs_210] at q; exact q.symm
                    refine g_goto C (tgt := 213) dX10_readToken_180 (by decide) ?_
                    refine g_iload C 6 dX10_readToken_213 rfl ?_
                    exact g_zret (ty := .int) (r := v_11) B K rfl (rfl) ⟨hUI_204, hF_207, hG_208, rg_w r_111 (by decide) (by decide), (by first | ((try simp only [hx_16, f_17, h_18, (nle h_18), h_113, (nle h_113), hx_115, f_116, c_121, (eq_true h_122), c_147, (eq_true h_148), h_150, (eq_true h_151), h_185, (nlt h_185), c_202, c_209, if_true, if_false, tqM_by_, tqM_wd, tqM_tk, tqM_pl, tqM_vl, tqM_len, tqM_n, tqM_at_, tqM_token, tqM_place, tqM_value, tqM_fault, tqM_fat, TP_.w_by_, TP_.w_wd, TP_.w_tk, TP_.w_pl, TP_.w_vl, TP_.w_len, TP_.w_n, TP_.w_at_, TP_.w_token, TP_.w_place, TP_.w_value, TP_.w_fault, TP_.w_fat] at hQ_14); (try simp only [hx_16, f_17, h_18, (nle h_18), h_113, (nle h_113), hx_115, f_116, c_121, (eq_true h_122), c_147, (eq_true h_148), h_150, (eq_true h_151), h_185, (nlt h_185), c_202, c_209, if_true, if_false, tqM_by_, tqM_wd, tqM_tk, tqM_pl, tqM_vl, tqM_len, tqM_n, tqM_at_, tqM_token, tqM_place, tqM_value, tqM_fault, tqM_fat, TP_.w_by_, TP_.w_wd, TP_.w_tk, TP_.w_pl, TP_.w_vl, TP_.w_len, TP_.w_n, TP_.w_at_, TP_.w_token, TP_.w_place, TP_.w_value, TP_.w_fault, TP_.w_fat] at u_15); simp only [fReadToken, RQ_.i, RQ_.le, RQ_.dg, RQ_.w, RQ_.nu, etqx, hs_210, hs_6, hQ_14, u_15, hx_16, f_17, h_18, (nle h_18), h_113, (nle h_113), hx_115, f_116, c_121, (eq_true h_122), c_147, (eq_true h_148), h_150, (eq_true h_151), h_185, (nlt h_185), c_202, c_209, if_true, if_false, tqM_by_, tqM_wd, tqM_tk, tqM_pl, tqM_vl, tqM_len, tqM_n, tqM_at_, tqM_token, tqM_place, tqM_value, tqM_fault, tqM_fat, TP_.w_by_, TP_.w_wd, TP_.w_tk, TP_.w_pl, TP_.w_vl, TP_.w_len, TP_.w_n, TP_.w_at_, TP_.w_token, TP_.w_place, TP_.w_value, TP_.w_fault, TP_.w_fat]; done) | exact absurd (nle h_18) h_185 | exact absurd (nle h_113) h_185)⟩ dX10_readToken_215
              · skip
                refine g_aload_n C 0 dX10_readToken_124 rfl rfl ?_
                refine g_aload_n C 0 dX10_readToken_125 rfl rfl ?_
                refine g_getR C K hLx hkx f_10_9 hb_1 dX10_readToken_126 ?_
                refine g_iload_n C 1 dX10_readToken_129 rfl rfl ?_
                obtain ⟨x_211, hx_211, rx_211⟩ := ex_get (I := I) (a := b_1) (j := a0.toNatClampNeg) (lo := (-128)) (hi := 127) hU.1 hb_1L (ro_a hb_1k (by decide) hb_1o hkx rfl) (rfl)
                refine h_bald C K hb_1L hb_1k (v := x_211) (a0.toNatClampNeg) (rfl) (ix_0 ra0 (by decide)) (ix_lt ra0 (by decide) hb_1n (by decide)) hx_211 dX10_readToken_130 ?_
                have f_212 : s_6.by_ (a0.toNatClampNeg) = x_211 := (congrFun (congrArg TP_.by_ hs_6) _).symm.trans hx_211
                refine g_callSI C K (c_X10_isSign W9 x_211 (rx_211) hU) s_10_94 rfl ⟨rfl, rfl⟩ ⟨Nat.le_of_ble_eq_true rfl, Nat.le_of_ble_eq_true rfl⟩ (Nat.le_of_ble_eq_true rfl) ⟨Nat.le_of_ble_eq_true rfl, Nat.le_of_ble_eq_true rfl⟩ dX10_readToken_131 rfl (st := [.ref x]) (fun x_213 I_214 J_215 h_216 => ?_)
                obtain ⟨rfl, rfl, rx_213, fx_213⟩ := h_216
                have c_217 : isSg (x_211) = x_213 := fx_213.symm
                refine g_if_eq C (tgt := 146) dX10_readToken_134 (by decide) (fun h_218 => ?_) (fun h_218 => ?_)
                · skip
                  have r_219 := (⟨(rx_213).1, (eq_rg (h_218) rc_0).2⟩ : Rg 0 0 x_213)
                  refine g_bipush C (v := 103) dX10_readToken_146 (by decide) ?_
                  refine g_iload_n C 1 dX10_readToken_148 rfl rfl ?_
                  refine g_lconst C (v := 0) dX10_readToken_149 (by decide) ?_
                  refine g_callVV C K (c_X10_addToken W9 hLx hkx 103 a0 0 (rg_w rc_103 (by decide) (by decide)) (ra0) hU) hLx hkx (by decide) rfl v_10_80 rfl ⟨rfl, rfl⟩ ⟨Nat.le_of_ble_eq_true rfl, Nat.le_of_ble_eq_true rfl⟩ (Nat.le_of_ble_eq_true rfl) ⟨Nat.le_of_ble_eq_true rfl, Nat.le_of_ble_eq_true rfl⟩ dX10_readToken_150 rfl (st := []) (fun I_221 J_222 h_223 => ?_)
                  obtain ⟨hUI_221, hFI_221, hGJ_222, fx_220⟩ := h_223
                  have hF_224 := fq_tr hF hFI_221 (by decide)
                  have hG_225 := fq_tr hG hGJ_222 (by decide)
                  obtain ⟨s_227, hs_227⟩ : ∃ z, TPq I_221 J_222 x b_1 b_2 b_3 b_4 b_5 = z := ⟨_, rfl⟩
                  have c_226 : fAddToken (103) (a0) (0) (s_6) = s_227 := by have q := fx_220; simp only [etqx, hs_6, hs_227] at q; exact q.symm
                  refine g_iload_n C 1 dX10_readToken_153 rfl rfl ?_
                  refine g_iconst C (v := 1) dX10_readToken_154 (by decide) ?_
                  obtain ⟨x_228, hx_228, rx_228, tx_228⟩ := ex_add 1 940 ra0 rc_1 (by decide) (by decide) (by decide) (by decide)
                  refine g_iadd C (v := x_228) dX10_readToken_155 hx_228 ?_
                  exact g_zret (ty := .int) (r := x_228) B K rfl (rfl) ⟨hUI_221, hF_224, hG_225, rg_w rx_228 (by decide) (by decide), (by (try simp only [hx_16, f_17, h_18, (nle h_18), h_113, (nle h_113), hx_115, f_116, c_121, (eq_true h_122), c_147, (eq_true h_148), (eq_true h_150), hx_211, f_212, c_217, (eq_true h_218), c_226, hx_228, if_true, if_false, tqM_by_, tqM_wd, tqM_tk, tqM_pl, tqM_vl, tqM_len, tqM_n, tqM_at_, tqM_token, tqM_place, tqM_value, tqM_fault, tqM_fat, TP_.w_by_, TP_.w_wd, TP_.w_tk, TP_.w_pl, TP_.w_vl, TP_.w_len, TP_.w_n, TP_.w_at_, TP_.w_token, TP_.w_place, TP_.w_value, TP_.w_fault, TP_.w_fat] at hQ_14); (try simp only [hx_16, f_17, h_18, (nle h_18), h_113, (nle h_113), hx_115, f_116, c_121, (eq_true h_122), c_147, (eq_true h_148), (eq_true h_150), hx_211, f_212, c_217, (eq_true h_218), c_226, hx_228, if_true, if_false, tqM_by_, tqM_wd, tqM_tk, tqM_pl, tqM_vl, tqM_len, tqM_n, tqM_at_, tqM_token, tqM_place, tqM_value, tqM_fault, tqM_fat, TP_.w_by_, TP_.w_wd, TP_.w_tk, TP_.w_pl, TP_.w_vl, TP_.w_len, TP_.w_n, TP_.w_at_, TP_.w_token, TP_.w_place, TP_.w_value, TP_.w_fault, TP_.w_fat] at u_15); simp only [fReadToken, RQ_.i, RQ_.le, RQ_.dg, RQ_.w, RQ_.nu, etqx, hs_227, hs_6, hQ_14, u_15, hx_16, f_17, h_18, (nle h_18), h_113, (nle h_113), hx_115, f_116, c_121, (eq_true h_122), c_147, (eq_true h_148), (eq_true h_150), hx_211, f_212, c_217, (eq_true h_218), c_226, hx_228, if_true, if_false, tqM_by_, tqM_wd, tqM_tk, tqM_pl, tqM_vl, tqM_len, tqM_n, tqM_at_, tqM_token, tqM_place, tqM_value, tqM_fault, tqM_fat, TP_.w_by_, TP_.w_wd, TP_.w_tk, TP_.w_pl, TP_.w_vl, TP_.w_len, TP_.w_n, TP_.w_at_, TP_.w_token, TP_.w_place, TP_.w_value, TP_.w_fault, TP_.w_fat])⟩ dX10_readToken_156
                · skip
                  have n_229 : ¬ x_213 = 0 := h_218
                  have r_230 := ne_lo (lo := 1) n_229 rx_213 rc_0 rfl (by decide)
                  refine g_aload_n C 0 dX10_readToken_137 rfl rfl ?_
                  refine g_getR C K hLx hkx f_10_9 hb_1 dX10_readToken_138 ?_
                  refine g_iload_n C 1 dX10_readToken_141 rfl rfl ?_
                  refine h_bald C K hb_1L hb_1k (v := x_211) (a0.toNatClampNeg) (rfl) (ix_0 ra0 (by decide)) (ix_lt ra0 (by decide) hb_1n (by decide)) hx_211 dX10_readToken_142 ?_
                  refine g_goto C (tgt := 148) dX10_readToken_143 (by decide) ?_
                  refine g_iload_n C 1 dX10_readToken_148 rfl rfl ?_
                  refine g_lconst C (v := 0) dX10_readToken_149 (by decide) ?_
                  refine g_callVV C K (c_X10_addToken W9 hLx hkx x_211 a0 0 (rx_211) (ra0) hU) hLx hkx (by decide) rfl v_10_80 rfl ⟨rfl, rfl⟩ ⟨Nat.le_of_ble_eq_true rfl, Nat.le_of_ble_eq_true rfl⟩ (Nat.le_of_ble_eq_true rfl) ⟨Nat.le_of_ble_eq_true rfl, Nat.le_of_ble_eq_true rfl⟩ dX10_readToken_150 rfl (st := []) (fun I_233 J_234 h_235 => ?_)
                  obtain ⟨hUI_233, hFI_233, hGJ_234, fx_232⟩ := h_235
                  have hF_236 := fq_tr hF hFI_233 (by decide)
                  have hG_237 := fq_tr hG hGJ_234 (by decide)
                  obtain ⟨s_239, hs_239⟩ : ∃ z, TPq I_233 J_234 x b_1 b_2 b_3 b_4 b_5 = z := ⟨_, rfl⟩
                  have c_238 : fAddToken (x_211) (a0) (0) (s_6) = s_239 := by have q := fx_232; simp only [etqx, hs_6, hs_239] at q; exact q.symm
                  refine g_iload_n C 1 dX10_readToken_153 rfl rfl ?_
                  refine g_iconst C (v := 1) dX10_readToken_154 (by decide) ?_
                  obtain ⟨x_240, hx_240, rx_240, tx_240⟩ := ex_add 1 940 ra0 rc_1 (by decide) (by decide) (by decide) (by decide)
                  refine g_iadd C (v := x_240) dX10_readToken_155 hx_240 ?_
                  exact g_zret (ty := .int) (r := x_240) B K rfl (rfl) ⟨hUI_233, hF_236, hG_237, rg_w rx_240 (by decide) (by decide), (by (try simp only [hx_16, f_17, h_18, (nle h_18), h_113, (nle h_113), hx_115, f_116, c_121, (eq_true h_122), c_147, (eq_true h_148), (eq_true h_150), hx_211, f_212, c_217, h_218, c_238, hx_240, if_true, if_false, tqM_by_, tqM_wd, tqM_tk, tqM_pl, tqM_vl, tqM_len, tqM_n, tqM_at_, tqM_token, tqM_place, tqM_value, tqM_fault, tqM_fat, TP_.w_by_, TP_.w_wd, TP_.w_tk, TP_.w_pl, TP_.w_vl, TP_.w_len, TP_.w_n, TP_.w_at_, TP_.w_token, TP_.w_place, TP_.w_value, TP_.w_fault, TP_.w_fat] at hQ_14); (try simp only [hx_16, f_17, h_18, (nle h_18), h_113, (nle h_113), hx_115, f_116, c_121, (eq_true h_122), c_147, (eq_true h_148), (eq_true h_150), hx_211, f_212, c_217, h_218, c_238, hx_240, if_true, if_false, tqM_by_, tqM_wd, tqM_tk, tqM_pl, tqM_vl, tqM_len, tqM_n, tqM_at_, tqM_token, tqM_place, tqM_value, tqM_fault, tqM_fat, TP_.w_by_, TP_.w_wd, TP_.w_tk, TP_.w_pl, TP_.w_vl, TP_.w_len, TP_.w_n, TP_.w_at_, TP_.w_token, TP_.w_place, TP_.w_value, TP_.w_fault, TP_.w_fat] at u_15); simp only [fReadToken, RQ_.i, RQ_.le, RQ_.dg, RQ_.w, RQ_.nu, etqx, hs_239, hs_6, hQ_14, u_15, hx_16, f_17, h_18, (nle h_18), h_113, (nle h_113), hx_115, f_116, c_121, (eq_true h_122), c_147, (eq_true h_148), (eq_true h_150), hx_211, f_212, c_217, h_218, c_238, hx_240, if_true, if_false, tqM_by_, tqM_wd, tqM_tk, tqM_pl, tqM_vl, tqM_len, tqM_n, tqM_at_, tqM_token, tqM_place, tqM_value, tqM_fault, tqM_fat, TP_.w_by_, TP_.w_wd, TP_.w_tk, TP_.w_pl, TP_.w_vl, TP_.w_len, TP_.w_n, TP_.w_at_, TP_.w_token, TP_.w_place, TP_.w_value, TP_.w_fault, TP_.w_fat])⟩ dX10_readToken_156
            · skip
              have n_241 : ¬ x_143 = 0 := h_148
              have r_242 := ne_lo (lo := 1) n_241 rx_143 rc_0 rfl (by decide)
              refine g_aload_n C 0 dX10_readToken_58 rfl rfl ?_
              refine g_getR C K hLx hkx f_10_9 hb_1 dX10_readToken_59 ?_
              refine g_iload C 6 dX10_readToken_62 rfl ?_
              refine h_bald C K hb_1L hb_1k (v := x_115) (v_11.toNatClampNeg) (rfl) (ix_0 r_111 (by decide)) (ix_lt r_111 (by decide) hb_1n (by decide)) hx_115 dX10_readToken_64 ?_
              refine g_callSI C K (c_X10_isLetter W9 x_115 (rx_115) hU) s_10_87 rfl ⟨rfl, rfl⟩ ⟨Nat.le_of_ble_eq_true rfl, Nat.le_of_ble_eq_true rfl⟩ (Nat.le_of_ble_eq_true rfl) ⟨Nat.le_of_ble_eq_true rfl, Nat.le_of_ble_eq_true rfl⟩ dX10_readToken_65 rfl (st := []) (fun x_244 I_245 J_246 h_247 => ?_)
              obtain ⟨rfl, rfl, rx_244, fx_244⟩ := h_247
              have c_248 : isLc (x_115) = x_244 := fx_244.symm
              have ec_248 : x_117 = x_244 := c_121.symm.trans c_248
              subst ec_248
              refine g_if_eq C (tgt := 91) dX10_readToken_68 (by decide) (fun h_249 => ?_) (fun h_249 => ?_)
              · skip
                refine g_iload C 5 dX10_readToken_91 rfl ?_
                refine g_bipush C (v := 10) dX10_readToken_93 (by decide) ?_
                obtain ⟨x_250, hx_250, rx_250⟩ := ex_any (z0 := v_10 * 10)
                refine g_imul C (v := x_250) dX10_readToken_95 hx_250 ?_
                refine g_aload_n C 0 dX10_readToken_96 rfl rfl ?_
                refine g_getR C K hLx hkx f_10_9 hb_1 dX10_readToken_97 ?_
                refine g_iload C 6 dX10_readToken_100 rfl ?_
                refine h_bald C K hb_1L hb_1k (v := x_115) (v_11.toNatClampNeg) (rfl) (ix_0 r_111 (by decide)) (ix_lt r_111 (by decide) hb_1n (by decide)) hx_115 dX10_readToken_102 ?_
                obtain ⟨x_252, hx_252, rx_252⟩ := ex_any (z0 := x_250 + x_115)
                refine g_iadd C (v := x_252) dX10_readToken_103 hx_252 ?_
                refine g_bipush C (v := 48) dX10_readToken_104 (by decide) ?_
                obtain ⟨x_253, hx_253, rx_253⟩ := ex_any (z0 := x_252 - 48)
                refine g_isub C (v := x_253) dX10_readToken_106 hx_253 ?_
                refine g_istore C dX10_readToken_107 (by decide) (lo2 := [(6, .int x_253), (0, .ref x), (1, .int a0), (2, .int v_7), (3, .int v_8), (4, .long y_9), (7, .int v_11)]) rfl ?_
                obtain ⟨x_254, hx_254, rx_254⟩ := ex_any (z0 := v_8 + 1)
                refine g_iinc C dX10_readToken_109 (k := 4) (v := x_254) rfl hx_254 (by decide) (lo2 := [(3, .int x_254), (6, .int x_253), (0, .ref x), (1, .int a0), (2, .int v_7), (4, .long y_9), (7, .int v_11)]) rfl ?_
                obtain ⟨x_255, hx_255, rx_255, tx_255⟩ := ex_add (y := 1) 1 940 r_111 rc_1 (by decide) (by decide) (by decide) (by decide)
                refine g_iinc C dX10_readToken_112 (k := 6) (v := x_255) rfl hx_255 (by decide) (lo2 := [(7, .int x_255), (3, .int x_254), (6, .int x_253), (0, .ref x), (1, .int a0), (2, .int v_7), (4, .long y_9)]) rfl ?_
                refine g_goto C (tgt := 13) dX10_readToken_115 (by decide) ?_
                refine g_lo (is := [3, 4, 5, 1, 6, 2, 0]) (lo2 := [(0, .ref x), (1, .int a0), (2, .int v_7), (3, .int x_254), (4, .long y_9), (6, .int x_253), (7, .int x_255)]) rfl ?_
                exact ih_13 v_7 x_254 y_9 x_253 x_255 (rg_w rx_255 (by decide) (by decide)) (by (try simp only [hx_16, f_17, h_18, (nle h_18), h_113, (nle h_113), hx_115, f_116, c_121, (eq_true h_122), c_147, h_148, (eq_true h_249), hx_250, hx_252, hx_253, hx_254, hx_255, if_true, if_false, tqM_by_, tqM_wd, tqM_tk, tqM_pl, tqM_vl, tqM_len, tqM_n, tqM_at_, tqM_token, tqM_place, tqM_value, tqM_fault, tqM_fat, TP_.w_by_, TP_.w_wd, TP_.w_tk, TP_.w_pl, TP_.w_vl, TP_.w_len, TP_.w_n, TP_.w_at_, TP_.w_token, TP_.w_place, TP_.w_value, TP_.w_fault, TP_.w_fat] at hQ_14); (try simp only [hx_16, f_17, h_18, (nle h_18), h_113, (nle h_113), hx_115, f_116, c_121, (eq_true h_122), c_147, h_148, (eq_true h_249), hx_250, hx_252, hx_253, hx_254, hx_255, if_true, if_false, tqM_by_, tqM_wd, tqM_tk, tqM_pl, tqM_vl, tqM_len, tqM_n, tqM_at_, tqM_token, tqM_place, tqM_value, tqM_fault, tqM_fat, TP_.w_by_, TP_.w_wd, TP_.w_tk, TP_.w_pl, TP_.w_vl, TP_.w_len, TP_.w_n, TP_.w_at_, TP_.w_token, TP_.w_place, TP_.w_value, TP_.w_fault, TP_.w_fat] at u_15); simp only [RQ_.i, RQ_.le, RQ_.dg, RQ_.w, RQ_.nu, etqx, hs_6, hQ_14, u_15, hx_16, f_17, h_18, (nle h_18), h_113, (nle h_113), hx_115, f_116, c_121, (eq_true h_122), c_147, h_148, (eq_true h_249), hx_250, hx_252, hx_253, hx_254, hx_255, if_true, if_false, tqM_by_, tqM_wd, tqM_tk, tqM_pl, tqM_vl, tqM_len, tqM_n, tqM_at_, tqM_token, tqM_place, tqM_value, tqM_fault, tqM_fat, TP_.w_by_, TP_.w_wd, TP_.w_tk, TP_.w_pl, TP_.w_vl, TP_.w_len, TP_.w_n, TP_.w_at_, TP_.w_token, TP_.w_place, TP_.w_value, TP_.w_fault, TP_.w_fat]) (ms_1 hm_13 (ti_k tx_255 rc_1) (by decide))
              · skip
                exact ne_no (h_249) r_141 rc_0
  refine g_iconst C (v := 0) dX10_readToken_0 (by decide) ?_
  refine g_istore_n C dX10_readToken_1 rfl (by decide) (lo2 := [(2, .int 0), (0, .ref x), (1, .int a0)]) rfl ?_
  refine g_iconst C (v := 0) dX10_readToken_2 (by decide) ?_
  refine g_istore_n C dX10_readToken_3 rfl (by decide) (lo2 := [(3, .int 0), (2, .int 0), (0, .ref x), (1, .int a0)]) rfl ?_
  refine g_lconst C (v := 0) dX10_readToken_4 (by decide) ?_
  refine g_lstore C dX10_readToken_5 (by decide) (lo2 := [(4, .long 0), (3, .int 0), (2, .int 0), (0, .ref x), (1, .int a0)]) rfl ?_
  refine g_iconst C (v := 0) dX10_readToken_7 (by decide) ?_
  refine g_istore C dX10_readToken_8 (by decide) (lo2 := [(6, .int 0), (4, .long 0), (3, .int 0), (2, .int 0), (0, .ref x), (1, .int a0)]) rfl ?_
  refine g_iload_n C 5 dX10_readToken_10 rfl rfl ?_
  refine g_istore C dX10_readToken_11 (by decide) (lo2 := [(7, .int a0), (6, .int 0), (4, .long 0), (3, .int 0), (2, .int 0), (0, .ref x), (1, .int a0)]) rfl ?_
  refine g_lo (is := [5, 6, 4, 3, 2, 1, 0]) (lo2 := [(0, .ref x), (1, .int a0), (2, .int 0), (3, .int 0), (4, .long 0), (6, .int 0), (7, .int a0)]) rfl ?_
  exact l_13 941 0 0 0 0 a0 (rg_w ra0 (by decide) (by decide)) (by simp only [fReadToken, RQ_.i, RQ_.le, RQ_.dg, RQ_.w, RQ_.nu, etqx, hs_6, if_true, if_false, tqM_by_, tqM_wd, tqM_tk, tqM_pl, tqM_vl, tqM_len, tqM_n, tqM_at_, tqM_token, tqM_place, tqM_value, tqM_fault, tqM_fat, TP_.w_by_, TP_.w_wd, TP_.w_tk, TP_.w_pl, TP_.w_vl, TP_.w_len, TP_.w_n, TP_.w_at_, TP_.w_token, TP_.w_place, TP_.w_value, TP_.w_fault, TP_.w_fat]) (ms_s (a := 0) (b := 940) (N := 941) (rg_w ra0 (by decide) (by decide)) (by decide))
set_option maxRecDepth 100000 in
set_option maxHeartbeats 8000000 in
theorem c_X10_begin {l : Launch} {D : va_G} {cy : Nat → ClassId} {L : List Nat} {κ ln : Nat → Nat} {R : Nat → Nat → Option Nat} {I : Nat → Nat → Int32} {J : Nat → Nat → Int64} {ow : Nat → Nat × Nat} (W9 : ∀ a ∈ L, Shp L κ ln R ow a) {x : Nat} (hLx : x ∈ L) (hkx : κ x = 10) (a0 : Int32) (ra0 : Rg 200 900 a0) (hU : Iv L κ R ow I) : CtV l yX10_begin cX10_begin 5 none { frames := 2, cells := 0, slots := 0, locals := 60 } D cy L κ ln R I J [.ref x, .int a0] (fun I2 J2 => Iv L κ R ow I2 ∧ Fq L κ ow [1006, 1007, 1008, 1009, 1011, 1012, 70200, 70300] I I2 ∧ Fq L κ ow [1010, 70400] J J2 ∧ (TPf R I2 J2 x = fBegin a0 (TPf R I J x))) := by
  refine CtV.of (by decide +kernel) (Nat.le_of_ble_eq_true rfl) ?_
  intro p e s m below meth c B K
  have C := B.1
  have hF : Fq L κ ow [1006, 1007, 1008, 1009, 1011, 1012, 70200, 70300] I I := fq_rf
  have hG : Fq L κ ow [1010, 70400] J J := fq_rf
  obtain ⟨b_1, hb_1, hb_1L, hb_1k, hb_1n, hb_1o⟩ := shp_a (W9 x hLx) hkx 0 13 940 rfl (by decide)
  obtain ⟨b_2, hb_2, hb_2L, hb_2k, hb_2n, hb_2o⟩ := shp_a (W9 x hLx) hkx 1 15 28 rfl (by decide)
  obtain ⟨b_3, hb_3, hb_3L, hb_3k, hb_3n, hb_3o⟩ := shp_a (W9 x hLx) hkx 2 14 901 rfl (by decide)
  obtain ⟨b_4, hb_4, hb_4L, hb_4k, hb_4n, hb_4o⟩ := shp_a (W9 x hLx) hkx 3 14 901 rfl (by decide)
  obtain ⟨b_5, hb_5, hb_5L, hb_5k, hb_5n, hb_5o⟩ := shp_a (W9 x hLx) hkx 4 15 901 rfl (by decide)
  have etqx : ∀ I J, TPf R I J x = TPq I J x b_1 b_2 b_3 b_4 b_5 := fun I J => by simp only [TPf, rr_, Option.getD_some, hb_1, hb_2, hb_3, hb_4, hb_5]
  have wtqx : tqw_ L κ ow x b_1 b_2 b_3 b_4 b_5 := ⟨⟨hLx, hb_1L, hb_2L, hb_3L, hb_4L, hb_5L⟩, ⟨(ro_o hkx (by decide)), (ro_a hb_1k (by decide) hb_1o hkx rfl), (ro_a hb_2k (by decide) hb_2o hkx rfl), (ro_a hb_3k (by decide) hb_3o hkx rfl), (ro_a hb_4k (by decide) hb_4o hkx rfl), (ro_a hb_5k (by decide) hb_5o hkx rfl)⟩⟩
  obtain ⟨s_6, hs_6⟩ : ∃ z, TPq I J x b_1 b_2 b_3 b_4 b_5 = z := ⟨_, rfl⟩
  refine g_lo (is := [0, 1]) (lo2 := [(0, .ref x), (1, .int a0)]) rfl ?_
  have l_27 : ∀ (n_27 : Nat) (I_7 : Nat → Nat → Int32) (J_8 : Nat → Nat → Int64) (hU_9 : Iv L κ R ow I_7) (hF_10 : Fq L κ ow [1006, 1007, 1008, 1009, 1011, 1012, 70200, 70300] I I_7) (hG_11 : Fq L κ ow [1010, 70400] J J_8) (v_12 : Int32) (rv_12 : Rg 0 900 v_12) (v_13 : Int32) (rv_13 : Rg 0 940 v_13) (v_14 : Int32) (rv_14 : Rg 0 900 v_14) (v_15 : Int32) (rv_15 : Rg 0 940 v_15) (q_16 : I_7 x 5 = v_15) (hq_17 : (v_12, bg v_12 v_14 v_13 ((TPq I_7 J_8 x b_1 b_2 b_3 b_4 b_5))) = fBl a0 s_6) (hm_18 : 900 < (v_14 : Int32).toInt + (n_27 : Int)), WG p l e { frames := 2, cells := 0, slots := 0, locals := 60 } s m ([.ref x, .int a0] : List Value).toArray below meth c 5 0 0 (MQ below (Qv_ D cy L κ ln R (fun I2 J2 => Iv L κ R ow I2 ∧ Fq L κ ow [1006, 1007, 1008, 1009, 1011, 1012, 70200, 70300] I I2 ∧ Fq L κ ow [1010, 70400] J J2 ∧ (TPf R I2 J2 x = fBegin a0 (TPf R I J x)))) ([.ref x, .int a0] : List Value).toArray s 0 0 (Al_ L)) D cy (Al_ L) s.heap L κ ln R I_7 J_8 27 [(0, .ref x), (1, .int a0), (2, .int v_12), (3, .int v_13), (4, .int v_14)] [] := by
    intro n_27
    induction n_27 with
    | zero =>
      intro I_7 J_8 hU_9 hF_10 hG_11 v_12 rv_12 v_13 rv_13 v_14 rv_14 v_15 rv_15 q_16 hq_17 hm_18
      exact ms_0 rv_14 hm_18
    | succ n_27 ih_27 =>
      intro I_7 J_8 hU_9 hF_10 hG_11 v_12 rv_12 v_13 rv_13 v_14 rv_14 v_15 rv_15 q_16 hq_17 hm_18
      obtain ⟨s_19, hs_19⟩ : ∃ z, TPq I_7 J_8 x b_1 b_2 b_3 b_4 b_5 = z := ⟨_, rfl⟩
      simp only [hs_19] at hq_17
      have hQ_20 := hq_17.symm
      have u_21 := bg_eq (bd := v_12) (i := v_14) (be := v_13) (s := s_19) (rg_w rv_14 (by decide) (by decide))
      refine g_iload C 4 dX10_begin_27 rfl ?_
      refine g_iload_n C 2 dX10_begin_29 rfl rfl ?_
      refine g_icmp_ge C (tgt := 76) dX10_begin_30 (by decide) (fun h_22 => ?_) (fun h_22 => ?_)
      · skip
        refine g_aload_n C 0 dX10_begin_76 rfl rfl ?_
        refine g_aload_n C 0 dX10_begin_77 rfl rfl ?_
        have f_23 : s_19.len = v_15 := (congrArg TP_.len hs_19).symm.trans q_16
        refine g_getI C K hLx hkx f_10_29 (v := v_15) q_16 dX10_begin_78 ?_
        refine g_iload_n C 1 dX10_begin_81 rfl rfl ?_
        refine g_icmp_le C (tgt := 90) dX10_begin_82 (by decide) (fun h_24 => ?_) (fun h_24 => ?_)
        · skip
          have r_25 := le_l (h_24) rv_15 ra0
          refine g_bipush C (v := 102) dX10_begin_90 (by decide) ?_
          refine g_iload_n C 2 dX10_begin_92 rfl rfl ?_
          refine g_lconst C (v := 0) dX10_begin_93 (by decide) ?_
          refine g_callVV C K (c_X10_addToken W9 hLx hkx 102 v_12 0 (rg_w rc_102 (by decide) (by decide)) (rg_w rv_12 (by decide) (by decide)) hU_9) hLx hkx (by decide) rfl v_10_80 rfl ⟨rfl, rfl⟩ ⟨Nat.le_of_ble_eq_true rfl, Nat.le_of_ble_eq_true rfl⟩ (Nat.le_of_ble_eq_true rfl) ⟨Nat.le_of_ble_eq_true rfl, Nat.le_of_ble_eq_true rfl⟩ dX10_begin_94 rfl (st := []) (fun I_27 J_28 h_29 => ?_)
          obtain ⟨hUI_27, hFI_27, hGJ_28, fx_26⟩ := h_29
          have hF_30 := fq_tr hF_10 hFI_27 (by decide)
          have hG_31 := fq_tr hG_11 hGJ_28 (by decide)
          obtain ⟨s_33, hs_33⟩ : ∃ z, TPq I_27 J_28 x b_1 b_2 b_3 b_4 b_5 = z := ⟨_, rfl⟩
          have c_32 : fAddToken (102) (v_12) (0) (s_19) = s_33 := by have q := fx_26; simp only [etqx, hs_19, hs_33] at q; exact q.symm
          refine g_aload_n C 0 dX10_begin_97 rfl rfl ?_
          refine g_iconst C (v := 0) dX10_begin_98 (by decide) ?_
          refine h_putI C K hLx hkx f_10_49 p_10_11 dX10_begin_99 (fun I_34 hI_34 => ?_)
          have hU_35 := iv_put W9 hUI_27 hI_34 (ro_o hkx (by decide)) (lo := (-2147483648)) (hi := 2147483647) (rfl) (rg_all _) rfl
          have hF_36 := fq_puto hF_30 hI_34 hkx (by decide) (by decide)
          have hs_37 : TPq I_34 J_28 x b_1 b_2 b_3 b_4 b_5 = (TP_.w_fault s_33 (0)) := by rw [hI_34]; exact ((tq_fault wtqx).trans (congrArg (fun z : TP_ => TP_.w_fault z (0)) hs_33)).trans rfl
          refine g_aload_n C 0 dX10_begin_102 rfl rfl ?_
          refine g_iconst C (v := 0) dX10_begin_103 (by decide) ?_
          refine h_putI C K hLx hkx f_10_52 p_10_12 dX10_begin_104 (fun I_38 hI_38 => ?_)
          have hU_39 := iv_put W9 hU_35 hI_38 (ro_o hkx (by decide)) (lo := (-2147483648)) (hi := 2147483647) (rfl) (rg_all _) rfl
          have hF_40 := fq_puto hF_36 hI_38 hkx (by decide) (by decide)
          have hs_41 : TPq I_38 J_28 x b_1 b_2 b_3 b_4 b_5 = (TP_.w_fat (TP_.w_fault s_33 (0)) (0)) := by rw [hI_38]; exact ((tq_fat wtqx).trans (congrArg (fun z : TP_ => TP_.w_fat z (0)) hs_37)).trans rfl
          refine g_aload_n C 0 dX10_begin_107 rfl rfl ?_
          refine g_iconst C (v := (-1)) dX10_begin_108 (by decide) ?_
          refine h_putI C K hLx hkx f_10_36 p_10_7 dX10_begin_109 (fun I_42 hI_42 => ?_)
          have hU_43 := iv_put W9 hU_39 hI_42 (ro_o hkx (by decide)) (lo := (-1)) (hi := 900) (rfl) (rg_w rc_m1 (by decide) (by decide)) rfl
          have hF_44 := fq_puto hF_40 hI_42 hkx (by decide) (by decide)
          have hs_45 : TPq I_42 J_28 x b_1 b_2 b_3 b_4 b_5 = (TP_.w_at_ (TP_.w_fat (TP_.w_fault s_33 (0)) (0)) ((-1))) := by rw [hI_42]; exact ((tq_at_ wtqx).trans (congrArg (fun z : TP_ => TP_.w_at_ z ((-1))) hs_41)).trans rfl
          refine g_aload_n C 0 dX10_begin_112 rfl rfl ?_
          refine g_callVV C K (c_X10_advance W9 hLx hkx   hU_43) hLx hkx (by decide) rfl v_10_84 rfl ⟨rfl, rfl⟩ ⟨Nat.le_of_ble_eq_true rfl, Nat.le_of_ble_eq_true rfl⟩ (Nat.le_of_ble_eq_true rfl) ⟨Nat.le_of_ble_eq_true rfl, Nat.le_of_ble_eq_true rfl⟩ dX10_begin_113 rfl (st := []) (fun I_47 J_48 h_49 => ?_)
          obtain ⟨hUI_47, hFI_47, hGJ_48, fx_46⟩ := h_49
          have hF_50 := fq_tr hF_44 hFI_47 (by decide)
          have hG_51 := fq_tr hG_31 hGJ_48 (by decide)
          obtain ⟨s_53, hs_53⟩ : ∃ z, TPq I_47 J_48 x b_1 b_2 b_3 b_4 b_5 = z := ⟨_, rfl⟩
          have c_52 : fAdvance ((TP_.w_at_ (TP_.w_fat (TP_.w_fault s_33 (0)) (0)) ((-1)))) = s_53 := by have q := fx_46; simp only [etqx, hs_45, hs_53] at q; exact q.symm
          exact g_vret B K rfl ⟨hUI_47, hF_50, hG_51, (by (try simp only [h_22, f_23, h_24, c_32, if_true, if_false, tqM_by_, tqM_wd, tqM_tk, tqM_pl, tqM_vl, tqM_len, tqM_n, tqM_at_, tqM_token, tqM_place, tqM_value, tqM_fault, tqM_fat, TP_.w_by_, TP_.w_wd, TP_.w_tk, TP_.w_pl, TP_.w_vl, TP_.w_len, TP_.w_n, TP_.w_at_, TP_.w_token, TP_.w_place, TP_.w_value, TP_.w_fault, TP_.w_fat] at hQ_20); (try simp only [h_22, f_23, h_24, c_32, if_true, if_false, tqM_by_, tqM_wd, tqM_tk, tqM_pl, tqM_vl, tqM_len, tqM_n, tqM_at_, tqM_token, tqM_place, tqM_value, tqM_fault, tqM_fat, TP_.w_by_, TP_.w_wd, TP_.w_tk, TP_.w_pl, TP_.w_vl, TP_.w_len, TP_.w_n, TP_.w_at_, TP_.w_token, TP_.w_place, TP_.w_value, TP_.w_fault, TP_.w_fat] at u_21); (try simp only [h_22, f_23, h_24, c_32, if_true, if_false, tqM_by_, tqM_wd, tqM_tk, tqM_pl, tqM_vl, tqM_len, tqM_n, tqM_at_, tqM_token, tqM_place, tqM_value, tqM_fault, tqM_fat, TP_.w_by_, TP_.w_wd, TP_.w_tk, TP_.w_pl, TP_.w_vl, TP_.w_len, TP_.w_n, TP_.w_at_, TP_.w_token, TP_.w_place, TP_.w_value, TP_.w_fault, TP_.w_fat] at c_52); simp only [fBegin, etqx, hs_53, hs_6, hQ_20, u_21, h_22, f_23, h_24, c_32, c_52, if_true, if_false, tqM_by_, tqM_wd, tqM_tk, tqM_pl, tqM_vl, tqM_len, tqM_n, tqM_at_, tqM_token, tqM_place, tqM_value, tqM_fault, tqM_fat, TP_.w_by_, TP_.w_wd, TP_.w_tk, TP_.w_pl, TP_.w_vl, TP_.w_len, TP_.w_n, TP_.w_at_, TP_.w_token, TP_.w_place, TP_.w_value, TP_.w_fault, TP_.w_fat])⟩ dX10_begin_116
        · skip
          have r_54 := lt_r (lo := 201) (nle h_24) ra0 rv_15 (by decide)
          refine g_bipush C (v := 103) dX10_begin_85 (by decide) ?_
          refine g_goto C (tgt := 92) dX10_begin_87 (by decide) ?_
          refine g_iload_n C 2 dX10_begin_92 rfl rfl ?_
          refine g_lconst C (v := 0) dX10_begin_93 (by decide) ?_
          refine g_callVV C K (c_X10_addToken W9 hLx hkx 103 v_12 0 (rg_w rc_103 (by decide) (by decide)) (rg_w rv_12 (by decide) (by decide)) hU_9) hLx hkx (by decide) rfl v_10_80 rfl ⟨rfl, rfl⟩ ⟨Nat.le_of_ble_eq_true rfl, Nat.le_of_ble_eq_true rfl⟩ (Nat.le_of_ble_eq_true rfl) ⟨Nat.le_of_ble_eq_true rfl, Nat.le_of_ble_eq_true rfl⟩ dX10_begin_94 rfl (st := []) (fun I_56 J_57 h_58 => ?_)
          obtain ⟨hUI_56, hFI_56, hGJ_57, fx_55⟩ := h_58
          have hF_59 := fq_tr hF_10 hFI_56 (by decide)
          have hG_60 := fq_tr hG_11 hGJ_57 (by decide)
          obtain ⟨s_62, hs_62⟩ : ∃ z, TPq I_56 J_57 x b_1 b_2 b_3 b_4 b_5 = z := ⟨_, rfl⟩
          have c_61 : fAddToken (103) (v_12) (0) (s_19) = s_62 := by have q := fx_55; simp only [etqx, hs_19, hs_62] at q; exact q.symm
          refine g_aload_n C 0 dX10_begin_97 rfl rfl ?_
          refine g_iconst C (v := 0) dX10_begin_98 (by decide) ?_
          refine h_putI C K hLx hkx f_10_49 p_10_11 dX10_begin_99 (fun I_63 hI_63 => ?_)
          have hU_64 := iv_put W9 hUI_56 hI_63 (ro_o hkx (by decide)) (lo := (-2147483648)) (hi := 2147483647) (rfl) (rg_all _) rfl
          have hF_65 := fq_puto hF_59 hI_63 hkx (by decide) (by decide)
          have hs_66 : TPq I_63 J_57 x b_1 b_2 b_3 b_4 b_5 = (TP_.w_fault s_62 (0)) := by rw [hI_63]; exact ((tq_fault wtqx).trans (congrArg (fun z : TP_ => TP_.w_fault z (0)) hs_62)).trans rfl
          refine g_aload_n C 0 dX10_begin_102 rfl rfl ?_
          refine g_iconst C (v := 0) dX10_begin_103 (by decide) ?_
          refine h_putI C K hLx hkx f_10_52 p_10_12 dX10_begin_104 (fun I_67 hI_67 => ?_)
          have hU_68 := iv_put W9 hU_64 hI_67 (ro_o hkx (by decide)) (lo := (-2147483648)) (hi := 2147483647) (rfl) (rg_all _) rfl
          have hF_69 := fq_puto hF_65 hI_67 hkx (by decide) (by decide)
          have hs_70 : TPq I_67 J_57 x b_1 b_2 b_3 b_4 b_5 = (TP_.w_fat (TP_.w_fault s_62 (0)) (0)) := by rw [hI_67]; exact ((tq_fat wtqx).trans (congrArg (fun z : TP_ => TP_.w_fat z (0)) hs_66)).trans rfl
          refine g_aload_n C 0 dX10_begin_107 rfl rfl ?_
          refine g_iconst C (v := (-1)) dX10_begin_108 (by decide) ?_
          refine h_putI C K hLx hkx f_10_36 p_10_7 dX10_begin_109 (fun I_71 hI_71 => ?_)
          have hU_72 := iv_put W9 hU_68 hI_71 (ro_o hkx (by decide)) (lo := (-1)) (hi := 900) (rfl) (rg_w rc_m1 (by decide) (by decide)) rfl
          have hF_73 := fq_puto hF_69 hI_71 hkx (by decide) (by decide)
          have hs_74 : TPq I_71 J_57 x b_1 b_2 b_3 b_4 b_5 = (TP_.w_at_ (TP_.w_fat (TP_.w_fault s_62 (0)) (0)) ((-1))) := by rw [hI_71]; exact ((tq_at_ wtqx).trans (congrArg (fun z : TP_ => TP_.w_at_ z ((-1))) hs_70)).trans rfl
          refine g_aload_n C 0 dX10_begin_112 rfl rfl ?_
          refine g_callVV C K (c_X10_advance W9 hLx hkx   hU_72) hLx hkx (by decide) rfl v_10_84 rfl ⟨rfl, rfl⟩ ⟨Nat.le_of_ble_eq_true rfl, Nat.le_of_ble_eq_true rfl⟩ (Nat.le_of_ble_eq_true rfl) ⟨Nat.le_of_ble_eq_true rfl, Nat.le_of_ble_eq_true rfl⟩ dX10_begin_113 rfl (st := []) (fun I_76 J_77 h_78 => ?_)
          obtain ⟨hUI_76, hFI_76, hGJ_77, fx_75⟩ := h_78
          have hF_79 := fq_tr hF_73 hFI_76 (by decide)
          have hG_80 := fq_tr hG_60 hGJ_77 (by decide)
          obtain ⟨s_82, hs_82⟩ : ∃ z, TPq I_76 J_77 x b_1 b_2 b_3 b_4 b_5 = z := ⟨_, rfl⟩
          have c_81 : fAdvance ((TP_.w_at_ (TP_.w_fat (TP_.w_fault s_62 (0)) (0)) ((-1)))) = s_82 := by have q := fx_75; simp only [etqx, hs_74, hs_82] at q; exact q.symm
          exact g_vret B K rfl ⟨hUI_76, hF_79, hG_80, (by (try simp only [h_22, f_23, h_24, (nle h_24), c_61, if_true, if_false, tqM_by_, tqM_wd, tqM_tk, tqM_pl, tqM_vl, tqM_len, tqM_n, tqM_at_, tqM_token, tqM_place, tqM_value, tqM_fault, tqM_fat, TP_.w_by_, TP_.w_wd, TP_.w_tk, TP_.w_pl, TP_.w_vl, TP_.w_len, TP_.w_n, TP_.w_at_, TP_.w_token, TP_.w_place, TP_.w_value, TP_.w_fault, TP_.w_fat] at hQ_20); (try simp only [h_22, f_23, h_24, (nle h_24), c_61, if_true, if_false, tqM_by_, tqM_wd, tqM_tk, tqM_pl, tqM_vl, tqM_len, tqM_n, tqM_at_, tqM_token, tqM_place, tqM_value, tqM_fault, tqM_fat, TP_.w_by_, TP_.w_wd, TP_.w_tk, TP_.w_pl, TP_.w_vl, TP_.w_len, TP_.w_n, TP_.w_at_, TP_.w_token, TP_.w_place, TP_.w_value, TP_.w_fault, TP_.w_fat] at u_21); (try simp only [h_22, f_23, h_24, (nle h_24), c_61, if_true, if_false, tqM_by_, tqM_wd, tqM_tk, tqM_pl, tqM_vl, tqM_len, tqM_n, tqM_at_, tqM_token, tqM_place, tqM_value, tqM_fault, tqM_fat, TP_.w_by_, TP_.w_wd, TP_.w_tk, TP_.w_pl, TP_.w_vl, TP_.w_len, TP_.w_n, TP_.w_at_, TP_.w_token, TP_.w_place, TP_.w_value, TP_.w_fault, TP_.w_fat] at c_81); simp only [fBegin, etqx, hs_82, hs_6, hQ_20, u_21, h_22, f_23, h_24, (nle h_24), c_61, c_81, if_true, if_false, tqM_by_, tqM_wd, tqM_tk, tqM_pl, tqM_vl, tqM_len, tqM_n, tqM_at_, tqM_token, tqM_place, tqM_value, tqM_fault, tqM_fat, TP_.w_by_, TP_.w_wd, TP_.w_tk, TP_.w_pl, TP_.w_vl, TP_.w_len, TP_.w_n, TP_.w_at_, TP_.w_token, TP_.w_place, TP_.w_value, TP_.w_fault, TP_.w_fat])⟩ dX10_begin_116
      · skip
        have r_83 := lt_l (hi := 899) (nle h_22) rv_14 rv_12 (by decide)
        have r_84 := lt_r (lo := 1) (nle h_22) rv_14 rv_12 (by decide)
        refine g_iload C 4 dX10_begin_33 rfl ?_
        refine g_iload_n C 3 dX10_begin_35 rfl rfl ?_
        refine g_icmp_lt C (tgt := 70) dX10_begin_36 (by decide) (fun h_85 => ?_) (fun h_85 => ?_)
        · skip
          have r_86 := lt_r (lo := 1) (h_85) r_83 rv_13 (by decide)
          obtain ⟨x_87, hx_87, rx_87, tx_87⟩ := ex_add (y := 1) 1 900 r_83 rc_1 (by decide) (by decide) (by decide) (by decide)
          refine g_iinc C dX10_begin_70 (k := 4) (v := x_87) rfl hx_87 (by decide) (lo2 := [(4, .int x_87), (0, .ref x), (1, .int a0), (2, .int v_12), (3, .int v_13)]) rfl ?_
          refine g_goto C (tgt := 27) dX10_begin_73 (by decide) ?_
          refine g_lo (is := [1, 2, 3, 4, 0]) (lo2 := [(0, .ref x), (1, .int a0), (2, .int v_12), (3, .int v_13), (4, .int x_87)]) rfl ?_
          exact ih_27 I_7 J_8 hU_9 hF_10 hG_11 v_12 (rg_w r_84 (by decide) (by decide)) v_13 (rg_w r_86 (by decide) (by decide)) x_87 (rg_w rx_87 (by decide) (by decide)) v_15 (rv_15) q_16 (by (try simp only [h_22, (nle h_22), h_85, hx_87, if_true, if_false, tqM_by_, tqM_wd, tqM_tk, tqM_pl, tqM_vl, tqM_len, tqM_n, tqM_at_, tqM_token, tqM_place, tqM_value, tqM_fault, tqM_fat, TP_.w_by_, TP_.w_wd, TP_.w_tk, TP_.w_pl, TP_.w_vl, TP_.w_len, TP_.w_n, TP_.w_at_, TP_.w_token, TP_.w_place, TP_.w_value, TP_.w_fault, TP_.w_fat] at hQ_20); (try simp only [h_22, (nle h_22), h_85, hx_87, if_true, if_false, tqM_by_, tqM_wd, tqM_tk, tqM_pl, tqM_vl, tqM_len, tqM_n, tqM_at_, tqM_token, tqM_place, tqM_value, tqM_fault, tqM_fat, TP_.w_by_, TP_.w_wd, TP_.w_tk, TP_.w_pl, TP_.w_vl, TP_.w_len, TP_.w_n, TP_.w_at_, TP_.w_token, TP_.w_place, TP_.w_value, TP_.w_fault, TP_.w_fat] at u_21); simp only [etqx, hs_19, hs_6, hQ_20, u_21, h_22, (nle h_22), h_85, hx_87, if_true, if_false, tqM_by_, tqM_wd, tqM_tk, tqM_pl, tqM_vl, tqM_len, tqM_n, tqM_at_, tqM_token, tqM_place, tqM_value, tqM_fault, tqM_fat, TP_.w_by_, TP_.w_wd, TP_.w_tk, TP_.w_pl, TP_.w_vl, TP_.w_len, TP_.w_n, TP_.w_at_, TP_.w_token, TP_.w_place, TP_.w_value, TP_.w_fault, TP_.w_fat]) (ms_1 hm_18 (ti_k tx_87 rc_1) (by decide))
        · skip
          have r_88 := le_l (nlt h_85) rv_13 r_83
          refine g_aload_n C 0 dX10_begin_39 rfl rfl ?_
          refine g_getR C K hLx hkx f_10_9 hb_1 dX10_begin_40 ?_
          refine g_iload C 4 dX10_begin_43 rfl ?_
          obtain ⟨x_89, hx_89, rx_89⟩ := ex_get (I := I_7) (a := b_1) (j := v_14.toNatClampNeg) (lo := (-128)) (hi := 127) hU_9.1 hb_1L (ro_a hb_1k (by decide) hb_1o hkx rfl) (rfl)
          refine h_bald C K hb_1L hb_1k (v := x_89) (v_14.toNatClampNeg) (rfl) (ix_0 r_83 (by decide)) (ix_lt r_83 (by decide) hb_1n (by decide)) hx_89 dX10_begin_45 ?_
          have f_90 : s_19.by_ (v_14.toNatClampNeg) = x_89 := (congrFun (congrArg TP_.by_ hs_19) _).symm.trans hx_89
          refine g_bipush C (v := 32) dX10_begin_46 (by decide) ?_
          refine g_icmp_eq C (tgt := 70) dX10_begin_48 (by decide) (fun h_91 => ?_) (fun h_91 => ?_)
          · skip
            have r_92 := (⟨(eq_rg (h_91) rc_32).1, (eq_rg (h_91) rc_32).2⟩ : Rg 32 32 x_89)
            obtain ⟨x_93, hx_93, rx_93, tx_93⟩ := ex_add (y := 1) 1 900 r_83 rc_1 (by decide) (by decide) (by decide) (by decide)
            refine g_iinc C dX10_begin_70 (k := 4) (v := x_93) rfl hx_93 (by decide) (lo2 := [(4, .int x_93), (0, .ref x), (1, .int a0), (2, .int v_12), (3, .int v_13)]) rfl ?_
            refine g_goto C (tgt := 27) dX10_begin_73 (by decide) ?_
            refine g_lo (is := [1, 2, 3, 4, 0]) (lo2 := [(0, .ref x), (1, .int a0), (2, .int v_12), (3, .int v_13), (4, .int x_93)]) rfl ?_
            exact ih_27 I_7 J_8 hU_9 hF_10 hG_11 v_12 (rg_w r_84 (by decide) (by decide)) v_13 (rg_w r_88 (by decide) (by decide)) x_93 (rg_w rx_93 (by decide) (by decide)) v_15 (rv_15) q_16 (by (try simp only [h_22, (nle h_22), h_85, (nlt h_85), hx_89, f_90, (eq_true h_91), hx_93, if_true, if_false, tqM_by_, tqM_wd, tqM_tk, tqM_pl, tqM_vl, tqM_len, tqM_n, tqM_at_, tqM_token, tqM_place, tqM_value, tqM_fault, tqM_fat, TP_.w_by_, TP_.w_wd, TP_.w_tk, TP_.w_pl, TP_.w_vl, TP_.w_len, TP_.w_n, TP_.w_at_, TP_.w_token, TP_.w_place, TP_.w_value, TP_.w_fault, TP_.w_fat] at hQ_20); (try simp only [h_22, (nle h_22), h_85, (nlt h_85), hx_89, f_90, (eq_true h_91), hx_93, if_true, if_false, tqM_by_, tqM_wd, tqM_tk, tqM_pl, tqM_vl, tqM_len, tqM_n, tqM_at_, tqM_token, tqM_place, tqM_value, tqM_fault, tqM_fat, TP_.w_by_, TP_.w_wd, TP_.w_tk, TP_.w_pl, TP_.w_vl, TP_.w_len, TP_.w_n, TP_.w_at_, TP_.w_token, TP_.w_place, TP_.w_value, TP_.w_fault, TP_.w_fat] at u_21); simp only [etqx, hs_19, hs_6, hQ_20, u_21, h_22, (nle h_22), h_85, (nlt h_85), hx_89, f_90, (eq_true h_91), hx_93, if_true, if_false, tqM_by_, tqM_wd, tqM_tk, tqM_pl, tqM_vl, tqM_len, tqM_n, tqM_at_, tqM_token, tqM_place, tqM_value, tqM_fault, tqM_fat, TP_.w_by_, TP_.w_wd, TP_.w_tk, TP_.w_pl, TP_.w_vl, TP_.w_len, TP_.w_n, TP_.w_at_, TP_.w_token, TP_.w_place, TP_.w_value, TP_.w_fault, TP_.w_fat]) (ms_1 hm_18 (ti_k tx_93 rc_1) (by decide))
          · skip
            have n_94 : ¬ x_89 = 32 := h_91
            refine g_aload_n C 0 dX10_begin_51 rfl rfl ?_
            refine g_getR C K hLx hkx f_10_9 hb_1 dX10_begin_52 ?_
            refine g_iload C 4 dX10_begin_55 rfl ?_
            refine h_bald C K hb_1L hb_1k (v := x_89) (v_14.toNatClampNeg) (rfl) (ix_0 r_83 (by decide)) (ix_lt r_83 (by decide) hb_1n (by decide)) hx_89 dX10_begin_57 ?_
            refine g_bipush C (v := 10) dX10_begin_58 (by decide) ?_
            refine g_icmp_eq C (tgt := 70) dX10_begin_60 (by decide) (fun h_96 => ?_) (fun h_96 => ?_)
            · skip
              have r_97 := (⟨(eq_rg (h_96) rc_10).1, (eq_rg (h_96) rc_10).2⟩ : Rg 10 10 x_89)
              obtain ⟨x_98, hx_98, rx_98, tx_98⟩ := ex_add (y := 1) 1 900 r_83 rc_1 (by decide) (by decide) (by decide) (by decide)
              refine g_iinc C dX10_begin_70 (k := 4) (v := x_98) rfl hx_98 (by decide) (lo2 := [(4, .int x_98), (0, .ref x), (1, .int a0), (2, .int v_12), (3, .int v_13)]) rfl ?_
              refine g_goto C (tgt := 27) dX10_begin_73 (by decide) ?_
              refine g_lo (is := [1, 2, 3, 4, 0]) (lo2 := [(0, .ref x), (1, .int a0), (2, .int v_12), (3, .int v_13), (4, .int x_98)]) rfl ?_
              exact ih_27 I_7 J_8 hU_9 hF_10 hG_11 v_12 (rg_w r_84 (by decide) (by decide)) v_13 (rg_w r_88 (by decide) (by decide)) x_98 (rg_w rx_98 (by decide) (by decide)) v_15 (rv_15) q_16 (by (try simp only [h_22, (nle h_22), h_85, (nlt h_85), hx_89, f_90, h_91, (eq_true h_96), hx_98, if_true, if_false, tqM_by_, tqM_wd, tqM_tk, tqM_pl, tqM_vl, tqM_len, tqM_n, tqM_at_, tqM_token, tqM_place, tqM_value, tqM_fault, tqM_fat, TP_.w_by_, TP_.w_wd, TP_.w_tk, TP_.w_pl, TP_.w_vl, TP_.w_len, TP_.w_n, TP_.w_at_, TP_.w_token, TP_.w_place, TP_.w_value, TP_.w_fault, TP_.w_fat] at hQ_20); (try simp only [h_22, (nle h_22), h_85, (nlt h_85), hx_89, f_90, h_91, (eq_true h_96), hx_98, if_true, if_false, tqM_by_, tqM_wd, tqM_tk, tqM_pl, tqM_vl, tqM_len, tqM_n, tqM_at_, tqM_token, tqM_place, tqM_value, tqM_fault, tqM_fat, TP_.w_by_, TP_.w_wd, TP_.w_tk, TP_.w_pl, TP_.w_vl, TP_.w_len, TP_.w_n, TP_.w_at_, TP_.w_token, TP_.w_place, TP_.w_value, TP_.w_fault, TP_.w_fat] at u_21); simp only [etqx, hs_19, hs_6, hQ_20, u_21, h_22, (nle h_22), h_85, (nlt h_85), hx_89, f_90, h_91, (eq_true h_96), hx_98, if_true, if_false, tqM_by_, tqM_wd, tqM_tk, tqM_pl, tqM_vl, tqM_len, tqM_n, tqM_at_, tqM_token, tqM_place, tqM_value, tqM_fault, tqM_fat, TP_.w_by_, TP_.w_wd, TP_.w_tk, TP_.w_pl, TP_.w_vl, TP_.w_len, TP_.w_n, TP_.w_at_, TP_.w_token, TP_.w_place, TP_.w_value, TP_.w_fault, TP_.w_fat]) (ms_1 hm_18 (ti_k tx_98 rc_1) (by decide))
            · skip
              have n_99 : ¬ x_89 = 10 := h_96
              refine g_aload_n C 0 dX10_begin_63 rfl rfl ?_
              refine g_iload C 4 dX10_begin_64 rfl ?_
              refine g_callVI C K (c_X10_readToken W9 hLx hkx v_14 (rg_w r_83 (by decide) (by decide)) hU_9) hLx hkx (by decide) rfl v_10_76 rfl ⟨rfl, rfl⟩ ⟨Nat.le_of_ble_eq_true rfl, Nat.le_of_ble_eq_true rfl⟩ (Nat.le_of_ble_eq_true rfl) ⟨Nat.le_of_ble_eq_true rfl, Nat.le_of_ble_eq_true rfl⟩ dX10_begin_66 rfl (st := []) (fun x_100 I_101 J_102 h_103 => ?_)
              obtain ⟨hUI_101, hFI_101, hGJ_102, rx_100, fx_100⟩ := h_103
              have hF_104 := fq_tr hF_10 hFI_101 (by decide)
              have hG_105 := fq_tr hG_11 hGJ_102 (by decide)
              obtain ⟨s_107, hs_107⟩ : ∃ z, TPq I_101 J_102 x b_1 b_2 b_3 b_4 b_5 = z := ⟨_, rfl⟩
              have c_106 : fReadToken (v_14) (s_19) = (x_100, s_107) := by have q := fx_100; simp only [etqx, hs_19, hs_107] at q; exact q.symm
              refine g_istore_n C dX10_begin_69 rfl (by decide) (lo2 := [(3, .int x_100), (0, .ref x), (1, .int a0), (2, .int v_12), (4, .int v_14)]) rfl ?_
              obtain ⟨x_108, hx_108, rx_108, tx_108⟩ := ex_add (y := 1) 1 900 r_83 rc_1 (by decide) (by decide) (by decide) (by decide)
              refine g_iinc C dX10_begin_70 (k := 4) (v := x_108) rfl hx_108 (by decide) (lo2 := [(4, .int x_108), (3, .int x_100), (0, .ref x), (1, .int a0), (2, .int v_12)]) rfl ?_
              refine g_goto C (tgt := 27) dX10_begin_73 (by decide) ?_
              refine g_lo (is := [2, 3, 4, 1, 0]) (lo2 := [(0, .ref x), (1, .int a0), (2, .int v_12), (3, .int x_100), (4, .int x_108)]) rfl ?_
              exact ih_27 I_101 J_102 hUI_101 hF_104 hG_105 v_12 (rg_w r_84 (by decide) (by decide)) x_100 (rx_100) x_108 (rg_w rx_108 (by decide) (by decide)) v_15 (rv_15) (fq_at hFI_101 hLx hkx (by decide) (by decide) q_16) (by (try simp only [h_22, (nle h_22), h_85, (nlt h_85), hx_89, f_90, h_91, h_96, c_106, hx_108, if_true, if_false, tqM_by_, tqM_wd, tqM_tk, tqM_pl, tqM_vl, tqM_len, tqM_n, tqM_at_, tqM_token, tqM_place, tqM_value, tqM_fault, tqM_fat, TP_.w_by_, TP_.w_wd, TP_.w_tk, TP_.w_pl, TP_.w_vl, TP_.w_len, TP_.w_n, TP_.w_at_, TP_.w_token, TP_.w_place, TP_.w_value, TP_.w_fault, TP_.w_fat] at hQ_20); (try simp only [h_22, (nle h_22), h_85, (nlt h_85), hx_89, f_90, h_91, h_96, c_106, hx_108, if_true, if_false, tqM_by_, tqM_wd, tqM_tk, tqM_pl, tqM_vl, tqM_len, tqM_n, tqM_at_, tqM_token, tqM_place, tqM_value, tqM_fault, tqM_fat, TP_.w_by_, TP_.w_wd, TP_.w_tk, TP_.w_pl, TP_.w_vl, TP_.w_len, TP_.w_n, TP_.w_at_, TP_.w_token, TP_.w_place, TP_.w_value, TP_.w_fault, TP_.w_fat] at u_21); simp only [etqx, hs_107, hs_6, hQ_20, u_21, h_22, (nle h_22), h_85, (nlt h_85), hx_89, f_90, h_91, h_96, c_106, hx_108, if_true, if_false, tqM_by_, tqM_wd, tqM_tk, tqM_pl, tqM_vl, tqM_len, tqM_n, tqM_at_, tqM_token, tqM_place, tqM_value, tqM_fault, tqM_fat, TP_.w_by_, TP_.w_wd, TP_.w_tk, TP_.w_pl, TP_.w_vl, TP_.w_len, TP_.w_n, TP_.w_at_, TP_.w_token, TP_.w_place, TP_.w_value, TP_.w_fault, TP_.w_fat]) (ms_1 hm_18 (ti_k tx_108 rc_1) (by decide))
  refine g_aload_n C 0 dX10_begin_0 rfl rfl ?_
  obtain ⟨x_109, hx_109, rx_109⟩ := ex_get (I := I) (a := x) (j := 5) (lo := 0) (hi := 940) hU.1 hLx (ro_o hkx (by decide)) rfl
  have f_110 : s_6.len = x_109 := (congrArg TP_.len hs_6).symm.trans hx_109
  refine g_getI C K hLx hkx f_10_29 (v := x_109) hx_109 dX10_begin_1 ?_
  refine g_iload_n C 1 dX10_begin_4 rfl rfl ?_
  obtain ⟨x_111, hx_111, rx_111⟩ := ex_min 0 900 rx_109 ra0 (by decide) (by decide) (by decide)
  refine g_mmin C (v := x_111) mw_10_70 w_min (Nat.le_of_ble_eq_true rfl) (Nat.le_of_ble_eq_true rfl) ⟨Nat.le_of_ble_eq_true rfl, Nat.le_of_ble_eq_true rfl⟩ (hx_111) dX10_begin_5 ?_
  refine g_aload_n C 0 dX10_begin_8 rfl rfl ?_
  refine g_getR C K hLx hkx f_10_9 hb_1 dX10_begin_9 ?_
  refine g_alenB C K hb_1L hb_1k (v := 940) (by rw [hb_1n]; rfl) dX10_begin_12 ?_
  obtain ⟨x_112, hx_112, rx_112⟩ := ex_min 0 900 rx_111 rc_940 (by decide) (by decide) (by decide)
  refine g_mmin C (v := x_112) mw_10_70 w_min (Nat.le_of_ble_eq_true rfl) (Nat.le_of_ble_eq_true rfl) ⟨Nat.le_of_ble_eq_true rfl, Nat.le_of_ble_eq_true rfl⟩ (hx_112) dX10_begin_13 ?_
  refine g_istore_n C dX10_begin_16 rfl (by decide) (lo2 := [(2, .int x_112), (0, .ref x), (1, .int a0)]) rfl ?_
  refine g_iconst C (v := 0) dX10_begin_17 (by decide) ?_
  refine g_istore_n C dX10_begin_18 rfl (by decide) (lo2 := [(3, .int 0), (2, .int x_112), (0, .ref x), (1, .int a0)]) rfl ?_
  refine g_aload_n C 2 dX10_begin_19 rfl rfl ?_
  refine g_iconst C (v := 0) dX10_begin_20 (by decide) ?_
  refine h_putI C K hLx hkx f_10_33 p_10_6 dX10_begin_21 (fun I_113 hI_113 => ?_)
  have hU_114 := iv_put W9 hU hI_113 (ro_o hkx (by decide)) (lo := 0) (hi := 901) (rfl) (rg_w rc_0 (by decide) (by decide)) rfl
  have hF_115 := fq_puto hF hI_113 hkx (by decide) (by decide)
  have hs_116 : TPq I_113 J x b_1 b_2 b_3 b_4 b_5 = (TP_.w_n s_6 (0)) := by rw [hI_113]; exact ((tq_n wtqx).trans (congrArg (fun z : TP_ => TP_.w_n z (0)) hs_6)).trans rfl
  refine g_iconst C (v := 0) dX10_begin_24 (by decide) ?_
  refine g_istore C dX10_begin_25 (by decide) (lo2 := [(4, .int 0), (3, .int 0), (2, .int x_112), (0, .ref x), (1, .int a0)]) rfl ?_
  refine g_lo (is := [3, 4, 2, 1, 0]) (lo2 := [(0, .ref x), (1, .int a0), (2, .int x_112), (3, .int 0), (4, .int 0)]) rfl ?_
  exact l_27 901 I_113 J hU_114 hF_115 hG x_112 (rx_112) 0 (rg_w rc_0 (by decide) (by decide)) 0 (rg_w rc_0 (by decide) (by decide)) x_109 (rx_109) (kp_j hI_113 (by decide) hx_109) (by simp only [fBegin, fBl, fBound, etqx, hs_116, hs_6, hx_109, f_110, hx_111, hx_112, if_true, if_false, tqM_by_, tqM_wd, tqM_tk, tqM_pl, tqM_vl, tqM_len, tqM_n, tqM_at_, tqM_token, tqM_place, tqM_value, tqM_fault, tqM_fat, TP_.w_by_, TP_.w_wd, TP_.w_tk, TP_.w_pl, TP_.w_vl, TP_.w_len, TP_.w_n, TP_.w_at_, TP_.w_token, TP_.w_place, TP_.w_value, TP_.w_fault, TP_.w_fat]) (ms_s (a := 0) (b := 900) (N := 901) (rg_w rc_0 (by decide) (by decide)) (by decide))
set_option maxRecDepth 100000 in
set_option maxHeartbeats 8000000 in
theorem c_X1_forget {l : Launch} {D : va_G} {cy : Nat → ClassId} {L : List Nat} {κ ln : Nat → Nat} {R : Nat → Nat → Option Nat} {I : Nat → Nat → Int32} {J : Nat → Nat → Int64} {ow : Nat → Nat × Nat} (W9 : ∀ a ∈ L, Shp L κ ln R ow a) {x : Nat} (hLx : x ∈ L) (hkx : κ x = 1) (hU : Iv L κ R ow I) : CtV l yX1_forget cX1_forget 2 none { frames := 0, cells := 0, slots := 0, locals := 0 } D cy L κ ln R I J [.ref x] (fun I2 J2 => Iv L κ R ow I2 ∧ Fq L κ ow [107, 108, 109, 110, 111, 112, 16100, 16200, 16300, 16400, 16500, 16600] I I2 ∧ Fq L κ ow [] J J2 ∧ (CPf R I2 J2 x = fForgetC (CPf R I J x))) := by
  refine CtV.of (by decide +kernel) (Nat.le_of_ble_eq_true rfl) ?_
  intro p e s m below meth c B K
  have C := B.1
  have hF : Fq L κ ow [107, 108, 109, 110, 111, 112, 16100, 16200, 16300, 16400, 16500, 16600] I I := fq_rf
  have hG : Fq L κ ow [] J J := fq_rf
  obtain ⟨b_1, hb_1, hb_1L, hb_1k, hb_1n, hb_1o⟩ := shp_a (W9 x hLx) hkx 3 14 7 rfl (by decide)
  obtain ⟨b_2, hb_2, hb_2L, hb_2k, hb_2n, hb_2o⟩ := shp_a (W9 x hLx) hkx 4 14 7 rfl (by decide)
  obtain ⟨b_3, hb_3, hb_3L, hb_3k, hb_3n, hb_3o⟩ := shp_a (W9 x hLx) hkx 6 14 7 rfl (by decide)
  obtain ⟨b_4, hb_4, hb_4L, hb_4k, hb_4n, hb_4o⟩ := shp_a (W9 x hLx) hkx 2 14 42 rfl (by decide)
  obtain ⟨b_5, hb_5, hb_5L, hb_5k, hb_5n, hb_5o⟩ := shp_a (W9 x hLx) hkx 5 14 7 rfl (by decide)
  obtain ⟨b_6, hb_6, hb_6L, hb_6k, hb_6n, hb_6o⟩ := shp_a (W9 x hLx) hkx 1 14 6 rfl (by decide)
  have ecqx : ∀ I J, CPf R I J x = CPq I J x b_4 := fun I J => by simp only [CPf, rr_, Option.getD_some, hb_4]
  have wcqx : cqw_ L κ ow x b_4 := ⟨⟨hLx, hb_4L⟩, ⟨(ro_o hkx (by decide)), (ro_a hb_4k (by decide) hb_4o hkx rfl)⟩⟩
  obtain ⟨s_7, hs_7⟩ : ∃ z, CPq I J x b_4 = z := ⟨_, rfl⟩
  refine g_lo (is := [0]) (lo2 := [(0, .ref x)]) rfl ?_
  have l_44 : ∀ (n_44 : Nat) (I_8 : Nat → Nat → Int32) (J_9 : Nat → Nat → Int64) (hU_10 : Iv L κ R ow I_8) (hF_11 : Fq L κ ow [107, 108, 109, 110, 111, 112, 16100, 16200, 16300, 16400, 16500, 16600] I I_8) (hG_12 : Fq L κ ow [] J J_9) (v_13 : Int32) (rv_13 : Rg 0 7 v_13) (hq_14 : ((CPq I_8 J_9 x b_4)) = fz 0 s_7) (hm_15 : 7 < (v_13 : Int32).toInt + (n_44 : Int)), WG p l e { frames := 0, cells := 0, slots := 0, locals := 0 } s m ([.ref x] : List Value).toArray below meth c 2 0 0 (MQ below (Qv_ D cy L κ ln R (fun I2 J2 => Iv L κ R ow I2 ∧ Fq L κ ow [107, 108, 109, 110, 111, 112, 16100, 16200, 16300, 16400, 16500, 16600] I I2 ∧ Fq L κ ow [] J J2 ∧ (CPf R I2 J2 x = fForgetC (CPf R I J x)))) ([.ref x] : List Value).toArray s 0 0 (Al_ L)) D cy (Al_ L) s.heap L κ ln R I_8 J_9 44 [(0, .ref x), (1, .int v_13)] [] := by
    intro n_44
    induction n_44 with
    | zero =>
      intro I_8 J_9 hU_10 hF_11 hG_12 v_13 rv_13 hq_14 hm_15
      exact ms_0 rv_13 hm_15
    | succ n_44 ih_44 =>
      intro I_8 J_9 hU_10 hF_11 hG_12 v_13 rv_13 hq_14 hm_15
      obtain ⟨s_16, hs_16⟩ : ∃ z, CPq I_8 J_9 x b_4 = z := ⟨_, rfl⟩
      simp only [hs_16] at hq_14
      have hQ_17 := hq_14.symm
      refine g_iload_n C 1 dX1_forget_44 rfl rfl ?_
      refine g_bipush C (v := 7) dX1_forget_45 (by decide) ?_
      refine g_icmp_ge C (tgt := 84) dX1_forget_47 (by decide) (fun h_18 => ?_) (fun h_18 => ?_)
      · skip
        have r_19 := le_r (h_18) rc_7 rv_13
        refine g_aload_n C 0 dX1_forget_84 rfl rfl ?_
        refine g_iconst C (v := 0) dX1_forget_85 (by decide) ?_
        refine h_putI C K hLx hkx f_1_30 p_1_7 dX1_forget_86 (fun I_20 hI_20 => ?_)
        have hU_21 := iv_put W9 hU_10 hI_20 (ro_o hkx (by decide)) (lo := (-2147483648)) (hi := 2147483647) (rfl) (rg_all _) rfl
        have hF_22 := fq_puto hF_11 hI_20 hkx (by decide) (by decide)
        have hs_23 : CPq I_20 J_9 x b_4 = s_16 := by rw [hI_20]; exact (cq_oI wcqx (ro_o hkx (by decide)) (by decide)).trans hs_16
        refine g_aload_n C 0 dX1_forget_89 rfl rfl ?_
        refine g_iconst C (v := 0) dX1_forget_90 (by decide) ?_
        refine h_putI C K hLx hkx f_1_34 p_1_8 dX1_forget_91 (fun I_24 hI_24 => ?_)
        have hU_25 := iv_put W9 hU_21 hI_24 (ro_o hkx (by decide)) (lo := (-2147483648)) (hi := 2147483647) (rfl) (rg_all _) rfl
        have hF_26 := fq_puto hF_22 hI_24 hkx (by decide) (by decide)
        have hs_27 : CPq I_24 J_9 x b_4 = s_16 := by rw [hI_24]; exact (cq_oI wcqx (ro_o hkx (by decide)) (by decide)).trans hs_23
        refine g_aload_n C 0 dX1_forget_94 rfl rfl ?_
        refine g_iconst C (v := 0) dX1_forget_95 (by decide) ?_
        refine h_putI C K hLx hkx f_1_37 p_1_9 dX1_forget_96 (fun I_28 hI_28 => ?_)
        have hU_29 := iv_put W9 hU_25 hI_28 (ro_o hkx (by decide)) (lo := (-2147483648)) (hi := 2147483647) (rfl) (rg_all _) rfl
        have hF_30 := fq_puto hF_26 hI_28 hkx (by decide) (by decide)
        have hs_31 : CPq I_28 J_9 x b_4 = s_16 := by rw [hI_28]; exact (cq_oI wcqx (ro_o hkx (by decide)) (by decide)).trans hs_27
        refine g_aload_n C 0 dX1_forget_99 rfl rfl ?_
        refine g_iconst C (v := 0) dX1_forget_100 (by decide) ?_
        refine h_putI C K hLx hkx f_1_40 p_1_10 dX1_forget_101 (fun I_32 hI_32 => ?_)
        have hU_33 := iv_put W9 hU_29 hI_32 (ro_o hkx (by decide)) (lo := (-2147483648)) (hi := 2147483647) (rfl) (rg_all _) rfl
        have hF_34 := fq_puto hF_30 hI_32 hkx (by decide) (by decide)
        have hs_35 : CPq I_32 J_9 x b_4 = s_16 := by rw [hI_32]; exact (cq_oI wcqx (ro_o hkx (by decide)) (by decide)).trans hs_31
        refine g_aload_n C 0 dX1_forget_104 rfl rfl ?_
        refine g_iconst C (v := 0) dX1_forget_105 (by decide) ?_
        refine h_putI C K hLx hkx f_1_43 p_1_11 dX1_forget_106 (fun I_36 hI_36 => ?_)
        have hU_37 := iv_put W9 hU_33 hI_36 (ro_o hkx (by decide)) (lo := (-2147483648)) (hi := 2147483647) (rfl) (rg_all _) rfl
        have hF_38 := fq_puto hF_34 hI_36 hkx (by decide) (by decide)
        have hs_39 : CPq I_36 J_9 x b_4 = s_16 := by rw [hI_36]; exact (cq_oI wcqx (ro_o hkx (by decide)) (by decide)).trans hs_35
        refine g_aload_n C 0 dX1_forget_109 rfl rfl ?_
        refine g_iconst C (v := 0) dX1_forget_110 (by decide) ?_
        refine h_putI C K hLx hkx f_1_46 p_1_12 dX1_forget_111 (fun I_40 hI_40 => ?_)
        have hU_41 := iv_put W9 hU_37 hI_40 (ro_o hkx (by decide)) (lo := (-2147483648)) (hi := 2147483647) (rfl) (rg_all _) rfl
        have hF_42 := fq_puto hF_38 hI_40 hkx (by decide) (by decide)
        have hs_43 : CPq I_40 J_9 x b_4 = s_16 := by rw [hI_40]; exact (cq_oI wcqx (ro_o hkx (by decide)) (by decide)).trans hs_39
        exact g_vret B K rfl ⟨hU_41, hF_42, hG_12, (by (try simp only [h_18, if_true, if_false, cqM_pcs, CP_.w_pcs] at hQ_17); simp only [fForgetC, ecqx, hs_43, hs_7, hQ_17, h_18, if_true, if_false, cqM_pcs, CP_.w_pcs])⟩ dX1_forget_114
      · skip
        have r_44 := lt_l (hi := 6) (nle h_18) rv_13 rc_7 (by decide)
        refine g_aload_n C 0 dX1_forget_50 rfl rfl ?_
        refine g_getR C K hLx hkx f_1_18 hb_1 dX1_forget_51 ?_
        refine g_iload_n C 1 dX1_forget_54 rfl rfl ?_
        refine g_iconst C (v := 0) dX1_forget_55 (by decide) ?_
        refine h_iast C K hb_1L hb_1k (v_13.toNatClampNeg) (rfl) (ix_0 r_44 (by decide)) (ix_lt r_44 (by decide) hb_1n (by decide)) dX1_forget_56 (fun I_45 hI_45 => ?_)
        have hU_46 := iv_put W9 hU_10 hI_45 (ro_a hb_1k (by decide) hb_1o hkx rfl) (lo := (-2147483648)) (hi := 2147483647) (rfl) (rg_all _) rfl
        have hF_47 := fq_puta hF_11 hI_45 (ro_a hb_1k (by decide) hb_1o hkx rfl) (by decide) (by decide)
        have hs_48 : CPq I_45 J_9 x b_4 = s_16 := by rw [hI_45]; exact (cq_oI wcqx (ro_a hb_1k (by decide) hb_1o hkx rfl) (by decide)).trans hs_16
        refine g_aload_n C 0 dX1_forget_57 rfl rfl ?_
        refine g_getR C K hLx hkx f_1_21 hb_2 dX1_forget_58 ?_
        refine g_iload_n C 1 dX1_forget_61 rfl rfl ?_
        refine g_iconst C (v := 0) dX1_forget_62 (by decide) ?_
        refine h_iast C K hb_2L hb_2k (v_13.toNatClampNeg) (rfl) (ix_0 r_44 (by decide)) (ix_lt r_44 (by decide) hb_2n (by decide)) dX1_forget_63 (fun I_49 hI_49 => ?_)
        have hU_50 := iv_put W9 hU_46 hI_49 (ro_a hb_2k (by decide) hb_2o hkx rfl) (lo := (-2147483648)) (hi := 2147483647) (rfl) (rg_all _) rfl
        have hF_51 := fq_puta hF_47 hI_49 (ro_a hb_2k (by decide) hb_2o hkx rfl) (by decide) (by decide)
        have hs_52 : CPq I_49 J_9 x b_4 = s_16 := by rw [hI_49]; exact (cq_oI wcqx (ro_a hb_2k (by decide) hb_2o hkx rfl) (by decide)).trans hs_48
        refine g_aload_n C 0 dX1_forget_64 rfl rfl ?_
        refine g_getR C K hLx hkx f_1_24 hb_5 dX1_forget_65 ?_
        refine g_iload_n C 1 dX1_forget_68 rfl rfl ?_
        refine g_iconst C (v := 0) dX1_forget_69 (by decide) ?_
        refine h_iast C K hb_5L hb_5k (v_13.toNatClampNeg) (rfl) (ix_0 r_44 (by decide)) (ix_lt r_44 (by decide) hb_5n (by decide)) dX1_forget_70 (fun I_53 hI_53 => ?_)
        have hU_54 := iv_put W9 hU_50 hI_53 (ro_a hb_5k (by decide) hb_5o hkx rfl) (lo := (-2147483648)) (hi := 2147483647) (rfl) (rg_all _) rfl
        have hF_55 := fq_puta hF_51 hI_53 (ro_a hb_5k (by decide) hb_5o hkx rfl) (by decide) (by decide)
        have hs_56 : CPq I_53 J_9 x b_4 = s_16 := by rw [hI_53]; exact (cq_oI wcqx (ro_a hb_5k (by decide) hb_5o hkx rfl) (by decide)).trans hs_52
        refine g_aload_n C 0 dX1_forget_71 rfl rfl ?_
        refine g_getR C K hLx hkx f_1_27 hb_3 dX1_forget_72 ?_
        refine g_iload_n C 1 dX1_forget_75 rfl rfl ?_
        refine g_iconst C (v := 0) dX1_forget_76 (by decide) ?_
        refine h_iast C K hb_3L hb_3k (v_13.toNatClampNeg) (rfl) (ix_0 r_44 (by decide)) (ix_lt r_44 (by decide) hb_3n (by decide)) dX1_forget_77 (fun I_57 hI_57 => ?_)
        have hU_58 := iv_put W9 hU_54 hI_57 (ro_a hb_3k (by decide) hb_3o hkx rfl) (lo := (-2147483648)) (hi := 2147483647) (rfl) (rg_all _) rfl
        have hF_59 := fq_puta hF_55 hI_57 (ro_a hb_3k (by decide) hb_3o hkx rfl) (by decide) (by decide)
        have hs_60 : CPq I_57 J_9 x b_4 = s_16 := by rw [hI_57]; exact (cq_oI wcqx (ro_a hb_3k (by decide) hb_3o hkx rfl) (by decide)).trans hs_56
        obtain ⟨x_61, hx_61, rx_61, tx_61⟩ := ex_add (y := 1) 1 7 r_44 rc_1 (by decide) (by decide) (by decide) (by decide)
        refine g_iinc C dX1_forget_78 (k := 1) (v := x_61) rfl hx_61 (by decide) (lo2 := [(1, .int x_61), (0, .ref x)]) rfl ?_
        refine g_goto C (tgt := 44) dX1_forget_81 (by decide) ?_
        refine g_lo (is := [1, 0]) (lo2 := [(0, .ref x), (1, .int x_61)]) rfl ?_
        exact ih_44 I_57 J_9 hU_58 hF_59 hG_12 x_61 (rg_w rx_61 (by decide) (by decide)) (by (try simp only [h_18, (nle h_18), hx_61, if_true, if_false, cqM_pcs, CP_.w_pcs] at hQ_17); simp only [ecqx, hs_60, hs_7, hQ_17, h_18, (nle h_18), hx_61, if_true, if_false, cqM_pcs, CP_.w_pcs]) (ms_1 hm_15 (ti_k tx_61 rc_1) (by decide))
  have l_23 : ∀ (n_23 : Nat) (I_62 : Nat → Nat → Int32) (J_63 : Nat → Nat → Int64) (hU_64 : Iv L κ R ow I_62) (hF_65 : Fq L κ ow [107, 108, 109, 110, 111, 112, 16100, 16200, 16300, 16400, 16500, 16600] I I_62) (hG_66 : Fq L κ ow [] J J_63) (v_67 : Int32) (rv_67 : Rg 0 42 v_67) (hq_68 : fz v_67 ((CPq I_62 J_63 x b_4)) = fz 0 s_7) (hm_69 : 42 < (v_67 : Int32).toInt + (n_23 : Int)), WG p l e { frames := 0, cells := 0, slots := 0, locals := 0 } s m ([.ref x] : List Value).toArray below meth c 2 0 0 (MQ below (Qv_ D cy L κ ln R (fun I2 J2 => Iv L κ R ow I2 ∧ Fq L κ ow [107, 108, 109, 110, 111, 112, 16100, 16200, 16300, 16400, 16500, 16600] I I2 ∧ Fq L κ ow [] J J2 ∧ (CPf R I2 J2 x = fForgetC (CPf R I J x)))) ([.ref x] : List Value).toArray s 0 0 (Al_ L)) D cy (Al_ L) s.heap L κ ln R I_62 J_63 23 [(0, .ref x), (1, .int v_67)] [] := by
    intro n_23
    induction n_23 with
    | zero =>
      intro I_62 J_63 hU_64 hF_65 hG_66 v_67 rv_67 hq_68 hm_69
      exact ms_0 rv_67 hm_69
    | succ n_23 ih_23 =>
      intro I_62 J_63 hU_64 hF_65 hG_66 v_67 rv_67 hq_68 hm_69
      obtain ⟨s_70, hs_70⟩ : ∃ z, CPq I_62 J_63 x b_4 = z := ⟨_, rfl⟩
      simp only [hs_70] at hq_68
      have hQ_71 := hq_68.symm
      have u_72 := fz_eq (i := v_67) (c := s_70) (rv_67)
      refine g_iload_n C 1 dX1_forget_23 rfl rfl ?_
      refine g_bipush C (v := 42) dX1_forget_24 (by decide) ?_
      refine g_icmp_ge C (tgt := 42) dX1_forget_26 (by decide) (fun h_73 => ?_) (fun h_73 => ?_)
      · skip
        have r_74 := le_r (h_73) rc_42 rv_67
        refine g_iconst C (v := 0) dX1_forget_42 (by decide) ?_
        refine g_istore_n C dX1_forget_43 rfl (by decide) (lo2 := [(1, .int 0), (0, .ref x)]) rfl ?_
        refine g_lo (is := [1, 0]) (lo2 := [(0, .ref x), (1, .int 0)]) rfl ?_
        exact l_44 8 I_62 J_63 hU_64 hF_65 hG_66 0 (rg_w rc_0 (by decide) (by decide)) (by (try simp only [h_73, if_true, if_false, cqM_pcs, CP_.w_pcs] at hQ_71); (try simp only [h_73, if_true, if_false, cqM_pcs, CP_.w_pcs] at u_72); simp only [fForgetC, ecqx, hs_70, hs_7, hQ_71, u_72, h_73, if_true, if_false, cqM_pcs, CP_.w_pcs]) (ms_s (a := 0) (b := 7) (N := 8) (rg_w rc_0 (by decide) (by decide)) (by decide))
      · skip
        have r_75 := lt_l (hi := 41) (nle h_73) rv_67 rc_42 (by decide)
        refine g_aload_n C 0 dX1_forget_29 rfl rfl ?_
        refine g_getR C K hLx hkx f_1_15 hb_4 dX1_forget_30 ?_
        refine g_iload_n C 1 dX1_forget_33 rfl rfl ?_
        refine g_iconst C (v := 0) dX1_forget_34 (by decide) ?_
        refine h_iast C K hb_4L hb_4k (v_67.toNatClampNeg) (rfl) (ix_0 r_75 (by decide)) (ix_lt r_75 (by decide) hb_4n (by decide)) dX1_forget_35 (fun I_76 hI_76 => ?_)
        have hU_77 := iv_put W9 hU_64 hI_76 (ro_a hb_4k (by decide) hb_4o hkx rfl) (lo := (-2147483648)) (hi := 2147483647) (rfl) (rg_all _) rfl
        have hF_78 := fq_puta hF_65 hI_76 (ro_a hb_4k (by decide) hb_4o hkx rfl) (by decide) (by decide)
        have hs_79 : CPq I_76 J_63 x b_4 = (CP_.w_pcs s_70 (up1 (s_70.pcs) (v_67.toNatClampNeg) (0))) := by rw [hI_76]; exact ((cq_pcs wcqx).trans (congrArg (fun z : CP_ => CP_.w_pcs z (up1 (z.pcs) (v_67.toNatClampNeg) (0))) hs_70)).trans rfl
        obtain ⟨x_80, hx_80, rx_80, tx_80⟩ := ex_add (y := 1) 1 42 r_75 rc_1 (by decide) (by decide) (by decide) (by decide)
        refine g_iinc C dX1_forget_36 (k := 1) (v := x_80) rfl hx_80 (by decide) (lo2 := [(1, .int x_80), (0, .ref x)]) rfl ?_
        refine g_goto C (tgt := 23) dX1_forget_39 (by decide) ?_
        refine g_lo (is := [1, 0]) (lo2 := [(0, .ref x), (1, .int x_80)]) rfl ?_
        exact ih_23 I_76 J_63 hU_77 hF_78 hG_66 x_80 (rg_w rx_80 (by decide) (by decide)) (by (try simp only [h_73, (nle h_73), hx_80, if_true, if_false, cqM_pcs, CP_.w_pcs] at hQ_71); (try simp only [h_73, (nle h_73), hx_80, if_true, if_false, cqM_pcs, CP_.w_pcs] at u_72); simp only [ecqx, hs_79, hs_7, hQ_71, u_72, h_73, (nle h_73), hx_80, if_true, if_false, cqM_pcs, CP_.w_pcs]) (ms_1 hm_69 (ti_k tx_80 rc_1) (by decide))
  have l_2 : ∀ (n_2 : Nat) (I_81 : Nat → Nat → Int32) (J_82 : Nat → Nat → Int64) (hU_83 : Iv L κ R ow I_81) (hF_84 : Fq L κ ow [107, 108, 109, 110, 111, 112, 16100, 16200, 16300, 16400, 16500, 16600] I I_81) (hG_85 : Fq L κ ow [] J J_82) (v_86 : Int32) (rv_86 : Rg 0 6 v_86) (hq_87 : ((CPq I_81 J_82 x b_4)) = s_7) (hm_88 : 6 < (v_86 : Int32).toInt + (n_2 : Int)), WG p l e { frames := 0, cells := 0, slots := 0, locals := 0 } s m ([.ref x] : List Value).toArray below meth c 2 0 0 (MQ below (Qv_ D cy L κ ln R (fun I2 J2 => Iv L κ R ow I2 ∧ Fq L κ ow [107, 108, 109, 110, 111, 112, 16100, 16200, 16300, 16400, 16500, 16600] I I2 ∧ Fq L κ ow [] J J2 ∧ (CPf R I2 J2 x = fForgetC (CPf R I J x)))) ([.ref x] : List Value).toArray s 0 0 (Al_ L)) D cy (Al_ L) s.heap L κ ln R I_81 J_82 2 [(0, .ref x), (1, .int v_86)] [] := by
    intro n_2
    induction n_2 with
    | zero =>
      intro I_81 J_82 hU_83 hF_84 hG_85 v_86 rv_86 hq_87 hm_88
      exact ms_0 rv_86 hm_88
    | succ n_2 ih_2 =>
      intro I_81 J_82 hU_83 hF_84 hG_85 v_86 rv_86 hq_87 hm_88
      obtain ⟨s_89, hs_89⟩ : ∃ z, CPq I_81 J_82 x b_4 = z := ⟨_, rfl⟩
      simp only [hs_89] at hq_87
      have hQ_90 := hq_87.symm
      refine g_iload_n C 1 dX1_forget_2 rfl rfl ?_
      refine g_bipush C (v := 6) dX1_forget_3 (by decide) ?_
      refine g_icmp_ge C (tgt := 21) dX1_forget_5 (by decide) (fun h_91 => ?_) (fun h_91 => ?_)
      · skip
        have r_92 := le_r (h_91) rc_6 rv_86
        refine g_iconst C (v := 0) dX1_forget_21 (by decide) ?_
        refine g_istore_n C dX1_forget_22 rfl (by decide) (lo2 := [(1, .int 0), (0, .ref x)]) rfl ?_
        refine g_lo (is := [1, 0]) (lo2 := [(0, .ref x), (1, .int 0)]) rfl ?_
        exact l_23 43 I_81 J_82 hU_83 hF_84 hG_85 0 (rg_w rc_0 (by decide) (by decide)) (by (try simp only [h_91, if_true, if_false, cqM_pcs, CP_.w_pcs] at hQ_90); simp only [fForgetC, ecqx, hs_89, hs_7, hQ_90, h_91, if_true, if_false, cqM_pcs, CP_.w_pcs]) (ms_s (a := 0) (b := 42) (N := 43) (rg_w rc_0 (by decide) (by decide)) (by decide))
      · skip
        have r_93 := lt_l (hi := 5) (nle h_91) rv_86 rc_6 (by decide)
        refine g_aload_n C 0 dX1_forget_8 rfl rfl ?_
        refine g_getR C K hLx hkx f_1_9 hb_6 dX1_forget_9 ?_
        refine g_iload_n C 1 dX1_forget_12 rfl rfl ?_
        refine g_iconst C (v := 0) dX1_forget_13 (by decide) ?_
        refine h_iast C K hb_6L hb_6k (v_86.toNatClampNeg) (rfl) (ix_0 r_93 (by decide)) (ix_lt r_93 (by decide) hb_6n (by decide)) dX1_forget_14 (fun I_94 hI_94 => ?_)
        have hU_95 := iv_put W9 hU_83 hI_94 (ro_a hb_6k (by decide) hb_6o hkx rfl) (lo := (-2147483648)) (hi := 2147483647) (rfl) (rg_all _) rfl
        have hF_96 := fq_puta hF_84 hI_94 (ro_a hb_6k (by decide) hb_6o hkx rfl) (by decide) (by decide)
        have hs_97 : CPq I_94 J_82 x b_4 = s_89 := by rw [hI_94]; exact (cq_oI wcqx (ro_a hb_6k (by decide) hb_6o hkx rfl) (by decide)).trans hs_89
        obtain ⟨x_98, hx_98, rx_98, tx_98⟩ := ex_add (y := 1) 1 6 r_93 rc_1 (by decide) (by decide) (by decide) (by decide)
        refine g_iinc C dX1_forget_15 (k := 1) (v := x_98) rfl hx_98 (by decide) (lo2 := [(1, .int x_98), (0, .ref x)]) rfl ?_
        refine g_goto C (tgt := 2) dX1_forget_18 (by decide) ?_
        refine g_lo (is := [1, 0]) (lo2 := [(0, .ref x), (1, .int x_98)]) rfl ?_
        exact ih_2 I_94 J_82 hU_95 hF_96 hG_85 x_98 (rg_w rx_98 (by decide) (by decide)) (by (try simp only [h_91, (nle h_91), hx_98, if_true, if_false, cqM_pcs, CP_.w_pcs] at hQ_90); simp only [ecqx, hs_97, hs_7, hQ_90, h_91, (nle h_91), hx_98, if_true, if_false, cqM_pcs, CP_.w_pcs]) (ms_1 hm_88 (ti_k tx_98 rc_1) (by decide))
  refine g_iconst C (v := 0) dX1_forget_0 (by decide) ?_
  refine g_istore_n C dX1_forget_1 rfl (by decide) (lo2 := [(1, .int 0), (0, .ref x)]) rfl ?_
  refine g_lo (is := [1, 0]) (lo2 := [(0, .ref x), (1, .int 0)]) rfl ?_
  exact l_2 7 I J hU hF hG 0 (rg_w rc_0 (by decide) (by decide)) (by simp only [fForgetC, ecqx, hs_7, if_true, if_false, cqM_pcs, CP_.w_pcs]) (ms_s (a := 0) (b := 6) (N := 7) (rg_w rc_0 (by decide) (by decide)) (by decide))
set_option maxRecDepth 100000 in
set_option maxHeartbeats 8000000 in
theorem c_X8_forget {l : Launch} {D : va_G} {cy : Nat → ClassId} {L : List Nat} {κ ln : Nat → Nat} {R : Nat → Nat → Option Nat} {I : Nat → Nat → Int32} {J : Nat → Nat → Int64} {ow : Nat → Nat × Nat} (W9 : ∀ a ∈ L, Shp L κ ln R ow a) {x : Nat} (hLx : x ∈ L) (hkx : κ x = 8) (hU : Iv L κ R ow I) : CtV l yX8_forget cX8_forget 1 none { frames := 0, cells := 0, slots := 0, locals := 0 } D cy L κ ln R I J [.ref x] (fun I2 J2 => Iv L κ R ow I2 ∧ Fq L κ ow [805, 806, 807, 808] I I2 ∧ Fq L κ ow [] J J2 ∧ (TBf R I2 J2 x = fForgetB (TBf R I J x)) ∧ (Kt_ L κ R I I2 [x])) := by
  refine CtV.of (by decide +kernel) (Nat.le_of_ble_eq_true rfl) ?_
  intro p e s m below meth c B K
  have C := B.1
  have hF : Fq L κ ow [805, 806, 807, 808] I I := fq_rf
  have hG : Fq L κ ow [] J J := fq_rf
  obtain ⟨b_1, hb_1, hb_1L, hb_1k, hb_1n, hb_1o⟩ := shp_a (W9 x hLx) hkx 0 15 7 rfl (by decide)
  obtain ⟨b_2, hb_2, hb_2L, hb_2k, hb_2n, hb_2o⟩ := shp_a (W9 x hLx) hkx 2 14 7 rfl (by decide)
  obtain ⟨b_3, hb_3, hb_3L, hb_3k, hb_3n, hb_3o⟩ := shp_a (W9 x hLx) hkx 3 15 6 rfl (by decide)
  have ebqx : ∀ I J, TBf R I J x = TBq I J x b_1 b_2 b_3 := fun I J => by simp only [TBf, rr_, Option.getD_some, hb_1, hb_2, hb_3]
  have wbqx : bqw_ L κ ow x b_1 b_2 b_3 := ⟨⟨hLx, hb_1L, hb_2L, hb_3L⟩, ⟨(ro_o hkx (by decide)), (ro_a hb_1k (by decide) hb_1o hkx rfl), (ro_a hb_2k (by decide) hb_2o hkx rfl), (ro_a hb_3k (by decide) hb_3o hkx rfl)⟩⟩
  obtain ⟨s_4, hs_4⟩ : ∃ z, TBq I J x b_1 b_2 b_3 = z := ⟨_, rfl⟩
  refine g_lo (is := [0]) (lo2 := [(0, .ref x)]) rfl ?_
  refine g_aload_n C 0 dX8_forget_0 rfl rfl ?_
  refine g_iconst C (v := 0) dX8_forget_1 (by decide) ?_
  refine h_putI C K hLx hkx f_8_28 p_8_5 dX8_forget_2 (fun I_5 hI_5 => ?_)
  have hU_6 := iv_put W9 hU hI_5 (ro_o hkx (by decide)) (lo := 0) (hi := 7) (rfl) (rg_w rc_0 (by decide) (by decide)) rfl
  have hF_7 := fq_puto hF hI_5 hkx (by decide) (by decide)
  have hs_8 : TBq I_5 J x b_1 b_2 b_3 = (TB_.w_persons s_4 (0)) := by rw [hI_5]; exact ((bq_persons wbqx).trans (congrArg (fun z : TB_ => TB_.w_persons z (0)) hs_4)).trans rfl
  refine g_aload_n C 0 dX8_forget_5 rfl rfl ?_
  refine g_iconst C (v := 0) dX8_forget_6 (by decide) ?_
  refine h_putI C K hLx hkx f_8_32 p_8_6 dX8_forget_7 (fun I_9 hI_9 => ?_)
  have hU_10 := iv_put W9 hU_6 hI_9 (ro_o hkx (by decide)) (lo := 0) (hi := 6) (rfl) (rg_w rc_0 (by decide) (by decide)) rfl
  have hF_11 := fq_puto hF_7 hI_9 hkx (by decide) (by decide)
  have hs_12 : TBq I_9 J x b_1 b_2 b_3 = (TB_.w_dishes (TB_.w_persons s_4 (0)) (0)) := by rw [hI_9]; exact ((bq_dishes wbqx).trans (congrArg (fun z : TB_ => TB_.w_dishes z (0)) hs_8)).trans rfl
  refine g_aload_n C 0 dX8_forget_10 rfl rfl ?_
  refine g_iconst C (v := 0) dX8_forget_11 (by decide) ?_
  refine h_putI C K hLx hkx f_8_35 p_8_7 dX8_forget_12 (fun I_13 hI_13 => ?_)
  have hU_14 := iv_put W9 hU_10 hI_13 (ro_o hkx (by decide)) (lo := (-2147483648)) (hi := 2147483647) (rfl) (rg_all _) rfl
  have hF_15 := fq_puto hF_11 hI_13 hkx (by decide) (by decide)
  have hs_16 : TBq I_13 J x b_1 b_2 b_3 = (TB_.w_law (TB_.w_dishes (TB_.w_persons s_4 (0)) (0)) (0)) := by rw [hI_13]; exact ((bq_law wbqx).trans (congrArg (fun z : TB_ => TB_.w_law z (0)) hs_12)).trans rfl
  refine g_aload_n C 0 dX8_forget_15 rfl rfl ?_
  refine g_iconst C (v := 0) dX8_forget_16 (by decide) ?_
  refine h_putI C K hLx hkx f_8_38 p_8_8 dX8_forget_17 (fun I_17 hI_17 => ?_)
  have hU_18 := iv_put W9 hU_14 hI_17 (ro_o hkx (by decide)) (lo := (-2147483648)) (hi := 2147483647) (rfl) (rg_all _) rfl
  have hF_19 := fq_puto hF_15 hI_17 hkx (by decide) (by decide)
  have hs_20 : TBq I_17 J x b_1 b_2 b_3 = (TB_.w_dogs (TB_.w_law (TB_.w_dishes (TB_.w_persons s_4 (0)) (0)) (0)) (0)) := by rw [hI_17]; exact ((bq_dogs wbqx).trans (congrArg (fun z : TB_ => TB_.w_dogs z (0)) hs_16)).trans rfl
  have kt_21 : Kt_ L κ R I I_5 [x] := (kt_u (r := 0) W9 kt_rf hI_5 (Or.inr (Or.inl ⟨(by simp only [List.mem_cons, true_or, or_true]), hkx⟩)))
  have kt_22 : Kt_ L κ R I I_9 [x] := (kt_u (r := 0) W9 kt_21 hI_9 (Or.inr (Or.inl ⟨(by simp only [List.mem_cons, true_or, or_true]), hkx⟩)))
  have kt_23 : Kt_ L κ R I I_13 [x] := (kt_u (r := 0) W9 kt_22 hI_13 (Or.inr (Or.inl ⟨(by simp only [List.mem_cons, true_or, or_true]), hkx⟩)))
  have kt_24 : Kt_ L κ R I I_17 [x] := (kt_u (r := 0) W9 kt_23 hI_17 (Or.inr (Or.inl ⟨(by simp only [List.mem_cons, true_or, or_true]), hkx⟩)))
  exact g_vret B K rfl ⟨hU_18, hF_19, hG, (by simp only [fForgetB, ebqx, hs_20, hs_4, if_true, if_false, bqM_pnm, bqM_par, bqM_dnm, bqM_persons, bqM_dishes, bqM_law, bqM_dogs, TB_.w_pnm, TB_.w_par, TB_.w_dnm, TB_.w_persons, TB_.w_dishes, TB_.w_law, TB_.w_dogs]), kt_24⟩ dX8_forget_20
set_option maxRecDepth 100000 in
set_option maxHeartbeats 8000000 in
theorem c_X10_fail {l : Launch} {D : va_G} {cy : Nat → ClassId} {L : List Nat} {κ ln : Nat → Nat} {R : Nat → Nat → Option Nat} {I : Nat → Nat → Int32} {J : Nat → Nat → Int64} {ow : Nat → Nat × Nat} (W9 : ∀ a ∈ L, Shp L κ ln R ow a) {x : Nat} (hLx : x ∈ L) (hkx : κ x = 10) (a0 : Int32) (ra0 : Rg 1 4 a0) (hU : Iv L κ R ow I) : CtI l yX10_fail cX10_fail 2 (some .boolean) { frames := 0, cells := 0, slots := 0, locals := 0 } D cy L κ ln R I J [.ref x, .int a0] (fun r I2 J2 => Iv L κ R ow I2 ∧ Fq L κ ow [1011, 1012] I I2 ∧ Fq L κ ow [] J J2 ∧ Rg 0 0 r ∧ ((r, TPf R I2 J2 x) = fFail a0 (TPf R I J x))) := by
  refine CtI.of (by decide +kernel) (Nat.le_of_ble_eq_true rfl) ?_
  intro p e s m below meth c B K
  have C := B.1
  have hF : Fq L κ ow [1011, 1012] I I := fq_rf
  have hG : Fq L κ ow [] J J := fq_rf
  obtain ⟨b_1, hb_1, hb_1L, hb_1k, hb_1n, hb_1o⟩ := shp_a (W9 x hLx) hkx 0 13 940 rfl (by decide)
  obtain ⟨b_2, hb_2, hb_2L, hb_2k, hb_2n, hb_2o⟩ := shp_a (W9 x hLx) hkx 1 15 28 rfl (by decide)
  obtain ⟨b_3, hb_3, hb_3L, hb_3k, hb_3n, hb_3o⟩ := shp_a (W9 x hLx) hkx 2 14 901 rfl (by decide)
  obtain ⟨b_4, hb_4, hb_4L, hb_4k, hb_4n, hb_4o⟩ := shp_a (W9 x hLx) hkx 3 14 901 rfl (by decide)
  obtain ⟨b_5, hb_5, hb_5L, hb_5k, hb_5n, hb_5o⟩ := shp_a (W9 x hLx) hkx 4 15 901 rfl (by decide)
  have etqx : ∀ I J, TPf R I J x = TPq I J x b_1 b_2 b_3 b_4 b_5 := fun I J => by simp only [TPf, rr_, Option.getD_some, hb_1, hb_2, hb_3, hb_4, hb_5]
  have wtqx : tqw_ L κ ow x b_1 b_2 b_3 b_4 b_5 := ⟨⟨hLx, hb_1L, hb_2L, hb_3L, hb_4L, hb_5L⟩, ⟨(ro_o hkx (by decide)), (ro_a hb_1k (by decide) hb_1o hkx rfl), (ro_a hb_2k (by decide) hb_2o hkx rfl), (ro_a hb_3k (by decide) hb_3o hkx rfl), (ro_a hb_4k (by decide) hb_4o hkx rfl), (ro_a hb_5k (by decide) hb_5o hkx rfl)⟩⟩
  obtain ⟨s_6, hs_6⟩ : ∃ z, TPq I J x b_1 b_2 b_3 b_4 b_5 = z := ⟨_, rfl⟩
  refine g_lo (is := [0, 1]) (lo2 := [(0, .ref x), (1, .int a0)]) rfl ?_
  refine g_aload_n C 0 dX10_fail_0 rfl rfl ?_
  obtain ⟨x_7, hx_7, rx_7⟩ := ex_get (I := I) (a := x) (j := 11) (lo := (-2147483648)) (hi := 2147483647) hU.1 hLx (ro_o hkx (by decide)) rfl
  have f_8 : s_6.fault = x_7 := (congrArg TP_.fault hs_6).symm.trans hx_7
  refine g_getI C K hLx hkx f_10_49 (v := x_7) hx_7 dX10_fail_1 ?_
  refine g_if_ne C (tgt := 20) dX10_fail_4 (by decide) (fun h_9 => ?_) (fun h_9 => ?_)
  · skip
    have n_10 : ¬ x_7 = 0 := h_9
    refine g_iconst C (v := 0) dX10_fail_20 (by decide) ?_
    exact g_zret (ty := .boolean) (r := 0) B K rfl (rfl) ⟨hU, hF, hG, rc_0, (by simp only [fFail, etqx, hs_6, hx_7, f_8, h_9, if_true, if_false, tqM_by_, tqM_wd, tqM_tk, tqM_pl, tqM_vl, tqM_len, tqM_n, tqM_at_, tqM_token, tqM_place, tqM_value, tqM_fault, tqM_fat, TP_.w_by_, TP_.w_wd, TP_.w_tk, TP_.w_pl, TP_.w_vl, TP_.w_len, TP_.w_n, TP_.w_at_, TP_.w_token, TP_.w_place, TP_.w_value, TP_.w_fault, TP_.w_fat])⟩ dX10_fail_21
  · skip
    have r_11 := (⟨(eq_rg (h_9) rc_0).1, (eq_rg (h_9) rc_0).2⟩ : Rg 0 0 x_7)
    refine g_aload_n C 0 dX10_fail_7 rfl rfl ?_
    refine g_iload_n C 1 dX10_fail_8 rfl rfl ?_
    refine h_putI C K hLx hkx f_10_49 p_10_11 dX10_fail_9 (fun I_12 hI_12 => ?_)
    have hU_13 := iv_put W9 hU hI_12 (ro_o hkx (by decide)) (lo := (-2147483648)) (hi := 2147483647) (rfl) (rg_all _) rfl
    have hF_14 := fq_puto hF hI_12 hkx (by decide) (by decide)
    have hs_15 : TPq I_12 J x b_1 b_2 b_3 b_4 b_5 = (TP_.w_fault s_6 (a0)) := by rw [hI_12]; exact ((tq_fault wtqx).trans (congrArg (fun z : TP_ => TP_.w_fault z (a0)) hs_6)).trans rfl
    refine g_aload_n C 0 dX10_fail_12 rfl rfl ?_
    refine g_aload_n C 0 dX10_fail_13 rfl rfl ?_
    obtain ⟨x_16, hx_16, rx_16⟩ := ex_get (I := I_12) (a := x) (j := 9) (lo := (-2147483648)) (hi := 2147483647) hU_13.1 hLx (ro_o hkx (by decide)) rfl
    have f_17 : s_6.place = x_16 := (congrArg TP_.place hs_15).symm.trans hx_16
    refine g_getI C K hLx hkx f_10_42 (v := x_16) hx_16 dX10_fail_14 ?_
    refine h_putI C K hLx hkx f_10_52 p_10_12 dX10_fail_17 (fun I_18 hI_18 => ?_)
    have hU_19 := iv_put W9 hU_13 hI_18 (ro_o hkx (by decide)) (lo := (-2147483648)) (hi := 2147483647) (rfl) (rx_16) rfl
    have hF_20 := fq_puto hF_14 hI_18 hkx (by decide) (by decide)
    have hs_21 : TPq I_18 J x b_1 b_2 b_3 b_4 b_5 = (TP_.w_fat (TP_.w_fault s_6 (a0)) (x_16)) := by rw [hI_18]; exact ((tq_fat wtqx).trans (congrArg (fun z : TP_ => TP_.w_fat z (x_16)) hs_15)).trans rfl
    refine g_iconst C (v := 0) dX10_fail_20 (by decide) ?_
    exact g_zret (ty := .boolean) (r := 0) B K rfl (rfl) ⟨hU_19, hF_20, hG, rc_0, (by simp only [fFail, etqx, hs_21, hs_6, hx_7, f_8, (eq_true h_9), hx_16, f_17, if_true, if_false, tqM_by_, tqM_wd, tqM_tk, tqM_pl, tqM_vl, tqM_len, tqM_n, tqM_at_, tqM_token, tqM_place, tqM_value, tqM_fault, tqM_fat, TP_.w_by_, TP_.w_wd, TP_.w_tk, TP_.w_pl, TP_.w_vl, TP_.w_len, TP_.w_n, TP_.w_at_, TP_.w_token, TP_.w_place, TP_.w_value, TP_.w_fault, TP_.w_fat])⟩ dX10_fail_21
set_option maxRecDepth 100000 in
set_option maxHeartbeats 8000000 in
theorem c_X10_take {l : Launch} {D : va_G} {cy : Nat → ClassId} {L : List Nat} {κ ln : Nat → Nat} {R : Nat → Nat → Option Nat} {I : Nat → Nat → Int32} {J : Nat → Nat → Int64} {ow : Nat → Nat × Nat} (W9 : ∀ a ∈ L, Shp L κ ln R ow a) {x : Nat} (hLx : x ∈ L) (hkx : κ x = 10) (a0 : Int32) (ra0 : Rg 41 102 a0) (hU : Iv L κ R ow I) : CtI l yX10_take cX10_take 2 (some .boolean) { frames := 1, cells := 0, slots := 0, locals := 21 } D cy L κ ln R I J [.ref x, .int a0] (fun r I2 J2 => Iv L κ R ow I2 ∧ Fq L κ ow [1007, 1008, 1009, 1011, 1012] I I2 ∧ Fq L κ ow [1010] J J2 ∧ Rg 0 1 r ∧ ((r, TPf R I2 J2 x) = fTake a0 (TPf R I J x))) := by
  refine CtI.of (by decide +kernel) (Nat.le_of_ble_eq_true rfl) ?_
  intro p e s m below meth c B K
  have C := B.1
  have hF : Fq L κ ow [1007, 1008, 1009, 1011, 1012] I I := fq_rf
  have hG : Fq L κ ow [1010] J J := fq_rf
  obtain ⟨b_1, hb_1, hb_1L, hb_1k, hb_1n, hb_1o⟩ := shp_a (W9 x hLx) hkx 0 13 940 rfl (by decide)
  obtain ⟨b_2, hb_2, hb_2L, hb_2k, hb_2n, hb_2o⟩ := shp_a (W9 x hLx) hkx 1 15 28 rfl (by decide)
  obtain ⟨b_3, hb_3, hb_3L, hb_3k, hb_3n, hb_3o⟩ := shp_a (W9 x hLx) hkx 2 14 901 rfl (by decide)
  obtain ⟨b_4, hb_4, hb_4L, hb_4k, hb_4n, hb_4o⟩ := shp_a (W9 x hLx) hkx 3 14 901 rfl (by decide)
  obtain ⟨b_5, hb_5, hb_5L, hb_5k, hb_5n, hb_5o⟩ := shp_a (W9 x hLx) hkx 4 15 901 rfl (by decide)
  have etqx : ∀ I J, TPf R I J x = TPq I J x b_1 b_2 b_3 b_4 b_5 := fun I J => by simp only [TPf, rr_, Option.getD_some, hb_1, hb_2, hb_3, hb_4, hb_5]
  have wtqx : tqw_ L κ ow x b_1 b_2 b_3 b_4 b_5 := ⟨⟨hLx, hb_1L, hb_2L, hb_3L, hb_4L, hb_5L⟩, ⟨(ro_o hkx (by decide)), (ro_a hb_1k (by decide) hb_1o hkx rfl), (ro_a hb_2k (by decide) hb_2o hkx rfl), (ro_a hb_3k (by decide) hb_3o hkx rfl), (ro_a hb_4k (by decide) hb_4o hkx rfl), (ro_a hb_5k (by decide) hb_5o hkx rfl)⟩⟩
  obtain ⟨s_6, hs_6⟩ : ∃ z, TPq I J x b_1 b_2 b_3 b_4 b_5 = z := ⟨_, rfl⟩
  refine g_lo (is := [0, 1]) (lo2 := [(0, .ref x), (1, .int a0)]) rfl ?_
  refine g_aload_n C 0 dX10_take_0 rfl rfl ?_
  obtain ⟨x_7, hx_7, rx_7⟩ := ex_get (I := I) (a := x) (j := 8) (lo := (-2147483648)) (hi := 2147483647) hU.1 hLx (ro_o hkx (by decide)) rfl
  have f_8 : s_6.token = x_7 := (congrArg TP_.token hs_6).symm.trans hx_7
  refine g_getI C K hLx hkx f_10_39 (v := x_7) hx_7 dX10_take_1 ?_
  refine g_iload_n C 1 dX10_take_4 rfl rfl ?_
  refine g_icmp_eq C (tgt := 14) dX10_take_5 (by decide) (fun h_9 => ?_) (fun h_9 => ?_)
  · skip
    have r_10 := (⟨(eq_rg (h_9) ra0).1, (eq_rg (h_9) ra0).2⟩ : Rg 41 102 x_7)
    refine g_aload_n C 0 dX10_take_14 rfl rfl ?_
    refine g_callVV C K (c_X10_advance W9 hLx hkx   hU) hLx hkx (by decide) rfl v_10_84 rfl ⟨rfl, rfl⟩ ⟨Nat.le_of_ble_eq_true rfl, Nat.le_of_ble_eq_true rfl⟩ (Nat.le_of_ble_eq_true rfl) ⟨Nat.le_of_ble_eq_true rfl, Nat.le_of_ble_eq_true rfl⟩ dX10_take_15 rfl (st := []) (fun I_12 J_13 h_14 => ?_)
    obtain ⟨hUI_12, hFI_12, hGJ_13, fx_11⟩ := h_14
    have hF_15 := fq_tr hF hFI_12 (by decide)
    have hG_16 := fq_tr hG hGJ_13 (by decide)
    obtain ⟨s_18, hs_18⟩ : ∃ z, TPq I_12 J_13 x b_1 b_2 b_3 b_4 b_5 = z := ⟨_, rfl⟩
    have c_17 : fAdvance (s_6) = s_18 := by have q := fx_11; simp only [etqx, hs_6, hs_18] at q; exact q.symm
    refine g_iconst C (v := 1) dX10_take_18 (by decide) ?_
    exact g_zret (ty := .boolean) (r := 1) B K rfl (rfl) ⟨hUI_12, hF_15, hG_16, rg_w rc_1 (by decide) (by decide), (by simp only [fTake, etqx, hs_18, hs_6, hx_7, f_8, (eq_true h_9), c_17, if_true, if_false, tqM_by_, tqM_wd, tqM_tk, tqM_pl, tqM_vl, tqM_len, tqM_n, tqM_at_, tqM_token, tqM_place, tqM_value, tqM_fault, tqM_fat, TP_.w_by_, TP_.w_wd, TP_.w_tk, TP_.w_pl, TP_.w_vl, TP_.w_len, TP_.w_n, TP_.w_at_, TP_.w_token, TP_.w_place, TP_.w_value, TP_.w_fault, TP_.w_fat])⟩ dX10_take_19
  · skip
    refine g_aload_n C 0 dX10_take_8 rfl rfl ?_
    refine g_iconst C (v := 1) dX10_take_9 (by decide) ?_
    refine g_callVI C K (c_X10_fail W9 hLx hkx 1 (rg_w rc_1 (by decide) (by decide)) hU) hLx hkx (by decide) rfl v_10_101 rfl ⟨rfl, rfl⟩ ⟨Nat.le_of_ble_eq_true rfl, Nat.le_of_ble_eq_true rfl⟩ (Nat.le_of_ble_eq_true rfl) ⟨Nat.le_of_ble_eq_true rfl, Nat.le_of_ble_eq_true rfl⟩ dX10_take_10 rfl (st := []) (fun x_19 I_20 J_21 h_22 => ?_)
    obtain ⟨hUI_20, hFI_20, hGJ_21, rx_19, fx_19⟩ := h_22
    have hF_23 := fq_tr hF hFI_20 (by decide)
    have hG_24 := fq_tr hG hGJ_21 (by decide)
    obtain ⟨s_26, hs_26⟩ : ∃ z, TPq I_20 J_21 x b_1 b_2 b_3 b_4 b_5 = z := ⟨_, rfl⟩
    have c_25 : fFail (1) (s_6) = (x_19, s_26) := by have q := fx_19; simp only [etqx, hs_6, hs_26] at q; exact q.symm
    exact g_zret (ty := .boolean) (r := x_19) B K rfl (nar_z (rg_w rx_19 (by decide) (by decide))) ⟨hUI_20, hF_23, hG_24, rg_w rx_19 (by decide) (by decide), (by simp only [fTake, etqx, hs_26, hs_6, hx_7, f_8, h_9, c_25, if_true, if_false, tqM_by_, tqM_wd, tqM_tk, tqM_pl, tqM_vl, tqM_len, tqM_n, tqM_at_, tqM_token, tqM_place, tqM_value, tqM_fault, tqM_fat, TP_.w_by_, TP_.w_wd, TP_.w_tk, TP_.w_pl, TP_.w_vl, TP_.w_len, TP_.w_n, TP_.w_at_, TP_.w_token, TP_.w_place, TP_.w_value, TP_.w_fault, TP_.w_fat])⟩ dX10_take_13
set_option maxRecDepth 100000 in
set_option maxHeartbeats 8000000 in
theorem c_X10_takeNumber {l : Launch} {D : va_G} {cy : Nat → ClassId} {L : List Nat} {κ ln : Nat → Nat} {R : Nat → Nat → Option Nat} {I : Nat → Nat → Int32} {J : Nat → Nat → Int64} {ow : Nat → Nat × Nat} (W9 : ∀ a ∈ L, Shp L κ ln R ow a) {x : Nat} (hLx : x ∈ L) (hkx : κ x = 10) (a0 : Int32) (a1 : Int32) (ra0 : Rg 0 1 a0) (ra1 : Rg 1 999 a1) (hU : Iv L κ R ow I) : CtI l yX10_takeNumber cX10_takeNumber 4 (some .int) { frames := 1, cells := 0, slots := 0, locals := 21 } D cy L κ ln R I J [.ref x, .int a0, .int a1] (fun r I2 J2 => Iv L κ R ow I2 ∧ Fq L κ ow [1007, 1008, 1009, 1011, 1012] I I2 ∧ Fq L κ ow [1010] J J2 ∧ Rg (-2147483648) 2147483647 r ∧ ((r, TPf R I2 J2 x) = fTakeNumber a0 a1 (TPf R I J x))) := by
  refine CtI.of (by decide +kernel) (Nat.le_of_ble_eq_true rfl) ?_
  intro p e s m below meth c B K
  have C := B.1
  have hF : Fq L κ ow [1007, 1008, 1009, 1011, 1012] I I := fq_rf
  have hG : Fq L κ ow [1010] J J := fq_rf
  obtain ⟨b_1, hb_1, hb_1L, hb_1k, hb_1n, hb_1o⟩ := shp_a (W9 x hLx) hkx 0 13 940 rfl (by decide)
  obtain ⟨b_2, hb_2, hb_2L, hb_2k, hb_2n, hb_2o⟩ := shp_a (W9 x hLx) hkx 1 15 28 rfl (by decide)
  obtain ⟨b_3, hb_3, hb_3L, hb_3k, hb_3n, hb_3o⟩ := shp_a (W9 x hLx) hkx 2 14 901 rfl (by decide)
  obtain ⟨b_4, hb_4, hb_4L, hb_4k, hb_4n, hb_4o⟩ := shp_a (W9 x hLx) hkx 3 14 901 rfl (by decide)
  obtain ⟨b_5, hb_5, hb_5L, hb_5k, hb_5n, hb_5o⟩ := shp_a (W9 x hLx) hkx 4 15 901 rfl (by decide)
  have etqx : ∀ I J, TPf R I J x = TPq I J x b_1 b_2 b_3 b_4 b_5 := fun I J => by simp only [TPf, rr_, Option.getD_some, hb_1, hb_2, hb_3, hb_4, hb_5]
  have wtqx : tqw_ L κ ow x b_1 b_2 b_3 b_4 b_5 := ⟨⟨hLx, hb_1L, hb_2L, hb_3L, hb_4L, hb_5L⟩, ⟨(ro_o hkx (by decide)), (ro_a hb_1k (by decide) hb_1o hkx rfl), (ro_a hb_2k (by decide) hb_2o hkx rfl), (ro_a hb_3k (by decide) hb_3o hkx rfl), (ro_a hb_4k (by decide) hb_4o hkx rfl), (ro_a hb_5k (by decide) hb_5o hkx rfl)⟩⟩
  obtain ⟨s_6, hs_6⟩ : ∃ z, TPq I J x b_1 b_2 b_3 b_4 b_5 = z := ⟨_, rfl⟩
  refine g_lo (is := [0, 1, 2]) (lo2 := [(0, .ref x), (1, .int a0), (2, .int a1)]) rfl ?_
  refine g_aload_n C 0 dX10_takeNumber_0 rfl rfl ?_
  obtain ⟨x_7, hx_7, rx_7⟩ := ex_get (I := I) (a := x) (j := 8) (lo := (-2147483648)) (hi := 2147483647) hU.1 hLx (ro_o hkx (by decide)) rfl
  have f_8 : s_6.token = x_7 := (congrArg TP_.token hs_6).symm.trans hx_7
  refine g_getI C K hLx hkx f_10_39 (v := x_7) hx_7 dX10_takeNumber_1 ?_
  refine g_bipush C (v := 101) dX10_takeNumber_4 (by decide) ?_
  refine g_icmp_eq C (tgt := 17) dX10_takeNumber_6 (by decide) (fun h_9 => ?_) (fun h_9 => ?_)
  · skip
    have r_10 := (⟨(eq_rg (h_9) rc_101).1, (eq_rg (h_9) rc_101).2⟩ : Rg 101 101 x_7)
    refine g_aload_n C 0 dX10_takeNumber_17 rfl rfl ?_
    obtain ⟨y_11, hy_11⟩ : ∃ z, J x 10 = z := ⟨_, rfl⟩
    have f_12 : s_6.value = y_11 := (congrArg TP_.value hs_6).symm.trans hy_11
    refine g_getJ C K hLx hkx f_10_45 (v := y_11) hy_11 dX10_takeNumber_18 ?_
    refine g_iload_n C 1 dX10_takeNumber_21 rfl rfl ?_
    obtain ⟨y_13, hy_13⟩ : ∃ z, Int32.toInt64 a0 = z := ⟨_, rfl⟩
    refine g_i2l C (v := y_13) dX10_takeNumber_22 hy_13 ?_
    refine g_lcmpX C dX10_takeNumber_23 (fun x_14 rx_14 hx_14 => ?_)
    refine g_if_lt C (tgt := 37) dX10_takeNumber_24 (by decide) (fun h_15 => ?_) (fun h_15 => ?_)
    · skip
      have r_16 := lt_l (hi := (-1)) (h_15) rx_14 rc_0 (by decide)
      refine g_aload_n C 0 dX10_takeNumber_37 rfl rfl ?_
      refine g_iconst C (v := 2) dX10_takeNumber_38 (by decide) ?_
      refine g_callVI C K (c_X10_fail W9 hLx hkx 2 (rg_w rc_2 (by decide) (by decide)) hU) hLx hkx (by decide) rfl v_10_101 rfl ⟨rfl, rfl⟩ ⟨Nat.le_of_ble_eq_true rfl, Nat.le_of_ble_eq_true rfl⟩ (Nat.le_of_ble_eq_true rfl) ⟨Nat.le_of_ble_eq_true rfl, Nat.le_of_ble_eq_true rfl⟩ dX10_takeNumber_39 rfl (st := []) (fun x_17 I_18 J_19 h_20 => ?_)
      obtain ⟨hUI_18, hFI_18, hGJ_19, rx_17, fx_17⟩ := h_20
      have hF_21 := fq_tr hF hFI_18 (by decide)
      have hG_22 := fq_tr hG hGJ_19 (by decide)
      obtain ⟨s_24, hs_24⟩ : ∃ z, TPq I_18 J_19 x b_1 b_2 b_3 b_4 b_5 = z := ⟨_, rfl⟩
      have c_23 : fFail (2) (s_6) = (x_17, s_24) := by have q := fx_17; simp only [etqx, hs_6, hs_24] at q; exact q.symm
      refine g_pop C dX10_takeNumber_42 rfl ?_
      refine g_iconst C (v := (-1)) dX10_takeNumber_43 (by decide) ?_
      exact g_zret (ty := .int) (r := (-1)) B K rfl (rfl) ⟨hUI_18, hF_21, hG_22, rg_all _, (by simp only [fTakeNumber, etqx, hs_24, hs_6, hx_7, f_8, (eq_true h_9), hy_11, f_12, hy_13, hx_14, h_15, c_23, if_true, if_false, tqM_by_, tqM_wd, tqM_tk, tqM_pl, tqM_vl, tqM_len, tqM_n, tqM_at_, tqM_token, tqM_place, tqM_value, tqM_fault, tqM_fat, TP_.w_by_, TP_.w_wd, TP_.w_tk, TP_.w_pl, TP_.w_vl, TP_.w_len, TP_.w_n, TP_.w_at_, TP_.w_token, TP_.w_place, TP_.w_value, TP_.w_fault, TP_.w_fat])⟩ dX10_takeNumber_44
    · skip
      have r_25 := le_r (nlt h_15) rc_0 rx_14
      refine g_aload_n C 0 dX10_takeNumber_27 rfl rfl ?_
      refine g_getJ C K hLx hkx f_10_45 (v := y_11) hy_11 dX10_takeNumber_28 ?_
      refine g_iload_n C 2 dX10_takeNumber_31 rfl rfl ?_
      obtain ⟨y_26, hy_26⟩ : ∃ z, Int32.toInt64 a1 = z := ⟨_, rfl⟩
      refine g_i2l C (v := y_26) dX10_takeNumber_32 hy_26 ?_
      refine g_lcmpX C dX10_takeNumber_33 (fun x_27 rx_27 hx_27 => ?_)
      refine g_if_le C (tgt := 45) dX10_takeNumber_34 (by decide) (fun h_28 => ?_) (fun h_28 => ?_)
      · skip
        have r_29 := le_l (h_28) rx_27 rc_0
        refine g_aload_n C 0 dX10_takeNumber_45 rfl rfl ?_
        refine g_getJ C K hLx hkx f_10_45 (v := y_11) hy_11 dX10_takeNumber_46 ?_
        obtain ⟨x_30, hx_30, rx_30⟩ := ex_any (z0 := Int64.toInt32 y_11)
        refine g_l2i C (v := x_30) dX10_takeNumber_49 hx_30 ?_
        refine g_istore_n C dX10_takeNumber_50 rfl (by decide) (lo2 := [(3, .int x_30), (0, .ref x), (1, .int a0), (2, .int a1)]) rfl ?_
        refine g_aload_n C 1 dX10_takeNumber_51 rfl rfl ?_
        refine g_callVV C K (c_X10_advance W9 hLx hkx   hU) hLx hkx (by decide) rfl v_10_84 rfl ⟨rfl, rfl⟩ ⟨Nat.le_of_ble_eq_true rfl, Nat.le_of_ble_eq_true rfl⟩ (Nat.le_of_ble_eq_true rfl) ⟨Nat.le_of_ble_eq_true rfl, Nat.le_of_ble_eq_true rfl⟩ dX10_takeNumber_52 rfl (st := []) (fun I_32 J_33 h_34 => ?_)
        obtain ⟨hUI_32, hFI_32, hGJ_33, fx_31⟩ := h_34
        have hF_35 := fq_tr hF hFI_32 (by decide)
        have hG_36 := fq_tr hG hGJ_33 (by decide)
        obtain ⟨s_38, hs_38⟩ : ∃ z, TPq I_32 J_33 x b_1 b_2 b_3 b_4 b_5 = z := ⟨_, rfl⟩
        have c_37 : fAdvance (s_6) = s_38 := by have q := fx_31; simp only [etqx, hs_6, hs_38] at q; exact q.symm
        refine g_iload_n C 0 dX10_takeNumber_55 rfl rfl ?_
        exact g_zret (ty := .int) (r := x_30) B K rfl (rfl) ⟨hUI_32, hF_35, hG_36, rx_30, (by simp only [fTakeNumber, etqx, hs_38, hs_6, hx_7, f_8, (eq_true h_9), hy_11, f_12, hy_13, hx_14, h_15, (nlt h_15), hy_26, hx_27, h_28, hx_30, c_37, if_true, if_false, tqM_by_, tqM_wd, tqM_tk, tqM_pl, tqM_vl, tqM_len, tqM_n, tqM_at_, tqM_token, tqM_place, tqM_value, tqM_fault, tqM_fat, TP_.w_by_, TP_.w_wd, TP_.w_tk, TP_.w_pl, TP_.w_vl, TP_.w_len, TP_.w_n, TP_.w_at_, TP_.w_token, TP_.w_place, TP_.w_value, TP_.w_fault, TP_.w_fat])⟩ dX10_takeNumber_56
      · skip
        have r_39 := lt_r (lo := 1) (nle h_28) rc_0 rx_27 (by decide)
        refine g_aload_n C 0 dX10_takeNumber_37 rfl rfl ?_
        refine g_iconst C (v := 2) dX10_takeNumber_38 (by decide) ?_
        refine g_callVI C K (c_X10_fail W9 hLx hkx 2 (rg_w rc_2 (by decide) (by decide)) hU) hLx hkx (by decide) rfl v_10_101 rfl ⟨rfl, rfl⟩ ⟨Nat.le_of_ble_eq_true rfl, Nat.le_of_ble_eq_true rfl⟩ (Nat.le_of_ble_eq_true rfl) ⟨Nat.le_of_ble_eq_true rfl, Nat.le_of_ble_eq_true rfl⟩ dX10_takeNumber_39 rfl (st := []) (fun x_40 I_41 J_42 h_43 => ?_)
        obtain ⟨hUI_41, hFI_41, hGJ_42, rx_40, fx_40⟩ := h_43
        have hF_44 := fq_tr hF hFI_41 (by decide)
        have hG_45 := fq_tr hG hGJ_42 (by decide)
        obtain ⟨s_47, hs_47⟩ : ∃ z, TPq I_41 J_42 x b_1 b_2 b_3 b_4 b_5 = z := ⟨_, rfl⟩
        have c_46 : fFail (2) (s_6) = (x_40, s_47) := by have q := fx_40; simp only [etqx, hs_6, hs_47] at q; exact q.symm
        refine g_pop C dX10_takeNumber_42 rfl ?_
        refine g_iconst C (v := (-1)) dX10_takeNumber_43 (by decide) ?_
        exact g_zret (ty := .int) (r := (-1)) B K rfl (rfl) ⟨hUI_41, hF_44, hG_45, rg_all _, (by first | (simp only [fTakeNumber, etqx, hs_47, hs_6, hx_7, f_8, (eq_true h_9), hy_11, f_12, hy_13, hx_14, h_15, (nlt h_15), hy_26, hx_27, h_28, (nle h_28), c_46, if_true, if_false, tqM_by_, tqM_wd, tqM_tk, tqM_pl, tqM_vl, tqM_len, tqM_n, tqM_at_, tqM_token, tqM_place, tqM_value, tqM_fault, tqM_fat, TP_.w_by_, TP_.w_wd, TP_.w_tk, TP_.w_pl, TP_.w_vl, TP_.w_len, TP_.w_n, TP_.w_at_, TP_.w_token, TP_.w_place, TP_.w_value, TP_.w_fault, TP_.w_fat]; done) | exact absurd (nle h_28) h_15)⟩ dX10_takeNumber_44
  · skip
    have n_48 : ¬ x_7 = 101 := h_9
    refine g_aload_n C 0 dX10_takeNumber_9 rfl rfl ?_
    refine g_iconst C (v := 1) dX10_takeNumber_10 (by decide) ?_
    refine g_callVI C K (c_X10_fail W9 hLx hkx 1 (rg_w rc_1 (by decide) (by decide)) hU) hLx hkx (by decide) rfl v_10_101 rfl ⟨rfl, rfl⟩ ⟨Nat.le_of_ble_eq_true rfl, Nat.le_of_ble_eq_true rfl⟩ (Nat.le_of_ble_eq_true rfl) ⟨Nat.le_of_ble_eq_true rfl, Nat.le_of_ble_eq_true rfl⟩ dX10_takeNumber_11 rfl (st := []) (fun x_49 I_50 J_51 h_52 => ?_)
    obtain ⟨hUI_50, hFI_50, hGJ_51, rx_49, fx_49⟩ := h_52
    have hF_53 := fq_tr hF hFI_50 (by decide)
    have hG_54 := fq_tr hG hGJ_51 (by decide)
    obtain ⟨s_56, hs_56⟩ : ∃ z, TPq I_50 J_51 x b_1 b_2 b_3 b_4 b_5 = z := ⟨_, rfl⟩
    have c_55 : fFail (1) (s_6) = (x_49, s_56) := by have q := fx_49; simp only [etqx, hs_6, hs_56] at q; exact q.symm
    refine g_pop C dX10_takeNumber_14 rfl ?_
    refine g_iconst C (v := (-1)) dX10_takeNumber_15 (by decide) ?_
    exact g_zret (ty := .int) (r := (-1)) B K rfl (rfl) ⟨hUI_50, hF_53, hG_54, rg_all _, (by simp only [fTakeNumber, etqx, hs_56, hs_6, hx_7, f_8, h_9, c_55, if_true, if_false, tqM_by_, tqM_wd, tqM_tk, tqM_pl, tqM_vl, tqM_len, tqM_n, tqM_at_, tqM_token, tqM_place, tqM_value, tqM_fault, tqM_fat, TP_.w_by_, TP_.w_wd, TP_.w_tk, TP_.w_pl, TP_.w_vl, TP_.w_len, TP_.w_n, TP_.w_at_, TP_.w_token, TP_.w_place, TP_.w_value, TP_.w_fault, TP_.w_fat])⟩ dX10_takeNumber_16
set_option maxRecDepth 100000 in
set_option maxHeartbeats 8000000 in
theorem c_X8_dishNamed {l : Launch} {D : va_G} {cy : Nat → ClassId} {L : List Nat} {κ ln : Nat → Nat} {R : Nat → Nat → Option Nat} {I : Nat → Nat → Int32} {J : Nat → Nat → Int64} {ow : Nat → Nat × Nat} (W9 : ∀ a ∈ L, Shp L κ ln R ow a) {x : Nat} (hLx : x ∈ L) (hkx : κ x = 8) (a0 : Int64) (hU : Iv L κ R ow I) : CtI l yX8_dishNamed cX8_dishNamed 4 (some .int) { frames := 0, cells := 0, slots := 0, locals := 0 } D cy L κ ln R I J [.ref x, .long a0] (fun r I2 J2 => I = I2 ∧ J = J2 ∧ Rg (-1) 5 r ∧ (r = fDishNamed a0 (TBf R I J x))) := by
  refine CtI.of (by decide +kernel) (Nat.le_of_ble_eq_true rfl) ?_
  intro p e s m below meth c B K
  have C := B.1
  obtain ⟨b_1, hb_1, hb_1L, hb_1k, hb_1n, hb_1o⟩ := shp_a (W9 x hLx) hkx 3 15 6 rfl (by decide)
  obtain ⟨b_2, hb_2, hb_2L, hb_2k, hb_2n, hb_2o⟩ := shp_a (W9 x hLx) hkx 0 15 7 rfl (by decide)
  obtain ⟨b_3, hb_3, hb_3L, hb_3k, hb_3n, hb_3o⟩ := shp_a (W9 x hLx) hkx 2 14 7 rfl (by decide)
  have ebqx : ∀ I J, TBf R I J x = TBq I J x b_2 b_3 b_1 := fun I J => by simp only [TBf, rr_, Option.getD_some, hb_2, hb_3, hb_1]
  have wbqx : bqw_ L κ ow x b_2 b_3 b_1 := ⟨⟨hLx, hb_2L, hb_3L, hb_1L⟩, ⟨(ro_o hkx (by decide)), (ro_a hb_2k (by decide) hb_2o hkx rfl), (ro_a hb_3k (by decide) hb_3o hkx rfl), (ro_a hb_1k (by decide) hb_1o hkx rfl)⟩⟩
  obtain ⟨s_4, hs_4⟩ : ∃ z, TBq I J x b_2 b_3 b_1 = z := ⟨_, rfl⟩
  refine g_lo (is := [0, 1]) (lo2 := [(0, .ref x), (1, .long a0)]) rfl ?_
  have l_2 : ∀ (n_2 : Nat) (v_5 : Int32) (rv_5 : Rg 0 6 v_5) (hq_6 : fnd s_4.dnm s_4.dishes a0 v_5 = fnd s_4.dnm s_4.dishes a0 0) (hm_7 : 6 < (v_5 : Int32).toInt + (n_2 : Int)), WG p l e { frames := 0, cells := 0, slots := 0, locals := 0 } s m ([.ref x, .long a0] : List Value).toArray below meth c 4 0 0 (MQ below (Qi_ D cy L κ ln R (fun r I2 J2 => I = I2 ∧ J = J2 ∧ Rg (-1) 5 r ∧ (r = fDishNamed a0 (TBf R I J x)))) ([.ref x, .long a0] : List Value).toArray s 0 0 (Al_ L)) D cy (Al_ L) s.heap L κ ln R I J 2 [(0, .ref x), (1, .long a0), (3, .int v_5)] [] := by
    intro n_2
    induction n_2 with
    | zero =>
      intro v_5 rv_5 hq_6 hm_7
      exact ms_0 rv_5 hm_7
    | succ n_2 ih_2 =>
      intro v_5 rv_5 hq_6 hm_7
      have hQ_8 := hq_6.symm
      have u_9 := fnd_eq (nm := s_4.dnm) (cnt := s_4.dishes) (w := a0) (i := v_5) (rg_w rv_5 (by decide) (by decide))
      refine g_iload_n C 2 dX8_dishNamed_2 rfl rfl ?_
      refine g_aload_n C 0 dX8_dishNamed_3 rfl rfl ?_
      obtain ⟨x_10, hx_10, rx_10⟩ := ex_get (I := I) (a := x) (j := 6) (lo := 0) (hi := 6) hU.1 hLx (ro_o hkx (by decide)) rfl
      have f_11 : s_4.dishes = x_10 := (congrArg TB_.dishes hs_4).symm.trans hx_10
      refine g_getI C K hLx hkx f_8_32 (v := x_10) hx_10 dX8_dishNamed_4 ?_
      refine g_icmp_ge C (tgt := 29) dX8_dishNamed_7 (by decide) (fun h_12 => ?_) (fun h_12 => ?_)
      · skip
        refine g_iconst C (v := (-1)) dX8_dishNamed_29 (by decide) ?_
        exact g_zret (ty := .int) (r := (-1)) B K rfl (rfl) ⟨rfl, rfl, rg_w rc_m1 (by decide) (by decide), (by (try simp only [hx_10, f_11, h_12, if_true, if_false, bqM_pnm, bqM_par, bqM_dnm, bqM_persons, bqM_dishes, bqM_law, bqM_dogs, TB_.w_pnm, TB_.w_par, TB_.w_dnm, TB_.w_persons, TB_.w_dishes, TB_.w_law, TB_.w_dogs] at hQ_8); (try simp only [hx_10, f_11, h_12, if_true, if_false, bqM_pnm, bqM_par, bqM_dnm, bqM_persons, bqM_dishes, bqM_law, bqM_dogs, TB_.w_pnm, TB_.w_par, TB_.w_dnm, TB_.w_persons, TB_.w_dishes, TB_.w_law, TB_.w_dogs] at u_9); simp only [fDishNamed, ebqx, hs_4, hQ_8, u_9, hx_10, f_11, h_12, if_true, if_false, bqM_pnm, bqM_par, bqM_dnm, bqM_persons, bqM_dishes, bqM_law, bqM_dogs, TB_.w_pnm, TB_.w_par, TB_.w_dnm, TB_.w_persons, TB_.w_dishes, TB_.w_law, TB_.w_dogs])⟩ dX8_dishNamed_30
      · skip
        have r_13 := lt_l (hi := 5) (nle h_12) rv_5 rx_10 (by decide)
        have r_14 := lt_r (lo := 1) (nle h_12) rv_5 rx_10 (by decide)
        refine g_aload_n C 0 dX8_dishNamed_10 rfl rfl ?_
        refine g_getR C K hLx hkx f_8_22 hb_1 dX8_dishNamed_11 ?_
        refine g_iload_n C 2 dX8_dishNamed_14 rfl rfl ?_
        obtain ⟨y_15, hy_15⟩ : ∃ z, J b_1 (v_5.toNatClampNeg) = z := ⟨_, rfl⟩
        have f_16 : s_4.dnm (v_5.toNatClampNeg) = y_15 := (congrFun (congrArg TB_.dnm hs_4) _).symm.trans hy_15
        refine h_lald C K hb_1L hb_1k (v := y_15) (v_5.toNatClampNeg) (rfl) (ix_0 r_13 (by decide)) (ix_lt r_13 (by decide) hb_1n (by decide)) hy_15 dX8_dishNamed_15 ?_
        refine g_lload_n C 1 dX8_dishNamed_16 rfl rfl ?_
        refine g_lcmpX C dX8_dishNamed_17 (fun x_17 rx_17 hx_17 => ?_)
        refine g_if_ne C (tgt := 23) dX8_dishNamed_18 (by decide) (fun h_18 => ?_) (fun h_18 => ?_)
        · skip
          have n_19 : ¬ x_17 = 0 := h_18
          obtain ⟨x_20, hx_20, rx_20, tx_20⟩ := ex_add (y := 1) 1 6 r_13 rc_1 (by decide) (by decide) (by decide) (by decide)
          refine g_iinc C dX8_dishNamed_23 (k := 2) (v := x_20) rfl hx_20 (by decide) (lo2 := [(3, .int x_20), (0, .ref x), (1, .long a0)]) rfl ?_
          refine g_goto C (tgt := 2) dX8_dishNamed_26 (by decide) ?_
          refine g_lo (is := [1, 2, 0]) (lo2 := [(0, .ref x), (1, .long a0), (3, .int x_20)]) rfl ?_
          exact ih_2 x_20 (rg_w rx_20 (by decide) (by decide)) (by (try simp only [hx_10, f_11, h_12, (nle h_12), hy_15, f_16, hx_17, h_18, hx_20, if_true, if_false, bqM_pnm, bqM_par, bqM_dnm, bqM_persons, bqM_dishes, bqM_law, bqM_dogs, TB_.w_pnm, TB_.w_par, TB_.w_dnm, TB_.w_persons, TB_.w_dishes, TB_.w_law, TB_.w_dogs] at hQ_8); (try simp only [hx_10, f_11, h_12, (nle h_12), hy_15, f_16, hx_17, h_18, hx_20, if_true, if_false, bqM_pnm, bqM_par, bqM_dnm, bqM_persons, bqM_dishes, bqM_law, bqM_dogs, TB_.w_pnm, TB_.w_par, TB_.w_dnm, TB_.w_persons, TB_.w_dishes, TB_.w_law, TB_.w_dogs] at u_9); simp only [ebqx, hs_4, hQ_8, u_9, hx_10, f_11, h_12, (nle h_12), hy_15, f_16, hx_17, h_18, hx_20, if_true, if_false, bqM_pnm, bqM_par, bqM_dnm, bqM_persons, bqM_dishes, bqM_law, bqM_dogs, TB_.w_pnm, TB_.w_par, TB_.w_dnm, TB_.w_persons, TB_.w_dishes, TB_.w_law, TB_.w_dogs]) (ms_1 hm_7 (ti_k tx_20 rc_1) (by decide))
        · skip
          have r_21 := (⟨(eq_rg (h_18) rc_0).1, (eq_rg (h_18) rc_0).2⟩ : Rg 0 0 x_17)
          refine g_iload_n C 2 dX8_dishNamed_21 rfl rfl ?_
          exact g_zret (ty := .int) (r := v_5) B K rfl (rfl) ⟨rfl, rfl, rg_w r_13 (by decide) (by decide), (by (try simp only [hx_10, f_11, h_12, (nle h_12), hy_15, f_16, hx_17, (eq_true h_18), if_true, if_false, bqM_pnm, bqM_par, bqM_dnm, bqM_persons, bqM_dishes, bqM_law, bqM_dogs, TB_.w_pnm, TB_.w_par, TB_.w_dnm, TB_.w_persons, TB_.w_dishes, TB_.w_law, TB_.w_dogs] at hQ_8); (try simp only [hx_10, f_11, h_12, (nle h_12), hy_15, f_16, hx_17, (eq_true h_18), if_true, if_false, bqM_pnm, bqM_par, bqM_dnm, bqM_persons, bqM_dishes, bqM_law, bqM_dogs, TB_.w_pnm, TB_.w_par, TB_.w_dnm, TB_.w_persons, TB_.w_dishes, TB_.w_law, TB_.w_dogs] at u_9); simp only [fDishNamed, ebqx, hs_4, hQ_8, u_9, hx_10, f_11, h_12, (nle h_12), hy_15, f_16, hx_17, (eq_true h_18), if_true, if_false, bqM_pnm, bqM_par, bqM_dnm, bqM_persons, bqM_dishes, bqM_law, bqM_dogs, TB_.w_pnm, TB_.w_par, TB_.w_dnm, TB_.w_persons, TB_.w_dishes, TB_.w_law, TB_.w_dogs])⟩ dX8_dishNamed_22
  refine g_iconst C (v := 0) dX8_dishNamed_0 (by decide) ?_
  refine g_istore_n C dX8_dishNamed_1 rfl (by decide) (lo2 := [(3, .int 0), (0, .ref x), (1, .long a0)]) rfl ?_
  refine g_lo (is := [1, 2, 0]) (lo2 := [(0, .ref x), (1, .long a0), (3, .int 0)]) rfl ?_
  exact l_2 7 0 (rg_w rc_0 (by decide) (by decide)) (by simp only [fDishNamed, ebqx, hs_4, if_true, if_false, bqM_pnm, bqM_par, bqM_dnm, bqM_persons, bqM_dishes, bqM_law, bqM_dogs, TB_.w_pnm, TB_.w_par, TB_.w_dnm, TB_.w_persons, TB_.w_dishes, TB_.w_law, TB_.w_dogs]) (ms_s (a := 0) (b := 6) (N := 7) (rg_w rc_0 (by decide) (by decide)) (by decide))
set_option maxRecDepth 100000 in
set_option maxHeartbeats 8000000 in
theorem c_X8_personNamed {l : Launch} {D : va_G} {cy : Nat → ClassId} {L : List Nat} {κ ln : Nat → Nat} {R : Nat → Nat → Option Nat} {I : Nat → Nat → Int32} {J : Nat → Nat → Int64} {ow : Nat → Nat × Nat} (W9 : ∀ a ∈ L, Shp L κ ln R ow a) {x : Nat} (hLx : x ∈ L) (hkx : κ x = 8) (a0 : Int64) (hU : Iv L κ R ow I) : CtI l yX8_personNamed cX8_personNamed 4 (some .int) { frames := 0, cells := 0, slots := 0, locals := 0 } D cy L κ ln R I J [.ref x, .long a0] (fun r I2 J2 => I = I2 ∧ J = J2 ∧ Rg (-1) 6 r ∧ (r = fPersonNamed a0 (TBf R I J x))) := by
  refine CtI.of (by decide +kernel) (Nat.le_of_ble_eq_true rfl) ?_
  intro p e s m below meth c B K
  have C := B.1
  obtain ⟨b_1, hb_1, hb_1L, hb_1k, hb_1n, hb_1o⟩ := shp_a (W9 x hLx) hkx 0 15 7 rfl (by decide)
  obtain ⟨b_2, hb_2, hb_2L, hb_2k, hb_2n, hb_2o⟩ := shp_a (W9 x hLx) hkx 2 14 7 rfl (by decide)
  obtain ⟨b_3, hb_3, hb_3L, hb_3k, hb_3n, hb_3o⟩ := shp_a (W9 x hLx) hkx 3 15 6 rfl (by decide)
  have ebqx : ∀ I J, TBf R I J x = TBq I J x b_1 b_2 b_3 := fun I J => by simp only [TBf, rr_, Option.getD_some, hb_1, hb_2, hb_3]
  have wbqx : bqw_ L κ ow x b_1 b_2 b_3 := ⟨⟨hLx, hb_1L, hb_2L, hb_3L⟩, ⟨(ro_o hkx (by decide)), (ro_a hb_1k (by decide) hb_1o hkx rfl), (ro_a hb_2k (by decide) hb_2o hkx rfl), (ro_a hb_3k (by decide) hb_3o hkx rfl)⟩⟩
  obtain ⟨s_4, hs_4⟩ : ∃ z, TBq I J x b_1 b_2 b_3 = z := ⟨_, rfl⟩
  refine g_lo (is := [0, 1]) (lo2 := [(0, .ref x), (1, .long a0)]) rfl ?_
  have l_2 : ∀ (n_2 : Nat) (v_5 : Int32) (rv_5 : Rg 0 7 v_5) (hq_6 : fnd s_4.pnm s_4.persons a0 v_5 = fnd s_4.pnm s_4.persons a0 0) (hm_7 : 7 < (v_5 : Int32).toInt + (n_2 : Int)), WG p l e { frames := 0, cells := 0, slots := 0, locals := 0 } s m ([.ref x, .long a0] : List Value).toArray below meth c 4 0 0 (MQ below (Qi_ D cy L κ ln R (fun r I2 J2 => I = I2 ∧ J = J2 ∧ Rg (-1) 6 r ∧ (r = fPersonNamed a0 (TBf R I J x)))) ([.ref x, .long a0] : List Value).toArray s 0 0 (Al_ L)) D cy (Al_ L) s.heap L κ ln R I J 2 [(0, .ref x), (1, .long a0), (3, .int v_5)] [] := by
    intro n_2
    induction n_2 with
    | zero =>
      intro v_5 rv_5 hq_6 hm_7
      exact ms_0 rv_5 hm_7
    | succ n_2 ih_2 =>
      intro v_5 rv_5 hq_6 hm_7
      have hQ_8 := hq_6.symm
      have u_9 := fnd_eq (nm := s_4.pnm) (cnt := s_4.persons) (w := a0) (i := v_5) (rg_w rv_5 (by decide) (by decide))
      refine g_iload_n C 2 dX8_personNamed_2 rfl rfl ?_
      refine g_aload_n C 0 dX8_personNamed_3 rfl rfl ?_
      obtain ⟨x_10, hx_10, rx_10⟩ := ex_get (I := I) (a := x) (j := 5) (lo := 0) (hi := 7) hU.1 hLx (ro_o hkx (by decide)) rfl
      have f_11 : s_4.persons = x_10 := (congrArg TB_.persons hs_4).symm.trans hx_10
      refine g_getI C K hLx hkx f_8_28 (v := x_10) hx_10 dX8_personNamed_4 ?_
      refine g_icmp_ge C (tgt := 29) dX8_personNamed_7 (by decide) (fun h_12 => ?_) (fun h_12 => ?_)
      · skip
        refine g_iconst C (v := (-1)) dX8_personNamed_29 (by decide) ?_
        exact g_zret (ty := .int) (r := (-1)) B K rfl (rfl) ⟨rfl, rfl, rg_w rc_m1 (by decide) (by decide), (by (try simp only [hx_10, f_11, h_12, if_true, if_false, bqM_pnm, bqM_par, bqM_dnm, bqM_persons, bqM_dishes, bqM_law, bqM_dogs, TB_.w_pnm, TB_.w_par, TB_.w_dnm, TB_.w_persons, TB_.w_dishes, TB_.w_law, TB_.w_dogs] at hQ_8); (try simp only [hx_10, f_11, h_12, if_true, if_false, bqM_pnm, bqM_par, bqM_dnm, bqM_persons, bqM_dishes, bqM_law, bqM_dogs, TB_.w_pnm, TB_.w_par, TB_.w_dnm, TB_.w_persons, TB_.w_dishes, TB_.w_law, TB_.w_dogs] at u_9); simp only [fPersonNamed, ebqx, hs_4, hQ_8, u_9, hx_10, f_11, h_12, if_true, if_false, bqM_pnm, bqM_par, bqM_dnm, bqM_persons, bqM_dishes, bqM_law, bqM_dogs, TB_.w_pnm, TB_.w_par, TB_.w_dnm, TB_.w_persons, TB_.w_dishes, TB_.w_law, TB_.w_dogs])⟩ dX8_personNamed_30
      · skip
        have r_13 := lt_l (hi := 6) (nle h_12) rv_5 rx_10 (by decide)
        have r_14 := lt_r (lo := 1) (nle h_12) rv_5 rx_10 (by decide)
        refine g_aload_n C 0 dX8_personNamed_10 rfl rfl ?_
        refine g_getR C K hLx hkx f_8_9 hb_1 dX8_personNamed_11 ?_
        refine g_iload_n C 2 dX8_personNamed_14 rfl rfl ?_
        obtain ⟨y_15, hy_15⟩ : ∃ z, J b_1 (v_5.toNatClampNeg) = z := ⟨_, rfl⟩
        have f_16 : s_4.pnm (v_5.toNatClampNeg) = y_15 := (congrFun (congrArg TB_.pnm hs_4) _).symm.trans hy_15
        refine h_lald C K hb_1L hb_1k (v := y_15) (v_5.toNatClampNeg) (rfl) (ix_0 r_13 (by decide)) (ix_lt r_13 (by decide) hb_1n (by decide)) hy_15 dX8_personNamed_15 ?_
        refine g_lload_n C 1 dX8_personNamed_16 rfl rfl ?_
        refine g_lcmpX C dX8_personNamed_17 (fun x_17 rx_17 hx_17 => ?_)
        refine g_if_ne C (tgt := 23) dX8_personNamed_18 (by decide) (fun h_18 => ?_) (fun h_18 => ?_)
        · skip
          have n_19 : ¬ x_17 = 0 := h_18
          obtain ⟨x_20, hx_20, rx_20, tx_20⟩ := ex_add (y := 1) 1 7 r_13 rc_1 (by decide) (by decide) (by decide) (by decide)
          refine g_iinc C dX8_personNamed_23 (k := 2) (v := x_20) rfl hx_20 (by decide) (lo2 := [(3, .int x_20), (0, .ref x), (1, .long a0)]) rfl ?_
          refine g_goto C (tgt := 2) dX8_personNamed_26 (by decide) ?_
          refine g_lo (is := [1, 2, 0]) (lo2 := [(0, .ref x), (1, .long a0), (3, .int x_20)]) rfl ?_
          exact ih_2 x_20 (rg_w rx_20 (by decide) (by decide)) (by (try simp only [hx_10, f_11, h_12, (nle h_12), hy_15, f_16, hx_17, h_18, hx_20, if_true, if_false, bqM_pnm, bqM_par, bqM_dnm, bqM_persons, bqM_dishes, bqM_law, bqM_dogs, TB_.w_pnm, TB_.w_par, TB_.w_dnm, TB_.w_persons, TB_.w_dishes, TB_.w_law, TB_.w_dogs] at hQ_8); (try simp only [hx_10, f_11, h_12, (nle h_12), hy_15, f_16, hx_17, h_18, hx_20, if_true, if_false, bqM_pnm, bqM_par, bqM_dnm, bqM_persons, bqM_dishes, bqM_law, bqM_dogs, TB_.w_pnm, TB_.w_par, TB_.w_dnm, TB_.w_persons, TB_.w_dishes, TB_.w_law, TB_.w_dogs] at u_9); simp only [ebqx, hs_4, hQ_8, u_9, hx_10, f_11, h_12, (nle h_12), hy_15, f_16, hx_17, h_18, hx_20, if_true, if_false, bqM_pnm, bqM_par, bqM_dnm, bqM_persons, bqM_dishes, bqM_law, bqM_dogs, TB_.w_pnm, TB_.w_par, TB_.w_dnm, TB_.w_persons, TB_.w_dishes, TB_.w_law, TB_.w_dogs]) (ms_1 hm_7 (ti_k tx_20 rc_1) (by decide))
        · skip
          have r_21 := (⟨(eq_rg (h_18) rc_0).1, (eq_rg (h_18) rc_0).2⟩ : Rg 0 0 x_17)
          refine g_iload_n C 2 dX8_personNamed_21 rfl rfl ?_
          exact g_zret (ty := .int) (r := v_5) B K rfl (rfl) ⟨rfl, rfl, rg_w r_13 (by decide) (by decide), (by (try simp only [hx_10, f_11, h_12, (nle h_12), hy_15, f_16, hx_17, (eq_true h_18), if_true, if_false, bqM_pnm, bqM_par, bqM_dnm, bqM_persons, bqM_dishes, bqM_law, bqM_dogs, TB_.w_pnm, TB_.w_par, TB_.w_dnm, TB_.w_persons, TB_.w_dishes, TB_.w_law, TB_.w_dogs] at hQ_8); (try simp only [hx_10, f_11, h_12, (nle h_12), hy_15, f_16, hx_17, (eq_true h_18), if_true, if_false, bqM_pnm, bqM_par, bqM_dnm, bqM_persons, bqM_dishes, bqM_law, bqM_dogs, TB_.w_pnm, TB_.w_par, TB_.w_dnm, TB_.w_persons, TB_.w_dishes, TB_.w_law, TB_.w_dogs] at u_9); simp only [fPersonNamed, ebqx, hs_4, hQ_8, u_9, hx_10, f_11, h_12, (nle h_12), hy_15, f_16, hx_17, (eq_true h_18), if_true, if_false, bqM_pnm, bqM_par, bqM_dnm, bqM_persons, bqM_dishes, bqM_law, bqM_dogs, TB_.w_pnm, TB_.w_par, TB_.w_dnm, TB_.w_persons, TB_.w_dishes, TB_.w_law, TB_.w_dogs])⟩ dX8_personNamed_22
  refine g_iconst C (v := 0) dX8_personNamed_0 (by decide) ?_
  refine g_istore_n C dX8_personNamed_1 rfl (by decide) (lo2 := [(3, .int 0), (0, .ref x), (1, .long a0)]) rfl ?_
  refine g_lo (is := [1, 2, 0]) (lo2 := [(0, .ref x), (1, .long a0), (3, .int 0)]) rfl ?_
  exact l_2 8 0 (rg_w rc_0 (by decide) (by decide)) (by simp only [fPersonNamed, ebqx, hs_4, if_true, if_false, bqM_pnm, bqM_par, bqM_dnm, bqM_persons, bqM_dishes, bqM_law, bqM_dogs, TB_.w_pnm, TB_.w_par, TB_.w_dnm, TB_.w_persons, TB_.w_dishes, TB_.w_law, TB_.w_dogs]) (ms_s (a := 0) (b := 7) (N := 8) (rg_w rc_0 (by decide) (by decide)) (by decide))
set_option maxRecDepth 100000 in
set_option maxHeartbeats 8000000 in
theorem c_X9_newName {l : Launch} {D : va_G} {cy : Nat → ClassId} {L : List Nat} {κ ln : Nat → Nat} {R : Nat → Nat → Option Nat} {I : Nat → Nat → Int32} {J : Nat → Nat → Int64} {ow : Nat → Nat × Nat} (W9 : ∀ a ∈ L, Shp L κ ln R ow a) {x : Nat} (hLx : x ∈ L) (hkx : κ x = 9) {a0 : Nat} (hLa0 : a0 ∈ L) (hka0 : κ a0 = 10) (hU : Iv L κ R ow I) : CtI l yX9_newName cX9_newName 2 (some .boolean) { frames := 1, cells := 0, slots := 0, locals := 23 } D cy L κ ln R I J [.ref x, .ref a0] (fun r I2 J2 => Iv L κ R ow I2 ∧ Fq L κ ow [1007, 1008, 1009, 1011, 1012] I I2 ∧ Fq L κ ow [1010] J J2 ∧ Rg 0 1 r ∧ ((r, TPf R I2 J2 a0, TBf R I2 J2 (rr_ R x 0), CPf R I2 J2 (rr_ R x 1), XPf R I2 J2 x) = fNewName (TPf R I J a0) (TBf R I J (rr_ R x 0)) (CPf R I J (rr_ R x 1)) (XPf R I J x)) ∧ (Kt_ L κ R I I2 [rr_ R x 0])) := by
  refine CtI.of (by decide +kernel) (Nat.le_of_ble_eq_true rfl) ?_
  intro p e s m below meth c B K
  have C := B.1
  have hF : Fq L κ ow [1007, 1008, 1009, 1011, 1012] I I := fq_rf
  have hG : Fq L κ ow [1010] J J := fq_rf
  obtain ⟨b_1, hb_1, hb_1L, hb_1k⟩ := shp_o (W9 x hLx) hkx 0 8 rfl (by decide)
  obtain ⟨b_2, hb_2, hb_2L, hb_2k, hb_2n, hb_2o⟩ := shp_a (W9 a0 hLa0) hka0 0 13 940 rfl (by decide)
  obtain ⟨b_3, hb_3, hb_3L, hb_3k, hb_3n, hb_3o⟩ := shp_a (W9 a0 hLa0) hka0 1 15 28 rfl (by decide)
  obtain ⟨b_4, hb_4, hb_4L, hb_4k, hb_4n, hb_4o⟩ := shp_a (W9 a0 hLa0) hka0 2 14 901 rfl (by decide)
  obtain ⟨b_5, hb_5, hb_5L, hb_5k, hb_5n, hb_5o⟩ := shp_a (W9 a0 hLa0) hka0 3 14 901 rfl (by decide)
  obtain ⟨b_6, hb_6, hb_6L, hb_6k, hb_6n, hb_6o⟩ := shp_a (W9 a0 hLa0) hka0 4 15 901 rfl (by decide)
  have etqa0 : ∀ I J, TPf R I J a0 = TPq I J a0 b_2 b_3 b_4 b_5 b_6 := fun I J => by simp only [TPf, rr_, Option.getD_some, hb_2, hb_3, hb_4, hb_5, hb_6]
  have wtqa0 : tqw_ L κ ow a0 b_2 b_3 b_4 b_5 b_6 := ⟨⟨hLa0, hb_2L, hb_3L, hb_4L, hb_5L, hb_6L⟩, ⟨(ro_o hka0 (by decide)), (ro_a hb_2k (by decide) hb_2o hka0 rfl), (ro_a hb_3k (by decide) hb_3o hka0 rfl), (ro_a hb_4k (by decide) hb_4o hka0 rfl), (ro_a hb_5k (by decide) hb_5o hka0 rfl), (ro_a hb_6k (by decide) hb_6o hka0 rfl)⟩⟩
  obtain ⟨s_7, hs_7⟩ : ∃ z, TPq I J a0 b_2 b_3 b_4 b_5 b_6 = z := ⟨_, rfl⟩
  obtain ⟨b_8, hb_8, hb_8L, hb_8k, hb_8n, hb_8o⟩ := shp_a (W9 b_1 hb_1L) hb_1k 0 15 7 rfl (by decide)
  obtain ⟨b_9, hb_9, hb_9L, hb_9k, hb_9n, hb_9o⟩ := shp_a (W9 b_1 hb_1L) hb_1k 2 14 7 rfl (by decide)
  obtain ⟨b_10, hb_10, hb_10L, hb_10k, hb_10n, hb_10o⟩ := shp_a (W9 b_1 hb_1L) hb_1k 3 15 6 rfl (by decide)
  have ebqx_0 : ∀ I J, TBf R I J (rr_ R x 0) = TBq I J b_1 b_8 b_9 b_10 := fun I J => by simp only [TBf, rr_, Option.getD_some, hb_8, hb_9, hb_10, hb_1]
  have dbqx_0 : ∀ I J, TBf R I J b_1 = TBq I J b_1 b_8 b_9 b_10 := fun I J => by simp only [TBf, rr_, Option.getD_some, hb_8, hb_9, hb_10, hb_1]
  have wbqx_0 : bqw_ L κ ow b_1 b_8 b_9 b_10 := ⟨⟨hb_1L, hb_8L, hb_9L, hb_10L⟩, ⟨(ro_o hb_1k (by decide)), (ro_a hb_8k (by decide) hb_8o hb_1k rfl), (ro_a hb_9k (by decide) hb_9o hb_1k rfl), (ro_a hb_10k (by decide) hb_10o hb_1k rfl)⟩⟩
  obtain ⟨s_11, hs_11⟩ : ∃ z, TBq I J b_1 b_8 b_9 b_10 = z := ⟨_, rfl⟩
  obtain ⟨b_12, hb_12, hb_12L, hb_12k⟩ := shp_o (W9 x hLx) hkx 1 1 rfl (by decide)
  obtain ⟨b_13, hb_13, hb_13L, hb_13k, hb_13n, hb_13o⟩ := shp_a (W9 b_12 hb_12L) hb_12k 2 14 42 rfl (by decide)
  have ecqx_1 : ∀ I J, CPf R I J (rr_ R x 1) = CPq I J b_12 b_13 := fun I J => by simp only [CPf, rr_, Option.getD_some, hb_13, hb_12]
  have dcqx_1 : ∀ I J, CPf R I J b_12 = CPq I J b_12 b_13 := fun I J => by simp only [CPf, rr_, Option.getD_some, hb_13, hb_12]
  have wcqx_1 : cqw_ L κ ow b_12 b_13 := ⟨⟨hb_12L, hb_13L⟩, ⟨(ro_o hb_12k (by decide)), (ro_a hb_13k (by decide) hb_13o hb_12k rfl)⟩⟩
  obtain ⟨s_14, hs_14⟩ : ∃ z, CPq I J b_12 b_13 = z := ⟨_, rfl⟩
  have exqx : ∀ I J, XPf R I J x = XPq I J x := fun I J => by simp only [XPf, rr_, Option.getD_some]
  have wxqx : xqw_ L κ ow x := ⟨hLx, (ro_o hkx (by decide))⟩
  obtain ⟨s_15, hs_15⟩ : ∃ z, XPq I J x = z := ⟨_, rfl⟩
  refine g_lo (is := [0, 1]) (lo2 := [(0, .ref x), (1, .ref a0)]) rfl ?_
  refine g_aload_n C 1 dX9_newName_0 rfl rfl ?_
  obtain ⟨x_16, hx_16, rx_16⟩ := ex_get (I := I) (a := a0) (j := 8) (lo := (-2147483648)) (hi := 2147483647) hU.1 hLa0 (ro_o hka0 (by decide)) rfl
  have f_17 : s_7.token = x_16 := (congrArg TP_.token hs_7).symm.trans hx_16
  refine g_getI C K hLa0 hka0 f_9_44 (v := x_16) hx_16 dX9_newName_1 ?_
  refine g_bipush C (v := 100) dX9_newName_4 (by decide) ?_
  refine g_icmp_eq C (tgt := 15) dX9_newName_6 (by decide) (fun h_18 => ?_) (fun h_18 => ?_)
  · skip
    have r_19 := (⟨(eq_rg (h_18) rc_100).1, (eq_rg (h_18) rc_100).2⟩ : Rg 100 100 x_16)
    refine g_aload_n C 0 dX9_newName_15 rfl rfl ?_
    refine g_getR C K hLx hkx f_9_12 hb_1 dX9_newName_16 ?_
    refine g_aload_n C 1 dX9_newName_19 rfl rfl ?_
    obtain ⟨y_20, hy_20⟩ : ∃ z, J a0 10 = z := ⟨_, rfl⟩
    have f_21 : s_7.value = y_20 := (congrArg TP_.value hs_7).symm.trans hy_20
    refine g_getJ C K hLa0 hka0 f_9_71 (v := y_20) hy_20 dX9_newName_20 ?_
    refine g_callVI C K (c_X8_personNamed W9 hb_1L hb_1k y_20  hU) hb_1L hb_1k (by decide) rfl v_9_75 rfl ⟨rfl, rfl⟩ ⟨Nat.le_of_ble_eq_true rfl, Nat.le_of_ble_eq_true rfl⟩ (Nat.le_of_ble_eq_true rfl) ⟨Nat.le_of_ble_eq_true rfl, Nat.le_of_ble_eq_true rfl⟩ dX9_newName_23 rfl (st := []) (fun x_22 I_23 J_24 h_25 => ?_)
    obtain ⟨rfl, rfl, rx_22, fx_22⟩ := h_25
    have c_26 : fPersonNamed (y_20) (s_11) = x_22 := by have q := fx_22; simp only [ebqx_0, dbqx_0, hs_11] at q; exact q.symm
    refine g_iconst C (v := (-1)) dX9_newName_26 (by decide) ?_
    refine g_icmp_ne C (tgt := 45) dX9_newName_27 (by decide) (fun h_27 => ?_) (fun h_27 => ?_)
    · skip
      have n_28 : ¬ x_22 = (-1) := h_27
      have r_29 := ne_lo (lo := 0) n_28 rx_22 rc_m1 rfl (by decide)
      refine g_aload_n C 1 dX9_newName_45 rfl rfl ?_
      refine g_iconst C (v := 3) dX9_newName_46 (by decide) ?_
      refine g_callVI C K (c_X10_fail W9 hLa0 hka0 3 (rg_w rc_3 (by decide) (by decide)) hU) hLa0 hka0 (by decide) rfl v_9_67 rfl ⟨rfl, rfl⟩ ⟨Nat.le_of_ble_eq_true rfl, Nat.le_of_ble_eq_true rfl⟩ (Nat.le_of_ble_eq_true rfl) ⟨Nat.le_of_ble_eq_true rfl, Nat.le_of_ble_eq_true rfl⟩ dX9_newName_47 rfl (st := []) (fun x_30 I_31 J_32 h_33 => ?_)
      obtain ⟨hUI_31, hFI_31, hGJ_32, rx_30, fx_30⟩ := h_33
      have hF_34 := fq_tr hF hFI_31 (by decide)
      have hG_35 := fq_tr hG hGJ_32 (by decide)
      obtain ⟨s_37, hs_37⟩ : ∃ z, TPq I_31 J_32 a0 b_2 b_3 b_4 b_5 b_6 = z := ⟨_, rfl⟩
      have c_36 : fFail (3) (s_7) = (x_30, s_37) := by have q := fx_30; simp only [etqa0, hs_7, hs_37] at q; exact q.symm
      have hs_38 : TBq I_31 J_32 b_1 b_8 b_9 b_10 = s_11 := (bq_fq wbqx_0 hFI_31 hGJ_32 (by decide) (by decide)).trans hs_11
      have hs_39 : CPq I_31 J_32 b_12 b_13 = s_14 := (cq_fq wcqx_1 hFI_31 hGJ_32 (by decide) (by decide)).trans hs_14
      have hs_40 : XPq I_31 J_32 x = s_15 := (xq_fq wxqx hFI_31 hGJ_32 (by decide) (by decide)).trans hs_15
      have kt_41 : Kt_ L κ R I I_31 [rr_ R x 0] := (kt_fq W9 kt_rf hFI_31 (by decide))
      exact g_zret (ty := .boolean) (r := x_30) B K rfl (nar_z (rg_w rx_30 (by decide) (by decide))) ⟨hUI_31, hF_34, hG_35, rg_w rx_30 (by decide) (by decide), (by simp only [fNewName, fFailR, fTakeR, fPutPerson, fPutDish, fReadPlate3, etqa0, hs_37, hs_7, ebqx_0, dbqx_0, hs_38, hs_11, ecqx_1, dcqx_1, hs_39, hs_14, exqx, hs_40, hs_15, hx_16, f_17, (eq_true h_18), hy_20, f_21, c_26, h_27, c_36, if_true, if_false, bqM_pnm, bqM_par, bqM_dnm, bqM_persons, bqM_dishes, bqM_law, bqM_dogs, TB_.w_pnm, TB_.w_par, TB_.w_dnm, TB_.w_persons, TB_.w_dishes, TB_.w_law, TB_.w_dogs, cqM_pcs, CP_.w_pcs, tqM_by_, tqM_wd, tqM_tk, tqM_pl, tqM_vl, tqM_len, tqM_n, tqM_at_, tqM_token, tqM_place, tqM_value, tqM_fault, tqM_fat, TP_.w_by_, TP_.w_wd, TP_.w_tk, TP_.w_pl, TP_.w_vl, TP_.w_len, TP_.w_n, TP_.w_at_, TP_.w_token, TP_.w_place, TP_.w_value, TP_.w_fault, TP_.w_fat, xqM_lt, xqM_dt, XP_.w_lt, XP_.w_dt]), kt_41⟩ dX9_newName_50
    · skip
      have r_42 := (⟨(rx_22).1, (eq_rg (h_27) rc_m1).2⟩ : Rg (-1) (-1) x_22)
      refine g_aload_n C 0 dX9_newName_30 rfl rfl ?_
      refine g_getR C K hLx hkx f_9_12 hb_1 dX9_newName_31 ?_
      refine g_aload_n C 1 dX9_newName_34 rfl rfl ?_
      refine g_getJ C K hLa0 hka0 f_9_71 (v := y_20) hy_20 dX9_newName_35 ?_
      refine g_callVI C K (c_X8_dishNamed W9 hb_1L hb_1k y_20  hU) hb_1L hb_1k (by decide) rfl v_9_79 rfl ⟨rfl, rfl⟩ ⟨Nat.le_of_ble_eq_true rfl, Nat.le_of_ble_eq_true rfl⟩ (Nat.le_of_ble_eq_true rfl) ⟨Nat.le_of_ble_eq_true rfl, Nat.le_of_ble_eq_true rfl⟩ dX9_newName_38 rfl (st := []) (fun x_43 I_44 J_45 h_46 => ?_)
      obtain ⟨rfl, rfl, rx_43, fx_43⟩ := h_46
      have c_47 : fDishNamed (y_20) (s_11) = x_43 := by have q := fx_43; simp only [ebqx_0, dbqx_0, hs_11] at q; exact q.symm
      refine g_iconst C (v := (-1)) dX9_newName_41 (by decide) ?_
      refine g_icmp_eq C (tgt := 51) dX9_newName_42 (by decide) (fun h_48 => ?_) (fun h_48 => ?_)
      · skip
        have r_49 := (⟨(rx_43).1, (eq_rg (h_48) rc_m1).2⟩ : Rg (-1) (-1) x_43)
        refine g_aload_n C 1 dX9_newName_51 rfl rfl ?_
        refine g_callVV C K (c_X10_advance W9 hLa0 hka0   hU) hLa0 hka0 (by decide) rfl v_9_82 rfl ⟨rfl, rfl⟩ ⟨Nat.le_of_ble_eq_true rfl, Nat.le_of_ble_eq_true rfl⟩ (Nat.le_of_ble_eq_true rfl) ⟨Nat.le_of_ble_eq_true rfl, Nat.le_of_ble_eq_true rfl⟩ dX9_newName_52 rfl (st := []) (fun I_51 J_52 h_53 => ?_)
        obtain ⟨hUI_51, hFI_51, hGJ_52, fx_50⟩ := h_53
        have hF_54 := fq_tr hF hFI_51 (by decide)
        have hG_55 := fq_tr hG hGJ_52 (by decide)
        obtain ⟨s_57, hs_57⟩ : ∃ z, TPq I_51 J_52 a0 b_2 b_3 b_4 b_5 b_6 = z := ⟨_, rfl⟩
        have c_56 : fAdvance (s_7) = s_57 := by have q := fx_50; simp only [etqa0, hs_7, hs_57] at q; exact q.symm
        have hs_58 : TBq I_51 J_52 b_1 b_8 b_9 b_10 = s_11 := (bq_fq wbqx_0 hFI_51 hGJ_52 (by decide) (by decide)).trans hs_11
        have hs_59 : CPq I_51 J_52 b_12 b_13 = s_14 := (cq_fq wcqx_1 hFI_51 hGJ_52 (by decide) (by decide)).trans hs_14
        have hs_60 : XPq I_51 J_52 x = s_15 := (xq_fq wxqx hFI_51 hGJ_52 (by decide) (by decide)).trans hs_15
        have kt_61 : Kt_ L κ R I I_51 [rr_ R x 0] := (kt_fq W9 kt_rf hFI_51 (by decide))
        refine g_iconst C (v := 1) dX9_newName_55 (by decide) ?_
        exact g_zret (ty := .boolean) (r := 1) B K rfl (rfl) ⟨hUI_51, hF_54, hG_55, rg_w rc_1 (by decide) (by decide), (by simp only [fNewName, fFailR, fTakeR, fPutPerson, fPutDish, fReadPlate3, etqa0, hs_57, hs_7, ebqx_0, dbqx_0, hs_58, hs_11, ecqx_1, dcqx_1, hs_59, hs_14, exqx, hs_60, hs_15, hx_16, f_17, (eq_true h_18), hy_20, f_21, c_26, (eq_true h_27), c_47, (eq_true h_48), c_56, if_true, if_false, bqM_pnm, bqM_par, bqM_dnm, bqM_persons, bqM_dishes, bqM_law, bqM_dogs, TB_.w_pnm, TB_.w_par, TB_.w_dnm, TB_.w_persons, TB_.w_dishes, TB_.w_law, TB_.w_dogs, cqM_pcs, CP_.w_pcs, tqM_by_, tqM_wd, tqM_tk, tqM_pl, tqM_vl, tqM_len, tqM_n, tqM_at_, tqM_token, tqM_place, tqM_value, tqM_fault, tqM_fat, TP_.w_by_, TP_.w_wd, TP_.w_tk, TP_.w_pl, TP_.w_vl, TP_.w_len, TP_.w_n, TP_.w_at_, TP_.w_token, TP_.w_place, TP_.w_value, TP_.w_fault, TP_.w_fat, xqM_lt, xqM_dt, XP_.w_lt, XP_.w_dt]), kt_61⟩ dX9_newName_56
      · skip
        have n_62 : ¬ x_43 = (-1) := h_48
        have r_63 := ne_lo (lo := 0) n_62 rx_43 rc_m1 rfl (by decide)
        refine g_aload_n C 1 dX9_newName_45 rfl rfl ?_
        refine g_iconst C (v := 3) dX9_newName_46 (by decide) ?_
        refine g_callVI C K (c_X10_fail W9 hLa0 hka0 3 (rg_w rc_3 (by decide) (by decide)) hU) hLa0 hka0 (by decide) rfl v_9_67 rfl ⟨rfl, rfl⟩ ⟨Nat.le_of_ble_eq_true rfl, Nat.le_of_ble_eq_true rfl⟩ (Nat.le_of_ble_eq_true rfl) ⟨Nat.le_of_ble_eq_true rfl, Nat.le_of_ble_eq_true rfl⟩ dX9_newName_47 rfl (st := []) (fun x_64 I_65 J_66 h_67 => ?_)
        obtain ⟨hUI_65, hFI_65, hGJ_66, rx_64, fx_64⟩ := h_67
        have hF_68 := fq_tr hF hFI_65 (by decide)
        have hG_69 := fq_tr hG hGJ_66 (by decide)
        obtain ⟨s_71, hs_71⟩ : ∃ z, TPq I_65 J_66 a0 b_2 b_3 b_4 b_5 b_6 = z := ⟨_, rfl⟩
        have c_70 : fFail (3) (s_7) = (x_64, s_71) := by have q := fx_64; simp only [etqa0, hs_7, hs_71] at q; exact q.symm
        have hs_72 : TBq I_65 J_66 b_1 b_8 b_9 b_10 = s_11 := (bq_fq wbqx_0 hFI_65 hGJ_66 (by decide) (by decide)).trans hs_11
        have hs_73 : CPq I_65 J_66 b_12 b_13 = s_14 := (cq_fq wcqx_1 hFI_65 hGJ_66 (by decide) (by decide)).trans hs_14
        have hs_74 : XPq I_65 J_66 x = s_15 := (xq_fq wxqx hFI_65 hGJ_66 (by decide) (by decide)).trans hs_15
        have kt_75 : Kt_ L κ R I I_65 [rr_ R x 0] := (kt_fq W9 kt_rf hFI_65 (by decide))
        exact g_zret (ty := .boolean) (r := x_64) B K rfl (nar_z (rg_w rx_64 (by decide) (by decide))) ⟨hUI_65, hF_68, hG_69, rg_w rx_64 (by decide) (by decide), (by simp only [fNewName, fFailR, fTakeR, fPutPerson, fPutDish, fReadPlate3, etqa0, hs_71, hs_7, ebqx_0, dbqx_0, hs_72, hs_11, ecqx_1, dcqx_1, hs_73, hs_14, exqx, hs_74, hs_15, hx_16, f_17, (eq_true h_18), hy_20, f_21, c_26, (eq_true h_27), c_47, h_48, c_70, if_true, if_false, bqM_pnm, bqM_par, bqM_dnm, bqM_persons, bqM_dishes, bqM_law, bqM_dogs, TB_.w_pnm, TB_.w_par, TB_.w_dnm, TB_.w_persons, TB_.w_dishes, TB_.w_law, TB_.w_dogs, cqM_pcs, CP_.w_pcs, tqM_by_, tqM_wd, tqM_tk, tqM_pl, tqM_vl, tqM_len, tqM_n, tqM_at_, tqM_token, tqM_place, tqM_value, tqM_fault, tqM_fat, TP_.w_by_, TP_.w_wd, TP_.w_tk, TP_.w_pl, TP_.w_vl, TP_.w_len, TP_.w_n, TP_.w_at_, TP_.w_token, TP_.w_place, TP_.w_value, TP_.w_fault, TP_.w_fat, xqM_lt, xqM_dt, XP_.w_lt, XP_.w_dt]), kt_75⟩ dX9_newName_50
  · skip
    have n_76 : ¬ x_16 = 100 := h_18
    refine g_aload_n C 1 dX9_newName_9 rfl rfl ?_
    refine g_iconst C (v := 1) dX9_newName_10 (by decide) ?_
    refine g_callVI C K (c_X10_fail W9 hLa0 hka0 1 (rg_w rc_1 (by decide) (by decide)) hU) hLa0 hka0 (by decide) rfl v_9_67 rfl ⟨rfl, rfl⟩ ⟨Nat.le_of_ble_eq_true rfl, Nat.le_of_ble_eq_true rfl⟩ (Nat.le_of_ble_eq_true rfl) ⟨Nat.le_of_ble_eq_true rfl, Nat.le_of_ble_eq_true rfl⟩ dX9_newName_11 rfl (st := []) (fun x_77 I_78 J_79 h_80 => ?_)
    obtain ⟨hUI_78, hFI_78, hGJ_79, rx_77, fx_77⟩ := h_80
    have hF_81 := fq_tr hF hFI_78 (by decide)
    have hG_82 := fq_tr hG hGJ_79 (by decide)
    obtain ⟨s_84, hs_84⟩ : ∃ z, TPq I_78 J_79 a0 b_2 b_3 b_4 b_5 b_6 = z := ⟨_, rfl⟩
    have c_83 : fFail (1) (s_7) = (x_77, s_84) := by have q := fx_77; simp only [etqa0, hs_7, hs_84] at q; exact q.symm
    have hs_85 : TBq I_78 J_79 b_1 b_8 b_9 b_10 = s_11 := (bq_fq wbqx_0 hFI_78 hGJ_79 (by decide) (by decide)).trans hs_11
    have hs_86 : CPq I_78 J_79 b_12 b_13 = s_14 := (cq_fq wcqx_1 hFI_78 hGJ_79 (by decide) (by decide)).trans hs_14
    have hs_87 : XPq I_78 J_79 x = s_15 := (xq_fq wxqx hFI_78 hGJ_79 (by decide) (by decide)).trans hs_15
    have kt_88 : Kt_ L κ R I I_78 [rr_ R x 0] := (kt_fq W9 kt_rf hFI_78 (by decide))
    exact g_zret (ty := .boolean) (r := x_77) B K rfl (nar_z (rg_w rx_77 (by decide) (by decide))) ⟨hUI_78, hF_81, hG_82, rg_w rx_77 (by decide) (by decide), (by simp only [fNewName, fFailR, fTakeR, fPutPerson, fPutDish, fReadPlate3, etqa0, hs_84, hs_7, ebqx_0, dbqx_0, hs_85, hs_11, ecqx_1, dcqx_1, hs_86, hs_14, exqx, hs_87, hs_15, hx_16, f_17, h_18, c_83, if_true, if_false, bqM_pnm, bqM_par, bqM_dnm, bqM_persons, bqM_dishes, bqM_law, bqM_dogs, TB_.w_pnm, TB_.w_par, TB_.w_dnm, TB_.w_persons, TB_.w_dishes, TB_.w_law, TB_.w_dogs, cqM_pcs, CP_.w_pcs, tqM_by_, tqM_wd, tqM_tk, tqM_pl, tqM_vl, tqM_len, tqM_n, tqM_at_, tqM_token, tqM_place, tqM_value, tqM_fault, tqM_fat, TP_.w_by_, TP_.w_wd, TP_.w_tk, TP_.w_pl, TP_.w_vl, TP_.w_len, TP_.w_n, TP_.w_at_, TP_.w_token, TP_.w_place, TP_.w_value, TP_.w_fault, TP_.w_fat, xqM_lt, xqM_dt, XP_.w_lt, XP_.w_dt]), kt_88⟩ dX9_newName_14
set_option maxRecDepth 100000 in
set_option maxHeartbeats 8000000 in
theorem c_X9_readDish {l : Launch} {D : va_G} {cy : Nat → ClassId} {L : List Nat} {κ ln : Nat → Nat} {R : Nat → Nat → Option Nat} {I : Nat → Nat → Int32} {J : Nat → Nat → Int64} {ow : Nat → Nat × Nat} (W9 : ∀ a ∈ L, Shp L κ ln R ow a) {x : Nat} (hLx : x ∈ L) (hkx : κ x = 9) {a0 : Nat} (hLa0 : a0 ∈ L) (hka0 : κ a0 = 10) (hU : Iv L κ R ow I) : CtI l yX9_readDish cX9_readDish 6 (some .boolean) { frames := 2, cells := 0, slots := 0, locals := 44 } D cy L κ ln R I J [.ref x, .ref a0] (fun r I2 J2 => Iv L κ R ow I2 ∧ Fq L κ ow [806, 1007, 1008, 1009, 1011, 1012, 16100, 58400] I I2 ∧ Fq L κ ow [1010, 58300] J J2 ∧ Rg 0 1 r ∧ ((r, TPf R I2 J2 a0, TBf R I2 J2 (rr_ R x 0), CPf R I2 J2 (rr_ R x 1), XPf R I2 J2 x) = fReadDish (TPf R I J a0) (TBf R I J (rr_ R x 0)) (CPf R I J (rr_ R x 1)) (XPf R I J x)) ∧ (Kt_ L κ R I I2 [rr_ R x 0]) ∧ (Kn_ L κ R J J2 [rr_ R x 0])) := by
  refine CtI.of (by decide +kernel) (Nat.le_of_ble_eq_true rfl) ?_
  intro p e s m below meth c B K
  have C := B.1
  have hF : Fq L κ ow [806, 1007, 1008, 1009, 1011, 1012, 16100, 58400] I I := fq_rf
  have hG : Fq L κ ow [1010, 58300] J J := fq_rf
  obtain ⟨b_1, hb_1, hb_1L, hb_1k⟩ := shp_o (W9 x hLx) hkx 1 1 rfl (by decide)
  obtain ⟨b_2, hb_2, hb_2L, hb_2k⟩ := shp_o (W9 x hLx) hkx 0 8 rfl (by decide)
  obtain ⟨b_3, hb_3, hb_3L, hb_3k, hb_3n, hb_3o⟩ := shp_a (W9 b_2 hb_2L) hb_2k 3 15 6 rfl (by decide)
  obtain ⟨b_4, hb_4, hb_4L, hb_4k, hb_4n, hb_4o⟩ := shp_a (W9 b_2 hb_2L) hb_2k 4 14 6 rfl (by decide)
  obtain ⟨b_5, hb_5, hb_5L, hb_5k, hb_5n, hb_5o⟩ := shp_a (W9 b_1 hb_1L) hb_1k 1 14 6 rfl (by decide)
  obtain ⟨b_6, hb_6, hb_6L, hb_6k, hb_6n, hb_6o⟩ := shp_a (W9 a0 hLa0) hka0 0 13 940 rfl (by decide)
  obtain ⟨b_7, hb_7, hb_7L, hb_7k, hb_7n, hb_7o⟩ := shp_a (W9 a0 hLa0) hka0 1 15 28 rfl (by decide)
  obtain ⟨b_8, hb_8, hb_8L, hb_8k, hb_8n, hb_8o⟩ := shp_a (W9 a0 hLa0) hka0 2 14 901 rfl (by decide)
  obtain ⟨b_9, hb_9, hb_9L, hb_9k, hb_9n, hb_9o⟩ := shp_a (W9 a0 hLa0) hka0 3 14 901 rfl (by decide)
  obtain ⟨b_10, hb_10, hb_10L, hb_10k, hb_10n, hb_10o⟩ := shp_a (W9 a0 hLa0) hka0 4 15 901 rfl (by decide)
  have etqa0 : ∀ I J, TPf R I J a0 = TPq I J a0 b_6 b_7 b_8 b_9 b_10 := fun I J => by simp only [TPf, rr_, Option.getD_some, hb_6, hb_7, hb_8, hb_9, hb_10]
  have wtqa0 : tqw_ L κ ow a0 b_6 b_7 b_8 b_9 b_10 := ⟨⟨hLa0, hb_6L, hb_7L, hb_8L, hb_9L, hb_10L⟩, ⟨(ro_o hka0 (by decide)), (ro_a hb_6k (by decide) hb_6o hka0 rfl), (ro_a hb_7k (by decide) hb_7o hka0 rfl), (ro_a hb_8k (by decide) hb_8o hka0 rfl), (ro_a hb_9k (by decide) hb_9o hka0 rfl), (ro_a hb_10k (by decide) hb_10o hka0 rfl)⟩⟩
  obtain ⟨s_11, hs_11⟩ : ∃ z, TPq I J a0 b_6 b_7 b_8 b_9 b_10 = z := ⟨_, rfl⟩
  obtain ⟨b_12, hb_12, hb_12L, hb_12k, hb_12n, hb_12o⟩ := shp_a (W9 b_2 hb_2L) hb_2k 0 15 7 rfl (by decide)
  obtain ⟨b_13, hb_13, hb_13L, hb_13k, hb_13n, hb_13o⟩ := shp_a (W9 b_2 hb_2L) hb_2k 2 14 7 rfl (by decide)
  have ebqx_0 : ∀ I J, TBf R I J (rr_ R x 0) = TBq I J b_2 b_12 b_13 b_3 := fun I J => by simp only [TBf, rr_, Option.getD_some, hb_12, hb_13, hb_3, hb_2]
  have dbqx_0 : ∀ I J, TBf R I J b_2 = TBq I J b_2 b_12 b_13 b_3 := fun I J => by simp only [TBf, rr_, Option.getD_some, hb_12, hb_13, hb_3, hb_2]
  have wbqx_0 : bqw_ L κ ow b_2 b_12 b_13 b_3 := ⟨⟨hb_2L, hb_12L, hb_13L, hb_3L⟩, ⟨(ro_o hb_2k (by decide)), (ro_a hb_12k (by decide) hb_12o hb_2k rfl), (ro_a hb_13k (by decide) hb_13o hb_2k rfl), (ro_a hb_3k (by decide) hb_3o hb_2k rfl)⟩⟩
  obtain ⟨s_14, hs_14⟩ : ∃ z, TBq I J b_2 b_12 b_13 b_3 = z := ⟨_, rfl⟩
  obtain ⟨b_15, hb_15, hb_15L, hb_15k, hb_15n, hb_15o⟩ := shp_a (W9 b_1 hb_1L) hb_1k 2 14 42 rfl (by decide)
  have ecqx_1 : ∀ I J, CPf R I J (rr_ R x 1) = CPq I J b_1 b_15 := fun I J => by simp only [CPf, rr_, Option.getD_some, hb_15, hb_1]
  have dcqx_1 : ∀ I J, CPf R I J b_1 = CPq I J b_1 b_15 := fun I J => by simp only [CPf, rr_, Option.getD_some, hb_15, hb_1]
  have wcqx_1 : cqw_ L κ ow b_1 b_15 := ⟨⟨hb_1L, hb_15L⟩, ⟨(ro_o hb_1k (by decide)), (ro_a hb_15k (by decide) hb_15o hb_1k rfl)⟩⟩
  obtain ⟨s_16, hs_16⟩ : ∃ z, CPq I J b_1 b_15 = z := ⟨_, rfl⟩
  have exqx : ∀ I J, XPf R I J x = XPq I J x := fun I J => by simp only [XPf, rr_, Option.getD_some]
  have wxqx : xqw_ L κ ow x := ⟨hLx, (ro_o hkx (by decide))⟩
  obtain ⟨s_17, hs_17⟩ : ∃ z, XPq I J x = z := ⟨_, rfl⟩
  refine g_lo (is := [0, 1]) (lo2 := [(0, .ref x), (1, .ref a0)]) rfl ?_
  refine g_aload_n C 0 dX9_readDish_0 rfl rfl ?_
  refine g_getR C K hLx hkx f_9_12 hb_2 dX9_readDish_1 ?_
  obtain ⟨x_18, hx_18, rx_18⟩ := ex_get (I := I) (a := b_2) (j := 6) (lo := 0) (hi := 6) hU.1 hb_2L (ro_o hb_2k (by decide)) rfl
  have f_19 : s_14.dishes = x_18 := (congrArg TB_.dishes hs_14).symm.trans hx_18
  refine g_getI C K hb_2L hb_2k f_9_113 (v := x_18) hx_18 dX9_readDish_4 ?_
  refine g_bipush C (v := 6) dX9_readDish_7 (by decide) ?_
  refine g_icmp_lt C (tgt := 18) dX9_readDish_9 (by decide) (fun h_20 => ?_) (fun h_20 => ?_)
  · skip
    have r_21 := lt_l (hi := 5) (h_20) rx_18 rc_6 (by decide)
    refine g_aload_n C 1 dX9_readDish_18 rfl rfl ?_
    refine g_callVV C K (c_X10_advance W9 hLa0 hka0   hU) hLa0 hka0 (by decide) rfl v_9_82 rfl ⟨rfl, rfl⟩ ⟨Nat.le_of_ble_eq_true rfl, Nat.le_of_ble_eq_true rfl⟩ (Nat.le_of_ble_eq_true rfl) ⟨Nat.le_of_ble_eq_true rfl, Nat.le_of_ble_eq_true rfl⟩ dX9_readDish_19 rfl (st := []) (fun I_23 J_24 h_25 => ?_)
    obtain ⟨hUI_23, hFI_23, hGJ_24, fx_22⟩ := h_25
    have hF_26 := fq_tr hF hFI_23 (by decide)
    have hG_27 := fq_tr hG hGJ_24 (by decide)
    obtain ⟨s_29, hs_29⟩ : ∃ z, TPq I_23 J_24 a0 b_6 b_7 b_8 b_9 b_10 = z := ⟨_, rfl⟩
    have c_28 : fAdvance (s_11) = s_29 := by have q := fx_22; simp only [etqa0, hs_11, hs_29] at q; exact q.symm
    have hs_30 : TBq I_23 J_24 b_2 b_12 b_13 b_3 = s_14 := (bq_fq wbqx_0 hFI_23 hGJ_24 (by decide) (by decide)).trans hs_14
    have hs_31 : CPq I_23 J_24 b_1 b_15 = s_16 := (cq_fq wcqx_1 hFI_23 hGJ_24 (by decide) (by decide)).trans hs_16
    have hs_32 : XPq I_23 J_24 x = s_17 := (xq_fq wxqx hFI_23 hGJ_24 (by decide) (by decide)).trans hs_17
    have kt_33 : Kt_ L κ R I I_23 [rr_ R x 0] := (kt_fq W9 kt_rf hFI_23 (by decide))
    have kn_34 : Kn_ L κ R J J_24 [rr_ R x 0] := (kn_fq W9 kn_rf hGJ_24 (by decide))
    refine g_aload_n C 1 dX9_readDish_22 rfl rfl ?_
    obtain ⟨y_35, hy_35⟩ : ∃ z, J_24 a0 10 = z := ⟨_, rfl⟩
    have f_36 : s_29.value = y_35 := (congrArg TP_.value hs_29).symm.trans hy_35
    refine g_getJ C K hLa0 hka0 f_9_71 (v := y_35) hy_35 dX9_readDish_23 ?_
    refine g_lstore_n C dX9_readDish_26 rfl (by decide) (lo2 := [(2, .long y_35), (0, .ref x), (1, .ref a0)]) rfl ?_
    refine g_aload_n C 1 dX9_readDish_27 rfl rfl ?_
    refine g_aload_n C 2 dX9_readDish_28 rfl rfl ?_
    refine g_callVI C K (c_X9_newName W9 hLx hkx hLa0 hka0  hUI_23) hLx hkx (by decide) rfl v_9_88 rfl ⟨rfl, rfl⟩ ⟨Nat.le_of_ble_eq_true rfl, Nat.le_of_ble_eq_true rfl⟩ (Nat.le_of_ble_eq_true rfl) ⟨Nat.le_of_ble_eq_true rfl, Nat.le_of_ble_eq_true rfl⟩ dX9_readDish_29 rfl (st := []) (fun x_37 I_38 J_39 h_40 => ?_)
    obtain ⟨hUI_38, hFI_38, hGJ_39, rx_37, fx_37, ex_37⟩ := h_40
    have hF_41 := fq_tr hF_26 hFI_38 (by decide)
    have hG_42 := fq_tr hG_27 hGJ_39 (by decide)
    obtain ⟨s_44, hs_44⟩ : ∃ z, TPq I_38 J_39 a0 b_6 b_7 b_8 b_9 b_10 = z := ⟨_, rfl⟩
    obtain ⟨s_45, hs_45⟩ : ∃ z, TBq I_38 J_39 b_2 b_12 b_13 b_3 = z := ⟨_, rfl⟩
    obtain ⟨s_46, hs_46⟩ : ∃ z, CPq I_38 J_39 b_1 b_15 = z := ⟨_, rfl⟩
    obtain ⟨s_47, hs_47⟩ : ∃ z, XPq I_38 J_39 x = z := ⟨_, rfl⟩
    have c_43 : fNewName (s_29) (s_14) (s_16) (s_17) = (x_37, s_44, s_45, s_46, s_47) := by have q := fx_37; simp only [etqa0, ebqx_0, dbqx_0, ecqx_1, dcqx_1, exqx, hs_29, hs_30, hs_31, hs_32, hs_44, hs_45, hs_46, hs_47] at q; exact q.symm
    have kt_48 : Kt_ L κ R I I_38 [rr_ R x 0] := (kt_t kt_33 ex_37 (by simp only [rr_s hb_2]; simp only [List.mem_cons, List.not_mem_nil, or_false, forall_eq, true_or, or_true]))
    have kn_49 : Kn_ L κ R J J_39 [rr_ R x 0] := (kn_fq W9 kn_34 hGJ_39 (by decide))
    refine g_if_ne C (tgt := 37) dX9_readDish_32 (by decide) (fun h_50 => ?_) (fun h_50 => ?_)
    · skip
      have n_51 : ¬ x_37 = 0 := h_50
      have r_52 := ne_lo (lo := 1) n_51 rx_37 rc_0 rfl (by decide)
      refine g_aload_n C 2 dX9_readDish_37 rfl rfl ?_
      refine g_iconst C (v := 0) dX9_readDish_38 (by decide) ?_
      refine g_bipush C (v := 99) dX9_readDish_39 (by decide) ?_
      refine g_callVI C K (c_X10_takeNumber W9 hLa0 hka0 0 99 (rg_w rc_0 (by decide) (by decide)) (rg_w rc_99 (by decide) (by decide)) hUI_38) hLa0 hka0 (by decide) rfl v_9_91 rfl ⟨rfl, rfl⟩ ⟨Nat.le_of_ble_eq_true rfl, Nat.le_of_ble_eq_true rfl⟩ (Nat.le_of_ble_eq_true rfl) ⟨Nat.le_of_ble_eq_true rfl, Nat.le_of_ble_eq_true rfl⟩ dX9_readDish_41 rfl (st := []) (fun x_53 I_54 J_55 h_56 => ?_)
      obtain ⟨hUI_54, hFI_54, hGJ_55, rx_53, fx_53⟩ := h_56
      have hF_57 := fq_tr hF_41 hFI_54 (by decide)
      have hG_58 := fq_tr hG_42 hGJ_55 (by decide)
      obtain ⟨s_60, hs_60⟩ : ∃ z, TPq I_54 J_55 a0 b_6 b_7 b_8 b_9 b_10 = z := ⟨_, rfl⟩
      have c_59 : fTakeNumber (0) (99) (s_44) = (x_53, s_60) := by have q := fx_53; simp only [etqa0, hs_44, hs_60] at q; exact q.symm
      have hs_61 : TBq I_54 J_55 b_2 b_12 b_13 b_3 = s_45 := (bq_fq wbqx_0 hFI_54 hGJ_55 (by decide) (by decide)).trans hs_45
      have hs_62 : CPq I_54 J_55 b_1 b_15 = s_46 := (cq_fq wcqx_1 hFI_54 hGJ_55 (by decide) (by decide)).trans hs_46
      have hs_63 : XPq I_54 J_55 x = s_47 := (xq_fq wxqx hFI_54 hGJ_55 (by decide) (by decide)).trans hs_47
      have kt_64 : Kt_ L κ R I I_54 [rr_ R x 0] := (kt_fq W9 kt_48 hFI_54 (by decide))
      have kn_65 : Kn_ L κ R J J_55 [rr_ R x 0] := (kn_fq W9 kn_49 hGJ_55 (by decide))
      refine g_istore C dX9_readDish_44 (by decide) (lo2 := [(4, .int x_53), (2, .long y_35), (0, .ref x), (1, .ref a0)]) rfl ?_
      refine g_iload C 0 dX9_readDish_46 rfl ?_
      refine g_iconst C (v := (-1)) dX9_readDish_48 (by decide) ?_
      refine g_icmp_ne C (tgt := 54) dX9_readDish_49 (by decide) (fun h_66 => ?_) (fun h_66 => ?_)
      · skip
        have n_67 : ¬ x_53 = (-1) := h_66
        refine g_iconst C (v := 0) dX9_readDish_54 (by decide) ?_
        refine g_istore C dX9_readDish_55 (by decide) (lo2 := [(5, .int 0), (4, .int x_53), (2, .long y_35), (0, .ref x), (1, .ref a0)]) rfl ?_
        refine g_aload_n C 4 dX9_readDish_57 rfl rfl ?_
        obtain ⟨x_68, hx_68, rx_68⟩ := ex_get (I := I_54) (a := a0) (j := 8) (lo := (-2147483648)) (hi := 2147483647) hUI_54.1 hLa0 (ro_o hka0 (by decide)) rfl
        have f_69 : s_60.token = x_68 := (congrArg TP_.token hs_60).symm.trans hx_68
        refine g_getI C K hLa0 hka0 f_9_44 (v := x_68) hx_68 dX9_readDish_58 ?_
        refine g_bipush C (v := 6) dX9_readDish_61 (by decide) ?_
        refine g_icmp_ne C (tgt := 87) dX9_readDish_63 (by decide) (fun h_70 => ?_) (fun h_70 => ?_)
        · skip
          have n_71 : ¬ x_68 = 6 := h_70
          refine g_aload_n C 3 dX9_readDish_87 rfl rfl ?_
          refine g_getR C K hLx hkx f_9_12 hb_2 dX9_readDish_88 ?_
          refine g_getR C K hb_2L hb_2k f_9_116 hb_3 dX9_readDish_91 ?_
          refine g_aload_n C 3 dX9_readDish_94 rfl rfl ?_
          refine g_getR C K hLx hkx f_9_12 hb_2 dX9_readDish_95 ?_
          have f_72 : s_45.dishes = x_18 := (congrArg TB_.dishes hs_61).symm.trans (fq_at hFI_54 hb_2L hb_2k (by decide) (by decide) (fq_at hFI_38 hb_2L hb_2k (by decide) (by decide) (fq_at hFI_23 hb_2L hb_2k (by decide) (by decide) hx_18)))
          refine g_getI C K hb_2L hb_2k f_9_113 (v := x_18) (fq_at hFI_54 hb_2L hb_2k (by decide) (by decide) (fq_at hFI_38 hb_2L hb_2k (by decide) (by decide) (fq_at hFI_23 hb_2L hb_2k (by decide) (by decide) hx_18))) dX9_readDish_98 ?_
          refine g_lload_n C 2 dX9_readDish_101 rfl rfl ?_
          refine h_last C K hb_3L hb_3k (x_18.toNatClampNeg) (rfl) (ix_0 r_21 (by decide)) (ix_lt r_21 (by decide) hb_3n (by decide)) dX9_readDish_102 (fun J_73 hJ_73 => ?_)
          have hG_74 := fq_puta hG_58 hJ_73 (ro_a hb_3k (by decide) hb_3o hb_2k rfl) (by decide) (by decide)
          have hs_75 : TPq I_54 J_73 a0 b_6 b_7 b_8 b_9 b_10 = s_60 := by rw [hJ_73]; exact (tq_oJ wtqa0 (ro_a hb_3k (by decide) hb_3o hb_2k rfl) (by decide)).trans hs_60
          have hs_76 : TBq I_54 J_73 b_2 b_12 b_13 b_3 = (TB_.w_dnm s_45 (up1 (s_45.dnm) (x_18.toNatClampNeg) (y_35))) := by rw [hJ_73]; exact ((bq_dnm wbqx_0).trans (congrArg (fun z : TB_ => TB_.w_dnm z (up1 (z.dnm) (x_18.toNatClampNeg) (y_35))) hs_61)).trans rfl
          have hs_77 : CPq I_54 J_73 b_1 b_15 = s_46 := by rw [hJ_73]; exact (cq_oJ wcqx_1 (ro_a hb_3k (by decide) hb_3o hb_2k rfl) (by decide)).trans hs_62
          have hs_78 : XPq I_54 J_73 x = s_47 := by rw [hJ_73]; exact (xq_oJ wxqx (ro_a hb_3k (by decide) hb_3o hb_2k rfl) (by decide)).trans hs_63
          have kn_79 : Kn_ L κ R J J_73 [rr_ R x 0] := (kn_u (r := 0) W9 kn_65 hJ_73 (Or.inr ⟨_, (by rw [rr_s hb_2]; simp only [List.mem_cons, true_or, or_true]), congrArg Prod.fst hb_3o⟩))
          refine g_aload_n C 3 dX9_readDish_103 rfl rfl ?_
          refine g_getR C K hLx hkx f_9_12 hb_2 dX9_readDish_104 ?_
          refine g_getR C K hb_2L hb_2k f_9_119 hb_4 dX9_readDish_107 ?_
          refine g_aload_n C 3 dX9_readDish_110 rfl rfl ?_
          refine g_getR C K hLx hkx f_9_12 hb_2 dX9_readDish_111 ?_
          refine g_getI C K hb_2L hb_2k f_9_113 (v := x_18) (fq_at hFI_54 hb_2L hb_2k (by decide) (by decide) (fq_at hFI_38 hb_2L hb_2k (by decide) (by decide) (fq_at hFI_23 hb_2L hb_2k (by decide) (by decide) hx_18))) dX9_readDish_114 ?_
          refine g_iload C 0 dX9_readDish_117 rfl ?_
          refine h_iast C K hb_4L hb_4k (x_18.toNatClampNeg) (rfl) (ix_0 r_21 (by decide)) (ix_lt r_21 (by decide) hb_4n (by decide)) dX9_readDish_119 (fun I_80 hI_80 => ?_)
          have hU_81 := iv_put W9 hUI_54 hI_80 (ro_a hb_4k (by decide) hb_4o hb_2k rfl) (lo := (-2147483648)) (hi := 2147483647) (rfl) (rg_all _) rfl
          have hF_82 := fq_puta hF_57 hI_80 (ro_a hb_4k (by decide) hb_4o hb_2k rfl) (by decide) (by decide)
          have hs_83 : TPq I_80 J_73 a0 b_6 b_7 b_8 b_9 b_10 = s_60 := by rw [hI_80]; exact (tq_oI wtqa0 (ro_a hb_4k (by decide) hb_4o hb_2k rfl) (by decide)).trans hs_75
          have hs_84 : TBq I_80 J_73 b_2 b_12 b_13 b_3 = (TB_.w_dnm s_45 (up1 (s_45.dnm) (x_18.toNatClampNeg) (y_35))) := by rw [hI_80]; exact (bq_oI wbqx_0 (ro_a hb_4k (by decide) hb_4o hb_2k rfl) (by decide)).trans hs_76
          have hs_85 : CPq I_80 J_73 b_1 b_15 = s_46 := by rw [hI_80]; exact (cq_oI wcqx_1 (ro_a hb_4k (by decide) hb_4o hb_2k rfl) (by decide)).trans hs_77
          have hs_86 : XPq I_80 J_73 x = s_47 := by rw [hI_80]; exact (xq_oI wxqx (ro_a hb_4k (by decide) hb_4o hb_2k rfl) (by decide)).trans hs_78
          refine g_aload_n C 3 dX9_readDish_120 rfl rfl ?_
          refine g_getR C K hLx hkx f_9_23 hb_1 dX9_readDish_121 ?_
          refine g_getR C K hb_1L hb_1k f_9_122 hb_5 dX9_readDish_124 ?_
          refine g_aload_n C 3 dX9_readDish_127 rfl rfl ?_
          refine g_getR C K hLx hkx f_9_12 hb_2 dX9_readDish_128 ?_
          have q_87 := (kp_k (κ := κ) hI_80 (by rw [hb_2k, hb_4k]; decide) (fq_at hFI_54 hb_2L hb_2k (by decide) (by decide) (fq_at hFI_38 hb_2L hb_2k (by decide) (by decide) (fq_at hFI_23 hb_2L hb_2k (by decide) (by decide) hx_18))))
          refine g_getI C K hb_2L hb_2k f_9_113 (v := x_18) q_87 dX9_readDish_131 ?_
          refine g_iload C 1 dX9_readDish_134 rfl ?_
          refine h_iast C K hb_5L hb_5k (x_18.toNatClampNeg) (rfl) (ix_0 r_21 (by decide)) (ix_lt r_21 (by decide) hb_5n (by decide)) dX9_readDish_136 (fun I_88 hI_88 => ?_)
          have hU_89 := iv_put W9 hU_81 hI_88 (ro_a hb_5k (by decide) hb_5o hb_1k rfl) (lo := (-2147483648)) (hi := 2147483647) (rfl) (rx_53) rfl
          have hF_90 := fq_puta hF_82 hI_88 (ro_a hb_5k (by decide) hb_5o hb_1k rfl) (by decide) (by decide)
          have hs_91 : TPq I_88 J_73 a0 b_6 b_7 b_8 b_9 b_10 = s_60 := by rw [hI_88]; exact (tq_oI wtqa0 (ro_a hb_5k (by decide) hb_5o hb_1k rfl) (by decide)).trans hs_83
          have hs_92 : TBq I_88 J_73 b_2 b_12 b_13 b_3 = (TB_.w_dnm s_45 (up1 (s_45.dnm) (x_18.toNatClampNeg) (y_35))) := by rw [hI_88]; exact (bq_oI wbqx_0 (ro_a hb_5k (by decide) hb_5o hb_1k rfl) (by decide)).trans hs_84
          have hs_93 : CPq I_88 J_73 b_1 b_15 = s_46 := by rw [hI_88]; exact (cq_oI wcqx_1 (ro_a hb_5k (by decide) hb_5o hb_1k rfl) (by decide)).trans hs_85
          have hs_94 : XPq I_88 J_73 x = s_47 := by rw [hI_88]; exact (xq_oI wxqx (ro_a hb_5k (by decide) hb_5o hb_1k rfl) (by decide)).trans hs_86
          refine g_aload_n C 3 dX9_readDish_137 rfl rfl ?_
          refine g_getR C K hLx hkx f_9_12 hb_2 dX9_readDish_138 ?_
          refine g_dup C dX9_readDish_141 rfl ?_
          refine g_getI C K hb_2L hb_2k f_9_113 (v := x_18) (kp_k (κ := κ) hI_88 (by rw [hb_2k, hb_5k]; decide) q_87) dX9_readDish_142 ?_
          refine g_iconst C (v := 1) dX9_readDish_145 (by decide) ?_
          obtain ⟨x_95, hx_95, rx_95, tx_95⟩ := ex_add 1 6 r_21 rc_1 (by decide) (by decide) (by decide) (by decide)
          refine g_iadd C (v := x_95) dX9_readDish_146 hx_95 ?_
          refine h_putI C K hb_2L hb_2k f_9_113 p_8_6 dX9_readDish_147 (fun I_96 hI_96 => ?_)
          have hU_97 := iv_put W9 hU_89 hI_96 (ro_o hb_2k (by decide)) (lo := 0) (hi := 6) (rfl) (rg_w rx_95 (by decide) (by decide)) rfl
          have hF_98 := fq_puto hF_90 hI_96 hb_2k (by decide) (by decide)
          have hs_99 : TPq I_96 J_73 a0 b_6 b_7 b_8 b_9 b_10 = s_60 := by rw [hI_96]; exact (tq_oI wtqa0 (ro_o hb_2k (by decide)) (by decide)).trans hs_91
          have hs_100 : TBq I_96 J_73 b_2 b_12 b_13 b_3 = (TB_.w_dishes (TB_.w_dnm s_45 (up1 (s_45.dnm) (x_18.toNatClampNeg) (y_35))) (x_95)) := by rw [hI_96]; exact ((bq_dishes wbqx_0).trans (congrArg (fun z : TB_ => TB_.w_dishes z (x_95)) hs_92)).trans rfl
          have hs_101 : CPq I_96 J_73 b_1 b_15 = s_46 := by rw [hI_96]; exact (cq_oI wcqx_1 (ro_o hb_2k (by decide)) (by decide)).trans hs_93
          have hs_102 : XPq I_96 J_73 x = s_47 := by rw [hI_96]; exact (xq_oI wxqx (ro_o hb_2k (by decide)) (by decide)).trans hs_94
          refine g_aload_n C 4 dX9_readDish_150 rfl rfl ?_
          refine g_bipush C (v := 59) dX9_readDish_151 (by decide) ?_
          refine g_callVI C K (c_X10_take W9 hLa0 hka0 59 (rg_w rc_59 (by decide) (by decide)) hU_97) hLa0 hka0 (by decide) rfl v_9_110 rfl ⟨rfl, rfl⟩ ⟨Nat.le_of_ble_eq_true rfl, Nat.le_of_ble_eq_true rfl⟩ (Nat.le_of_ble_eq_true rfl) ⟨Nat.le_of_ble_eq_true rfl, Nat.le_of_ble_eq_true rfl⟩ dX9_readDish_153 rfl (st := []) (fun x_103 I_104 J_105 h_106 => ?_)
          obtain ⟨hUI_104, hFI_104, hGJ_105, rx_103, fx_103⟩ := h_106
          have hF_107 := fq_tr hF_98 hFI_104 (by decide)
          have hG_108 := fq_tr hG_74 hGJ_105 (by decide)
          obtain ⟨s_110, hs_110⟩ : ∃ z, TPq I_104 J_105 a0 b_6 b_7 b_8 b_9 b_10 = z := ⟨_, rfl⟩
          have c_109 : fTake (59) (s_60) = (x_103, s_110) := by have q := fx_103; simp only [etqa0, hs_99, hs_110] at q; exact q.symm
          have hs_111 : TBq I_104 J_105 b_2 b_12 b_13 b_3 = (TB_.w_dishes (TB_.w_dnm s_45 (up1 (s_45.dnm) (x_18.toNatClampNeg) (y_35))) (x_95)) := (bq_fq wbqx_0 hFI_104 hGJ_105 (by decide) (by decide)).trans hs_100
          have hs_112 : CPq I_104 J_105 b_1 b_15 = s_46 := (cq_fq wcqx_1 hFI_104 hGJ_105 (by decide) (by decide)).trans hs_101
          have hs_113 : XPq I_104 J_105 x = s_47 := (xq_fq wxqx hFI_104 hGJ_105 (by decide) (by decide)).trans hs_102
          have kt_114 : Kt_ L κ R I I_80 [rr_ R x 0] := (kt_u W9 kt_64 hI_80 (Or.inr (Or.inr (Or.inl ⟨(ro_a hb_4k (by decide) hb_4o hb_2k rfl), by decide, by decide⟩))))
          have kt_115 : Kt_ L κ R I I_88 [rr_ R x 0] := (kt_u W9 kt_114 hI_88 (Or.inr (Or.inr (Or.inl ⟨(ro_a hb_5k (by decide) hb_5o hb_1k rfl), by decide, by decide⟩))))
          have kt_116 : Kt_ L κ R I I_96 [rr_ R x 0] := (kt_u (r := 0) W9 kt_115 hI_96 (Or.inr (Or.inl ⟨(by rw [rr_s hb_2]; simp only [List.mem_cons, true_or, or_true]), hb_2k⟩)))
          have kt_117 : Kt_ L κ R I I_104 [rr_ R x 0] := (kt_fq W9 kt_116 hFI_104 (by decide))
          have kn_118 : Kn_ L κ R J J_105 [rr_ R x 0] := (kn_fq W9 kn_79 hGJ_105 (by decide))
          exact g_zret (ty := .boolean) (r := x_103) B K rfl (nar_z (rx_103)) ⟨hUI_104, hF_107, hG_108, rx_103, (by simp only [fReadDish, fFailR, fTakeR, fPutPerson, fPutDish, fReadPlate3, etqa0, hs_110, hs_11, ebqx_0, dbqx_0, hs_111, hs_14, ecqx_1, dcqx_1, hs_112, hs_16, exqx, hs_113, hs_17, hx_18, f_19, h_20, c_28, hy_35, f_36, c_43, h_50, c_59, h_66, hx_68, f_69, h_70, f_72, hx_95, c_109, if_true, if_false, bqM_pnm, bqM_par, bqM_dnm, bqM_persons, bqM_dishes, bqM_law, bqM_dogs, TB_.w_pnm, TB_.w_par, TB_.w_dnm, TB_.w_persons, TB_.w_dishes, TB_.w_law, TB_.w_dogs, cqM_pcs, CP_.w_pcs, tqM_by_, tqM_wd, tqM_tk, tqM_pl, tqM_vl, tqM_len, tqM_n, tqM_at_, tqM_token, tqM_place, tqM_value, tqM_fault, tqM_fat, TP_.w_by_, TP_.w_wd, TP_.w_tk, TP_.w_pl, TP_.w_vl, TP_.w_len, TP_.w_n, TP_.w_at_, TP_.w_token, TP_.w_place, TP_.w_value, TP_.w_fault, TP_.w_fat, xqM_lt, xqM_dt, XP_.w_lt, XP_.w_dt]), kt_117, kn_118⟩ dX9_readDish_156
        · skip
          have r_119 := (⟨(eq_rg (h_70) rc_6).1, (eq_rg (h_70) rc_6).2⟩ : Rg 6 6 x_68)
          refine g_aload_n C 4 dX9_readDish_66 rfl rfl ?_
          refine g_callVV C K (c_X10_advance W9 hLa0 hka0   hUI_54) hLa0 hka0 (by decide) rfl v_9_82 rfl ⟨rfl, rfl⟩ ⟨Nat.le_of_ble_eq_true rfl, Nat.le_of_ble_eq_true rfl⟩ (Nat.le_of_ble_eq_true rfl) ⟨Nat.le_of_ble_eq_true rfl, Nat.le_of_ble_eq_true rfl⟩ dX9_readDish_67 rfl (st := []) (fun I_121 J_122 h_123 => ?_)
          obtain ⟨hUI_121, hFI_121, hGJ_122, fx_120⟩ := h_123
          have hF_124 := fq_tr hF_57 hFI_121 (by decide)
          have hG_125 := fq_tr hG_58 hGJ_122 (by decide)
          obtain ⟨s_127, hs_127⟩ : ∃ z, TPq I_121 J_122 a0 b_6 b_7 b_8 b_9 b_10 = z := ⟨_, rfl⟩
          have c_126 : fAdvance (s_60) = s_127 := by have q := fx_120; simp only [etqa0, hs_60, hs_127] at q; exact q.symm
          have hs_128 : TBq I_121 J_122 b_2 b_12 b_13 b_3 = s_45 := (bq_fq wbqx_0 hFI_121 hGJ_122 (by decide) (by decide)).trans hs_61
          have hs_129 : CPq I_121 J_122 b_1 b_15 = s_46 := (cq_fq wcqx_1 hFI_121 hGJ_122 (by decide) (by decide)).trans hs_62
          have hs_130 : XPq I_121 J_122 x = s_47 := (xq_fq wxqx hFI_121 hGJ_122 (by decide) (by decide)).trans hs_63
          have kt_131 : Kt_ L κ R I I_121 [rr_ R x 0] := (kt_fq W9 kt_64 hFI_121 (by decide))
          have kn_132 : Kn_ L κ R J J_122 [rr_ R x 0] := (kn_fq W9 kn_65 hGJ_122 (by decide))
          refine g_aload_n C 4 dX9_readDish_70 rfl rfl ?_
          refine g_iconst C (v := 1) dX9_readDish_71 (by decide) ?_
          refine g_bipush C (v := 9) dX9_readDish_72 (by decide) ?_
          refine g_callVI C K (c_X10_takeNumber W9 hLa0 hka0 1 9 (rg_w rc_1 (by decide) (by decide)) (rg_w rc_9 (by decide) (by decide)) hUI_121) hLa0 hka0 (by decide) rfl v_9_91 rfl ⟨rfl, rfl⟩ ⟨Nat.le_of_ble_eq_true rfl, Nat.le_of_ble_eq_true rfl⟩ (Nat.le_of_ble_eq_true rfl) ⟨Nat.le_of_ble_eq_true rfl, Nat.le_of_ble_eq_true rfl⟩ dX9_readDish_74 rfl (st := []) (fun x_133 I_134 J_135 h_136 => ?_)
          obtain ⟨hUI_134, hFI_134, hGJ_135, rx_133, fx_133⟩ := h_136
          have hF_137 := fq_tr hF_124 hFI_134 (by decide)
          have hG_138 := fq_tr hG_125 hGJ_135 (by decide)
          obtain ⟨s_140, hs_140⟩ : ∃ z, TPq I_134 J_135 a0 b_6 b_7 b_8 b_9 b_10 = z := ⟨_, rfl⟩
          have c_139 : fTakeNumber (1) (9) (s_127) = (x_133, s_140) := by have q := fx_133; simp only [etqa0, hs_127, hs_140] at q; exact q.symm
          have hs_141 : TBq I_134 J_135 b_2 b_12 b_13 b_3 = s_45 := (bq_fq wbqx_0 hFI_134 hGJ_135 (by decide) (by decide)).trans hs_128
          have hs_142 : CPq I_134 J_135 b_1 b_15 = s_46 := (cq_fq wcqx_1 hFI_134 hGJ_135 (by decide) (by decide)).trans hs_129
          have hs_143 : XPq I_134 J_135 x = s_47 := (xq_fq wxqx hFI_134 hGJ_135 (by decide) (by decide)).trans hs_130
          have kt_144 : Kt_ L κ R I I_134 [rr_ R x 0] := (kt_fq W9 kt_131 hFI_134 (by decide))
          have kn_145 : Kn_ L κ R J J_135 [rr_ R x 0] := (kn_fq W9 kn_132 hGJ_135 (by decide))
          refine g_istore C dX9_readDish_77 (by decide) (lo2 := [(5, .int x_133), (4, .int x_53), (2, .long y_35), (0, .ref x), (1, .ref a0)]) rfl ?_
          refine g_iload C 0 dX9_readDish_79 rfl ?_
          refine g_iconst C (v := (-1)) dX9_readDish_81 (by decide) ?_
          refine g_icmp_ne C (tgt := 87) dX9_readDish_82 (by decide) (fun h_146 => ?_) (fun h_146 => ?_)
          · skip
            have n_147 : ¬ x_133 = (-1) := h_146
            refine g_aload_n C 3 dX9_readDish_87 rfl rfl ?_
            refine g_getR C K hLx hkx f_9_12 hb_2 dX9_readDish_88 ?_
            refine g_getR C K hb_2L hb_2k f_9_116 hb_3 dX9_readDish_91 ?_
            refine g_aload_n C 3 dX9_readDish_94 rfl rfl ?_
            refine g_getR C K hLx hkx f_9_12 hb_2 dX9_readDish_95 ?_
            have q_148 := (fq_at hFI_134 hb_2L hb_2k (by decide) (by decide) (fq_at hFI_121 hb_2L hb_2k (by decide) (by decide) (fq_at hFI_54 hb_2L hb_2k (by decide) (by decide) (fq_at hFI_38 hb_2L hb_2k (by decide) (by decide) (fq_at hFI_23 hb_2L hb_2k (by decide) (by decide) hx_18)))))
            have f_149 : s_45.dishes = x_18 := (congrArg TB_.dishes hs_141).symm.trans q_148
            refine g_getI C K hb_2L hb_2k f_9_113 (v := x_18) q_148 dX9_readDish_98 ?_
            refine g_lload_n C 2 dX9_readDish_101 rfl rfl ?_
            refine h_last C K hb_3L hb_3k (x_18.toNatClampNeg) (rfl) (ix_0 r_21 (by decide)) (ix_lt r_21 (by decide) hb_3n (by decide)) dX9_readDish_102 (fun J_150 hJ_150 => ?_)
            have hG_151 := fq_puta hG_138 hJ_150 (ro_a hb_3k (by decide) hb_3o hb_2k rfl) (by decide) (by decide)
            have hs_152 : TPq I_134 J_150 a0 b_6 b_7 b_8 b_9 b_10 = s_140 := by rw [hJ_150]; exact (tq_oJ wtqa0 (ro_a hb_3k (by decide) hb_3o hb_2k rfl) (by decide)).trans hs_140
            have hs_153 : TBq I_134 J_150 b_2 b_12 b_13 b_3 = (TB_.w_dnm s_45 (up1 (s_45.dnm) (x_18.toNatClampNeg) (y_35))) := by rw [hJ_150]; exact ((bq_dnm wbqx_0).trans (congrArg (fun z : TB_ => TB_.w_dnm z (up1 (z.dnm) (x_18.toNatClampNeg) (y_35))) hs_141)).trans rfl
            have hs_154 : CPq I_134 J_150 b_1 b_15 = s_46 := by rw [hJ_150]; exact (cq_oJ wcqx_1 (ro_a hb_3k (by decide) hb_3o hb_2k rfl) (by decide)).trans hs_142
            have hs_155 : XPq I_134 J_150 x = s_47 := by rw [hJ_150]; exact (xq_oJ wxqx (ro_a hb_3k (by decide) hb_3o hb_2k rfl) (by decide)).trans hs_143
            have kn_156 : Kn_ L κ R J J_150 [rr_ R x 0] := (kn_u (r := 0) W9 kn_145 hJ_150 (Or.inr ⟨_, (by rw [rr_s hb_2]; simp only [List.mem_cons, true_or, or_true]), congrArg Prod.fst hb_3o⟩))
            refine g_aload_n C 3 dX9_readDish_103 rfl rfl ?_
            refine g_getR C K hLx hkx f_9_12 hb_2 dX9_readDish_104 ?_
            refine g_getR C K hb_2L hb_2k f_9_119 hb_4 dX9_readDish_107 ?_
            refine g_aload_n C 3 dX9_readDish_110 rfl rfl ?_
            refine g_getR C K hLx hkx f_9_12 hb_2 dX9_readDish_111 ?_
            refine g_getI C K hb_2L hb_2k f_9_113 (v := x_18) q_148 dX9_readDish_114 ?_
            refine g_iload C 0 dX9_readDish_117 rfl ?_
            refine h_iast C K hb_4L hb_4k (x_18.toNatClampNeg) (rfl) (ix_0 r_21 (by decide)) (ix_lt r_21 (by decide) hb_4n (by decide)) dX9_readDish_119 (fun I_157 hI_157 => ?_)
            have hU_158 := iv_put W9 hUI_134 hI_157 (ro_a hb_4k (by decide) hb_4o hb_2k rfl) (lo := (-2147483648)) (hi := 2147483647) (rfl) (rx_133) rfl
            have hF_159 := fq_puta hF_137 hI_157 (ro_a hb_4k (by decide) hb_4o hb_2k rfl) (by decide) (by decide)
            have hs_160 : TPq I_157 J_150 a0 b_6 b_7 b_8 b_9 b_10 = s_140 := by rw [hI_157]; exact (tq_oI wtqa0 (ro_a hb_4k (by decide) hb_4o hb_2k rfl) (by decide)).trans hs_152
            have hs_161 : TBq I_157 J_150 b_2 b_12 b_13 b_3 = (TB_.w_dnm s_45 (up1 (s_45.dnm) (x_18.toNatClampNeg) (y_35))) := by rw [hI_157]; exact (bq_oI wbqx_0 (ro_a hb_4k (by decide) hb_4o hb_2k rfl) (by decide)).trans hs_153
            have hs_162 : CPq I_157 J_150 b_1 b_15 = s_46 := by rw [hI_157]; exact (cq_oI wcqx_1 (ro_a hb_4k (by decide) hb_4o hb_2k rfl) (by decide)).trans hs_154
            have hs_163 : XPq I_157 J_150 x = s_47 := by rw [hI_157]; exact (xq_oI wxqx (ro_a hb_4k (by decide) hb_4o hb_2k rfl) (by decide)).trans hs_155
            refine g_aload_n C 3 dX9_readDish_120 rfl rfl ?_
            refine g_getR C K hLx hkx f_9_23 hb_1 dX9_readDish_121 ?_
            refine g_getR C K hb_1L hb_1k f_9_122 hb_5 dX9_readDish_124 ?_
            refine g_aload_n C 3 dX9_readDish_127 rfl rfl ?_
            refine g_getR C K hLx hkx f_9_12 hb_2 dX9_readDish_128 ?_
            refine g_getI C K hb_2L hb_2k f_9_113 (v := x_18) (kp_k (κ := κ) hI_157 (by rw [hb_2k, hb_4k]; decide) q_148) dX9_readDish_131 ?_
            refine g_iload C 1 dX9_readDish_134 rfl ?_
            refine h_iast C K hb_5L hb_5k (x_18.toNatClampNeg) (rfl) (ix_0 r_21 (by decide)) (ix_lt r_21 (by decide) hb_5n (by decide)) dX9_readDish_136 (fun I_164 hI_164 => ?_)
            have hU_165 := iv_put W9 hU_158 hI_164 (ro_a hb_5k (by decide) hb_5o hb_1k rfl) (lo := (-2147483648)) (hi := 2147483647) (rfl) (rx_53) rfl
            have hF_166 := fq_puta hF_159 hI_164 (ro_a hb_5k (by decide) hb_5o hb_1k rfl) (by decide) (by decide)
            have hs_167 : TPq I_164 J_150 a0 b_6 b_7 b_8 b_9 b_10 = s_140 := by rw [hI_164]; exact (tq_oI wtqa0 (ro_a hb_5k (by decide) hb_5o hb_1k rfl) (by decide)).trans hs_160
            have hs_168 : TBq I_164 J_150 b_2 b_12 b_13 b_3 = (TB_.w_dnm s_45 (up1 (s_45.dnm) (x_18.toNatClampNeg) (y_35))) := by rw [hI_164]; exact (bq_oI wbqx_0 (ro_a hb_5k (by decide) hb_5o hb_1k rfl) (by decide)).trans hs_161
            have hs_169 : CPq I_164 J_150 b_1 b_15 = s_46 := by rw [hI_164]; exact (cq_oI wcqx_1 (ro_a hb_5k (by decide) hb_5o hb_1k rfl) (by decide)).trans hs_162
            have hs_170 : XPq I_164 J_150 x = s_47 := by rw [hI_164]; exact (xq_oI wxqx (ro_a hb_5k (by decide) hb_5o hb_1k rfl) (by decide)).trans hs_163
            refine g_aload_n C 3 dX9_readDish_137 rfl rfl ?_
            refine g_getR C K hLx hkx f_9_12 hb_2 dX9_readDish_138 ?_
            refine g_dup C dX9_readDish_141 rfl ?_
            refine g_getI C K hb_2L hb_2k f_9_113 (v := x_18) (kp_k (κ := κ) hI_164 (by rw [hb_2k, hb_5k]; decide) (kp_k (κ := κ) hI_157 (by rw [hb_2k, hb_4k]; decide) q_148)) dX9_readDish_142 ?_
            refine g_iconst C (v := 1) dX9_readDish_145 (by decide) ?_
            obtain ⟨x_171, hx_171, rx_171, tx_171⟩ := ex_add 1 6 r_21 rc_1 (by decide) (by decide) (by decide) (by decide)
            refine g_iadd C (v := x_171) dX9_readDish_146 hx_171 ?_
            refine h_putI C K hb_2L hb_2k f_9_113 p_8_6 dX9_readDish_147 (fun I_172 hI_172 => ?_)
            have hU_173 := iv_put W9 hU_165 hI_172 (ro_o hb_2k (by decide)) (lo := 0) (hi := 6) (rfl) (rg_w rx_171 (by decide) (by decide)) rfl
            have hF_174 := fq_puto hF_166 hI_172 hb_2k (by decide) (by decide)
            have hs_175 : TPq I_172 J_150 a0 b_6 b_7 b_8 b_9 b_10 = s_140 := by rw [hI_172]; exact (tq_oI wtqa0 (ro_o hb_2k (by decide)) (by decide)).trans hs_167
            have hs_176 : TBq I_172 J_150 b_2 b_12 b_13 b_3 = (TB_.w_dishes (TB_.w_dnm s_45 (up1 (s_45.dnm) (x_18.toNatClampNeg) (y_35))) (x_171)) := by rw [hI_172]; exact ((bq_dishes wbqx_0).trans (congrArg (fun z : TB_ => TB_.w_dishes z (x_171)) hs_168)).trans rfl
            have hs_177 : CPq I_172 J_150 b_1 b_15 = s_46 := by rw [hI_172]; exact (cq_oI wcqx_1 (ro_o hb_2k (by decide)) (by decide)).trans hs_169
            have hs_178 : XPq I_172 J_150 x = s_47 := by rw [hI_172]; exact (xq_oI wxqx (ro_o hb_2k (by decide)) (by decide)).trans hs_170
            refine g_aload_n C 4 dX9_readDish_150 rfl rfl ?_
            refine g_bipush C (v := 59) dX9_readDish_151 (by decide) ?_
            refine g_callVI C K (c_X10_take W9 hLa0 hka0 59 (rg_w rc_59 (by decide) (by decide)) hU_173) hLa0 hka0 (by decide) rfl v_9_110 rfl ⟨rfl, rfl⟩ ⟨Nat.le_of_ble_eq_true rfl, Nat.le_of_ble_eq_true rfl⟩ (Nat.le_of_ble_eq_true rfl) ⟨Nat.le_of_ble_eq_true rfl, Nat.le_of_ble_eq_true rfl⟩ dX9_readDish_153 rfl (st := []) (fun x_179 I_180 J_181 h_182 => ?_)
            obtain ⟨hUI_180, hFI_180, hGJ_181, rx_179, fx_179⟩ := h_182
            have hF_183 := fq_tr hF_174 hFI_180 (by decide)
            have hG_184 := fq_tr hG_151 hGJ_181 (by decide)
            obtain ⟨s_186, hs_186⟩ : ∃ z, TPq I_180 J_181 a0 b_6 b_7 b_8 b_9 b_10 = z := ⟨_, rfl⟩
            have c_185 : fTake (59) (s_140) = (x_179, s_186) := by have q := fx_179; simp only [etqa0, hs_175, hs_186] at q; exact q.symm
            have hs_187 : TBq I_180 J_181 b_2 b_12 b_13 b_3 = (TB_.w_dishes (TB_.w_dnm s_45 (up1 (s_45.dnm) (x_18.toNatClampNeg) (y_35))) (x_171)) := (bq_fq wbqx_0 hFI_180 hGJ_181 (by decide) (by decide)).trans hs_176
            have hs_188 : CPq I_180 J_181 b_1 b_15 = s_46 := (cq_fq wcqx_1 hFI_180 hGJ_181 (by decide) (by decide)).trans hs_177
            have hs_189 : XPq I_180 J_181 x = s_47 := (xq_fq wxqx hFI_180 hGJ_181 (by decide) (by decide)).trans hs_178
            have kt_190 : Kt_ L κ R I I_157 [rr_ R x 0] := (kt_u W9 kt_144 hI_157 (Or.inr (Or.inr (Or.inl ⟨(ro_a hb_4k (by decide) hb_4o hb_2k rfl), by decide, by decide⟩))))
            have kt_191 : Kt_ L κ R I I_164 [rr_ R x 0] := (kt_u W9 kt_190 hI_164 (Or.inr (Or.inr (Or.inl ⟨(ro_a hb_5k (by decide) hb_5o hb_1k rfl), by decide, by decide⟩))))
            have kt_192 : Kt_ L κ R I I_172 [rr_ R x 0] := (kt_u (r := 0) W9 kt_191 hI_172 (Or.inr (Or.inl ⟨(by rw [rr_s hb_2]; simp only [List.mem_cons, true_or, or_true]), hb_2k⟩)))
            have kt_193 : Kt_ L κ R I I_180 [rr_ R x 0] := (kt_fq W9 kt_192 hFI_180 (by decide))
            have kn_194 : Kn_ L κ R J J_181 [rr_ R x 0] := (kn_fq W9 kn_156 hGJ_181 (by decide))
            exact g_zret (ty := .boolean) (r := x_179) B K rfl (nar_z (rx_179)) ⟨hUI_180, hF_183, hG_184, rx_179, (by simp only [fReadDish, fFailR, fTakeR, fPutPerson, fPutDish, fReadPlate3, etqa0, hs_186, hs_11, ebqx_0, dbqx_0, hs_187, hs_14, ecqx_1, dcqx_1, hs_188, hs_16, exqx, hs_189, hs_17, hx_18, f_19, h_20, c_28, hy_35, f_36, c_43, h_50, c_59, h_66, hx_68, f_69, (eq_true h_70), c_126, c_139, h_146, f_149, hx_171, c_185, if_true, if_false, bqM_pnm, bqM_par, bqM_dnm, bqM_persons, bqM_dishes, bqM_law, bqM_dogs, TB_.w_pnm, TB_.w_par, TB_.w_dnm, TB_.w_persons, TB_.w_dishes, TB_.w_law, TB_.w_dogs, cqM_pcs, CP_.w_pcs, tqM_by_, tqM_wd, tqM_tk, tqM_pl, tqM_vl, tqM_len, tqM_n, tqM_at_, tqM_token, tqM_place, tqM_value, tqM_fault, tqM_fat, TP_.w_by_, TP_.w_wd, TP_.w_tk, TP_.w_pl, TP_.w_vl, TP_.w_len, TP_.w_n, TP_.w_at_, TP_.w_token, TP_.w_place, TP_.w_value, TP_.w_fault, TP_.w_fat, xqM_lt, xqM_dt, XP_.w_lt, XP_.w_dt]), kt_193, kn_194⟩ dX9_readDish_156
          · skip
            have r_195 := (⟨(eq_rg (h_146) rc_m1).1, (eq_rg (h_146) rc_m1).2⟩ : Rg (-1) (-1) x_133)
            refine g_iconst C (v := 0) dX9_readDish_85 (by decide) ?_
            exact g_zret (ty := .boolean) (r := 0) B K rfl (rfl) ⟨hUI_134, hF_137, hG_138, rg_w rc_0 (by decide) (by decide), (by simp only [fReadDish, fFailR, fTakeR, fPutPerson, fPutDish, fReadPlate3, etqa0, hs_140, hs_11, ebqx_0, dbqx_0, hs_141, hs_14, ecqx_1, dcqx_1, hs_142, hs_16, exqx, hs_143, hs_17, hx_18, f_19, h_20, c_28, hy_35, f_36, c_43, h_50, c_59, h_66, hx_68, f_69, (eq_true h_70), c_126, c_139, (eq_true h_146), if_true, if_false, bqM_pnm, bqM_par, bqM_dnm, bqM_persons, bqM_dishes, bqM_law, bqM_dogs, TB_.w_pnm, TB_.w_par, TB_.w_dnm, TB_.w_persons, TB_.w_dishes, TB_.w_law, TB_.w_dogs, cqM_pcs, CP_.w_pcs, tqM_by_, tqM_wd, tqM_tk, tqM_pl, tqM_vl, tqM_len, tqM_n, tqM_at_, tqM_token, tqM_place, tqM_value, tqM_fault, tqM_fat, TP_.w_by_, TP_.w_wd, TP_.w_tk, TP_.w_pl, TP_.w_vl, TP_.w_len, TP_.w_n, TP_.w_at_, TP_.w_token, TP_.w_place, TP_.w_value, TP_.w_fault, TP_.w_fat, xqM_lt, xqM_dt, XP_.w_lt, XP_.w_dt]), kt_144, kn_145⟩ dX9_readDish_86
      · skip
        have r_196 := (⟨(eq_rg (h_66) rc_m1).1, (eq_rg (h_66) rc_m1).2⟩ : Rg (-1) (-1) x_53)
        refine g_iconst C (v := 0) dX9_readDish_52 (by decide) ?_
        exact g_zret (ty := .boolean) (r := 0) B K rfl (rfl) ⟨hUI_54, hF_57, hG_58, rg_w rc_0 (by decide) (by decide), (by simp only [fReadDish, fFailR, fTakeR, fPutPerson, fPutDish, fReadPlate3, etqa0, hs_60, hs_11, ebqx_0, dbqx_0, hs_61, hs_14, ecqx_1, dcqx_1, hs_62, hs_16, exqx, hs_63, hs_17, hx_18, f_19, h_20, c_28, hy_35, f_36, c_43, h_50, c_59, (eq_true h_66), if_true, if_false, bqM_pnm, bqM_par, bqM_dnm, bqM_persons, bqM_dishes, bqM_law, bqM_dogs, TB_.w_pnm, TB_.w_par, TB_.w_dnm, TB_.w_persons, TB_.w_dishes, TB_.w_law, TB_.w_dogs, cqM_pcs, CP_.w_pcs, tqM_by_, tqM_wd, tqM_tk, tqM_pl, tqM_vl, tqM_len, tqM_n, tqM_at_, tqM_token, tqM_place, tqM_value, tqM_fault, tqM_fat, TP_.w_by_, TP_.w_wd, TP_.w_tk, TP_.w_pl, TP_.w_vl, TP_.w_len, TP_.w_n, TP_.w_at_, TP_.w_token, TP_.w_place, TP_.w_value, TP_.w_fault, TP_.w_fat, xqM_lt, xqM_dt, XP_.w_lt, XP_.w_dt]), kt_64, kn_65⟩ dX9_readDish_53
    · skip
      have r_197 := (⟨(rx_37).1, (eq_rg (h_50) rc_0).2⟩ : Rg 0 0 x_37)
      refine g_iconst C (v := 0) dX9_readDish_35 (by decide) ?_
      exact g_zret (ty := .boolean) (r := 0) B K rfl (rfl) ⟨hUI_38, hF_41, hG_42, rg_w rc_0 (by decide) (by decide), (by simp only [fReadDish, fFailR, fTakeR, fPutPerson, fPutDish, fReadPlate3, etqa0, hs_44, hs_11, ebqx_0, dbqx_0, hs_45, hs_14, ecqx_1, dcqx_1, hs_46, hs_16, exqx, hs_47, hs_17, hx_18, f_19, h_20, c_28, hy_35, f_36, c_43, (eq_true h_50), if_true, if_false, bqM_pnm, bqM_par, bqM_dnm, bqM_persons, bqM_dishes, bqM_law, bqM_dogs, TB_.w_pnm, TB_.w_par, TB_.w_dnm, TB_.w_persons, TB_.w_dishes, TB_.w_law, TB_.w_dogs, cqM_pcs, CP_.w_pcs, tqM_by_, tqM_wd, tqM_tk, tqM_pl, tqM_vl, tqM_len, tqM_n, tqM_at_, tqM_token, tqM_place, tqM_value, tqM_fault, tqM_fat, TP_.w_by_, TP_.w_wd, TP_.w_tk, TP_.w_pl, TP_.w_vl, TP_.w_len, TP_.w_n, TP_.w_at_, TP_.w_token, TP_.w_place, TP_.w_value, TP_.w_fault, TP_.w_fat, xqM_lt, xqM_dt, XP_.w_lt, XP_.w_dt]), kt_48, kn_49⟩ dX9_readDish_36
  · skip
    have r_198 := le_r (nlt h_20) rc_6 rx_18
    refine g_aload_n C 1 dX9_readDish_12 rfl rfl ?_
    refine g_iconst C (v := 4) dX9_readDish_13 (by decide) ?_
    refine g_callVI C K (c_X10_fail W9 hLa0 hka0 4 (rg_w rc_4 (by decide) (by decide)) hU) hLa0 hka0 (by decide) rfl v_9_67 rfl ⟨rfl, rfl⟩ ⟨Nat.le_of_ble_eq_true rfl, Nat.le_of_ble_eq_true rfl⟩ (Nat.le_of_ble_eq_true rfl) ⟨Nat.le_of_ble_eq_true rfl, Nat.le_of_ble_eq_true rfl⟩ dX9_readDish_14 rfl (st := []) (fun x_199 I_200 J_201 h_202 => ?_)
    obtain ⟨hUI_200, hFI_200, hGJ_201, rx_199, fx_199⟩ := h_202
    have hF_203 := fq_tr hF hFI_200 (by decide)
    have hG_204 := fq_tr hG hGJ_201 (by decide)
    obtain ⟨s_206, hs_206⟩ : ∃ z, TPq I_200 J_201 a0 b_6 b_7 b_8 b_9 b_10 = z := ⟨_, rfl⟩
    have c_205 : fFail (4) (s_11) = (x_199, s_206) := by have q := fx_199; simp only [etqa0, hs_11, hs_206] at q; exact q.symm
    have hs_207 : TBq I_200 J_201 b_2 b_12 b_13 b_3 = s_14 := (bq_fq wbqx_0 hFI_200 hGJ_201 (by decide) (by decide)).trans hs_14
    have hs_208 : CPq I_200 J_201 b_1 b_15 = s_16 := (cq_fq wcqx_1 hFI_200 hGJ_201 (by decide) (by decide)).trans hs_16
    have hs_209 : XPq I_200 J_201 x = s_17 := (xq_fq wxqx hFI_200 hGJ_201 (by decide) (by decide)).trans hs_17
    have kt_210 : Kt_ L κ R I I_200 [rr_ R x 0] := (kt_fq W9 kt_rf hFI_200 (by decide))
    have kn_211 : Kn_ L κ R J J_201 [rr_ R x 0] := (kn_fq W9 kn_rf hGJ_201 (by decide))
    exact g_zret (ty := .boolean) (r := x_199) B K rfl (nar_z (rg_w rx_199 (by decide) (by decide))) ⟨hUI_200, hF_203, hG_204, rg_w rx_199 (by decide) (by decide), (by simp only [fReadDish, fFailR, fTakeR, fPutPerson, fPutDish, fReadPlate3, etqa0, hs_206, hs_11, ebqx_0, dbqx_0, hs_207, hs_14, ecqx_1, dcqx_1, hs_208, hs_16, exqx, hs_209, hs_17, hx_18, f_19, h_20, (nlt h_20), c_205, if_true, if_false, bqM_pnm, bqM_par, bqM_dnm, bqM_persons, bqM_dishes, bqM_law, bqM_dogs, TB_.w_pnm, TB_.w_par, TB_.w_dnm, TB_.w_persons, TB_.w_dishes, TB_.w_law, TB_.w_dogs, cqM_pcs, CP_.w_pcs, tqM_by_, tqM_wd, tqM_tk, tqM_pl, tqM_vl, tqM_len, tqM_n, tqM_at_, tqM_token, tqM_place, tqM_value, tqM_fault, tqM_fat, TP_.w_by_, TP_.w_wd, TP_.w_tk, TP_.w_pl, TP_.w_vl, TP_.w_len, TP_.w_n, TP_.w_at_, TP_.w_token, TP_.w_place, TP_.w_value, TP_.w_fault, TP_.w_fat, xqM_lt, xqM_dt, XP_.w_lt, XP_.w_dt]), kt_210, kn_211⟩ dX9_readDish_17
set_option maxRecDepth 100000 in
set_option maxHeartbeats 8000000 in
theorem c_X9_readDogs {l : Launch} {D : va_G} {cy : Nat → ClassId} {L : List Nat} {κ ln : Nat → Nat} {R : Nat → Nat → Option Nat} {I : Nat → Nat → Int32} {J : Nat → Nat → Int64} {ow : Nat → Nat × Nat} (W9 : ∀ a ∈ L, Shp L κ ln R ow a) {x : Nat} (hLx : x ∈ L) (hkx : κ x = 9) {a0 : Nat} (hLa0 : a0 ∈ L) (hka0 : κ a0 = 10) (hU : Iv L κ R ow I) : CtI l yX9_readDogs cX9_readDogs 2 (some .boolean) { frames := 2, cells := 0, slots := 0, locals := 44 } D cy L κ ln R I J [.ref x, .ref a0] (fun r I2 J2 => Iv L κ R ow I2 ∧ Fq L κ ow [808, 903, 1007, 1008, 1009, 1011, 1012] I I2 ∧ Fq L κ ow [1010] J J2 ∧ Rg 0 1 r ∧ ((r, TPf R I2 J2 a0, TBf R I2 J2 (rr_ R x 0), CPf R I2 J2 (rr_ R x 1), XPf R I2 J2 x) = fReadDogs (TPf R I J a0) (TBf R I J (rr_ R x 0)) (CPf R I J (rr_ R x 1)) (XPf R I J x)) ∧ (Kt_ L κ R I I2 [rr_ R x 0])) := by
  refine CtI.of (by decide +kernel) (Nat.le_of_ble_eq_true rfl) ?_
  intro p e s m below meth c B K
  have C := B.1
  have hF : Fq L κ ow [808, 903, 1007, 1008, 1009, 1011, 1012] I I := fq_rf
  have hG : Fq L κ ow [1010] J J := fq_rf
  obtain ⟨b_1, hb_1, hb_1L, hb_1k⟩ := shp_o (W9 x hLx) hkx 0 8 rfl (by decide)
  obtain ⟨b_2, hb_2, hb_2L, hb_2k, hb_2n, hb_2o⟩ := shp_a (W9 a0 hLa0) hka0 0 13 940 rfl (by decide)
  obtain ⟨b_3, hb_3, hb_3L, hb_3k, hb_3n, hb_3o⟩ := shp_a (W9 a0 hLa0) hka0 1 15 28 rfl (by decide)
  obtain ⟨b_4, hb_4, hb_4L, hb_4k, hb_4n, hb_4o⟩ := shp_a (W9 a0 hLa0) hka0 2 14 901 rfl (by decide)
  obtain ⟨b_5, hb_5, hb_5L, hb_5k, hb_5n, hb_5o⟩ := shp_a (W9 a0 hLa0) hka0 3 14 901 rfl (by decide)
  obtain ⟨b_6, hb_6, hb_6L, hb_6k, hb_6n, hb_6o⟩ := shp_a (W9 a0 hLa0) hka0 4 15 901 rfl (by decide)
  have etqa0 : ∀ I J, TPf R I J a0 = TPq I J a0 b_2 b_3 b_4 b_5 b_6 := fun I J => by simp only [TPf, rr_, Option.getD_some, hb_2, hb_3, hb_4, hb_5, hb_6]
  have wtqa0 : tqw_ L κ ow a0 b_2 b_3 b_4 b_5 b_6 := ⟨⟨hLa0, hb_2L, hb_3L, hb_4L, hb_5L, hb_6L⟩, ⟨(ro_o hka0 (by decide)), (ro_a hb_2k (by decide) hb_2o hka0 rfl), (ro_a hb_3k (by decide) hb_3o hka0 rfl), (ro_a hb_4k (by decide) hb_4o hka0 rfl), (ro_a hb_5k (by decide) hb_5o hka0 rfl), (ro_a hb_6k (by decide) hb_6o hka0 rfl)⟩⟩
  obtain ⟨s_7, hs_7⟩ : ∃ z, TPq I J a0 b_2 b_3 b_4 b_5 b_6 = z := ⟨_, rfl⟩
  obtain ⟨b_8, hb_8, hb_8L, hb_8k, hb_8n, hb_8o⟩ := shp_a (W9 b_1 hb_1L) hb_1k 0 15 7 rfl (by decide)
  obtain ⟨b_9, hb_9, hb_9L, hb_9k, hb_9n, hb_9o⟩ := shp_a (W9 b_1 hb_1L) hb_1k 2 14 7 rfl (by decide)
  obtain ⟨b_10, hb_10, hb_10L, hb_10k, hb_10n, hb_10o⟩ := shp_a (W9 b_1 hb_1L) hb_1k 3 15 6 rfl (by decide)
  have ebqx_0 : ∀ I J, TBf R I J (rr_ R x 0) = TBq I J b_1 b_8 b_9 b_10 := fun I J => by simp only [TBf, rr_, Option.getD_some, hb_8, hb_9, hb_10, hb_1]
  have dbqx_0 : ∀ I J, TBf R I J b_1 = TBq I J b_1 b_8 b_9 b_10 := fun I J => by simp only [TBf, rr_, Option.getD_some, hb_8, hb_9, hb_10, hb_1]
  have wbqx_0 : bqw_ L κ ow b_1 b_8 b_9 b_10 := ⟨⟨hb_1L, hb_8L, hb_9L, hb_10L⟩, ⟨(ro_o hb_1k (by decide)), (ro_a hb_8k (by decide) hb_8o hb_1k rfl), (ro_a hb_9k (by decide) hb_9o hb_1k rfl), (ro_a hb_10k (by decide) hb_10o hb_1k rfl)⟩⟩
  obtain ⟨s_11, hs_11⟩ : ∃ z, TBq I J b_1 b_8 b_9 b_10 = z := ⟨_, rfl⟩
  obtain ⟨b_12, hb_12, hb_12L, hb_12k⟩ := shp_o (W9 x hLx) hkx 1 1 rfl (by decide)
  obtain ⟨b_13, hb_13, hb_13L, hb_13k, hb_13n, hb_13o⟩ := shp_a (W9 b_12 hb_12L) hb_12k 2 14 42 rfl (by decide)
  have ecqx_1 : ∀ I J, CPf R I J (rr_ R x 1) = CPq I J b_12 b_13 := fun I J => by simp only [CPf, rr_, Option.getD_some, hb_13, hb_12]
  have dcqx_1 : ∀ I J, CPf R I J b_12 = CPq I J b_12 b_13 := fun I J => by simp only [CPf, rr_, Option.getD_some, hb_13, hb_12]
  have wcqx_1 : cqw_ L κ ow b_12 b_13 := ⟨⟨hb_12L, hb_13L⟩, ⟨(ro_o hb_12k (by decide)), (ro_a hb_13k (by decide) hb_13o hb_12k rfl)⟩⟩
  obtain ⟨s_14, hs_14⟩ : ∃ z, CPq I J b_12 b_13 = z := ⟨_, rfl⟩
  have exqx : ∀ I J, XPf R I J x = XPq I J x := fun I J => by simp only [XPf, rr_, Option.getD_some]
  have wxqx : xqw_ L κ ow x := ⟨hLx, (ro_o hkx (by decide))⟩
  obtain ⟨s_15, hs_15⟩ : ∃ z, XPq I J x = z := ⟨_, rfl⟩
  refine g_lo (is := [0, 1]) (lo2 := [(0, .ref x), (1, .ref a0)]) rfl ?_
  refine g_aload_n C 0 dX9_readDogs_0 rfl rfl ?_
  obtain ⟨x_16, hx_16, rx_16⟩ := ex_get (I := I) (a := x) (j := 3) (lo := 0) (hi := 1) hU.1 hLx (ro_o hkx (by decide)) rfl
  have f_17 : s_15.dt = x_16 := (congrArg XP_.dt hs_15).symm.trans hx_16
  refine g_getI C K hLx hkx f_9_31 (v := x_16) hx_16 dX9_readDogs_1 ?_
  refine g_if_eq C (tgt := 13) dX9_readDogs_4 (by decide) (fun h_18 => ?_) (fun h_18 => ?_)
  · skip
    have r_19 := (⟨(rx_16).1, (eq_rg (h_18) rc_0).2⟩ : Rg 0 0 x_16)
    refine g_aload_n C 0 dX9_readDogs_13 rfl rfl ?_
    refine g_iconst C (v := 1) dX9_readDogs_14 (by decide) ?_
    refine h_putZ C K hLx hkx f_9_31 p_9_3 (rg_bool (rg_w rc_1 (by decide) (by decide))) dX9_readDogs_15 (fun I_20 hI_20 => ?_)
    have hU_21 := iv_put W9 hU hI_20 (ro_o hkx (by decide)) (lo := 0) (hi := 1) (rfl) (rg_w rc_1 (by decide) (by decide)) rfl
    have hF_22 := fq_puto hF hI_20 hkx (by decide) (by decide)
    have hs_23 : TPq I_20 J a0 b_2 b_3 b_4 b_5 b_6 = s_7 := by rw [hI_20]; exact (tq_oI wtqa0 (ro_o hkx (by decide)) (by decide)).trans hs_7
    have hs_24 : TBq I_20 J b_1 b_8 b_9 b_10 = s_11 := by rw [hI_20]; exact (bq_oI wbqx_0 (ro_o hkx (by decide)) (by decide)).trans hs_11
    have hs_25 : CPq I_20 J b_12 b_13 = s_14 := by rw [hI_20]; exact (cq_oI wcqx_1 (ro_o hkx (by decide)) (by decide)).trans hs_14
    have hs_26 : XPq I_20 J x = (XP_.w_dt s_15 (1)) := by rw [hI_20]; exact ((xq_dt wxqx).trans (congrArg (fun z : XP_ => XP_.w_dt z (1)) hs_15)).trans rfl
    refine g_aload_n C 1 dX9_readDogs_18 rfl rfl ?_
    refine g_callVV C K (c_X10_advance W9 hLa0 hka0   hU_21) hLa0 hka0 (by decide) rfl v_9_82 rfl ⟨rfl, rfl⟩ ⟨Nat.le_of_ble_eq_true rfl, Nat.le_of_ble_eq_true rfl⟩ (Nat.le_of_ble_eq_true rfl) ⟨Nat.le_of_ble_eq_true rfl, Nat.le_of_ble_eq_true rfl⟩ dX9_readDogs_19 rfl (st := []) (fun I_28 J_29 h_30 => ?_)
    obtain ⟨hUI_28, hFI_28, hGJ_29, fx_27⟩ := h_30
    have hF_31 := fq_tr hF_22 hFI_28 (by decide)
    have hG_32 := fq_tr hG hGJ_29 (by decide)
    obtain ⟨s_34, hs_34⟩ : ∃ z, TPq I_28 J_29 a0 b_2 b_3 b_4 b_5 b_6 = z := ⟨_, rfl⟩
    have c_33 : fAdvance (s_7) = s_34 := by have q := fx_27; simp only [etqa0, hs_23, hs_34] at q; exact q.symm
    have hs_35 : TBq I_28 J_29 b_1 b_8 b_9 b_10 = s_11 := (bq_fq wbqx_0 hFI_28 hGJ_29 (by decide) (by decide)).trans hs_24
    have hs_36 : CPq I_28 J_29 b_12 b_13 = s_14 := (cq_fq wcqx_1 hFI_28 hGJ_29 (by decide) (by decide)).trans hs_25
    have hs_37 : XPq I_28 J_29 x = (XP_.w_dt s_15 (1)) := (xq_fq wxqx hFI_28 hGJ_29 (by decide) (by decide)).trans hs_26
    have kt_38 : Kt_ L κ R I I_20 [rr_ R x 0] := (kt_u (r := 0) W9 kt_rf hI_20 (Or.inl (by rw [hkx]; decide)))
    have kt_39 : Kt_ L κ R I I_28 [rr_ R x 0] := (kt_fq W9 kt_38 hFI_28 (by decide))
    refine g_aload_n C 0 dX9_readDogs_22 rfl rfl ?_
    refine g_getR C K hLx hkx f_9_12 hb_1 dX9_readDogs_23 ?_
    refine g_aload_n C 1 dX9_readDogs_26 rfl rfl ?_
    refine g_iconst C (v := 0) dX9_readDogs_27 (by decide) ?_
    refine g_bipush C (v := 9) dX9_readDogs_28 (by decide) ?_
    refine g_callVI C K (c_X10_takeNumber W9 hLa0 hka0 0 9 (rg_w rc_0 (by decide) (by decide)) (rg_w rc_9 (by decide) (by decide)) hUI_28) hLa0 hka0 (by decide) rfl v_9_91 rfl ⟨rfl, rfl⟩ ⟨Nat.le_of_ble_eq_true rfl, Nat.le_of_ble_eq_true rfl⟩ (Nat.le_of_ble_eq_true rfl) ⟨Nat.le_of_ble_eq_true rfl, Nat.le_of_ble_eq_true rfl⟩ dX9_readDogs_30 rfl (st := [.ref b_1]) (fun x_40 I_41 J_42 h_43 => ?_)
    obtain ⟨hUI_41, hFI_41, hGJ_42, rx_40, fx_40⟩ := h_43
    have hF_44 := fq_tr hF_31 hFI_41 (by decide)
    have hG_45 := fq_tr hG_32 hGJ_42 (by decide)
    obtain ⟨s_47, hs_47⟩ : ∃ z, TPq I_41 J_42 a0 b_2 b_3 b_4 b_5 b_6 = z := ⟨_, rfl⟩
    have c_46 : fTakeNumber (0) (9) (s_34) = (x_40, s_47) := by have q := fx_40; simp only [etqa0, hs_34, hs_47] at q; exact q.symm
    have hs_48 : TBq I_41 J_42 b_1 b_8 b_9 b_10 = s_11 := (bq_fq wbqx_0 hFI_41 hGJ_42 (by decide) (by decide)).trans hs_35
    have hs_49 : CPq I_41 J_42 b_12 b_13 = s_14 := (cq_fq wcqx_1 hFI_41 hGJ_42 (by decide) (by decide)).trans hs_36
    have hs_50 : XPq I_41 J_42 x = (XP_.w_dt s_15 (1)) := (xq_fq wxqx hFI_41 hGJ_42 (by decide) (by decide)).trans hs_37
    have kt_51 : Kt_ L κ R I I_41 [rr_ R x 0] := (kt_fq W9 kt_39 hFI_41 (by decide))
    refine h_putI C K hb_1L hb_1k f_9_135 p_8_8 dX9_readDogs_33 (fun I_52 hI_52 => ?_)
    have hU_53 := iv_put W9 hUI_41 hI_52 (ro_o hb_1k (by decide)) (lo := (-2147483648)) (hi := 2147483647) (rfl) (rx_40) rfl
    have hF_54 := fq_puto hF_44 hI_52 hb_1k (by decide) (by decide)
    have hs_55 : TPq I_52 J_42 a0 b_2 b_3 b_4 b_5 b_6 = s_47 := by rw [hI_52]; exact (tq_oI wtqa0 (ro_o hb_1k (by decide)) (by decide)).trans hs_47
    have hs_56 : TBq I_52 J_42 b_1 b_8 b_9 b_10 = (TB_.w_dogs s_11 (x_40)) := by rw [hI_52]; exact ((bq_dogs wbqx_0).trans (congrArg (fun z : TB_ => TB_.w_dogs z (x_40)) hs_48)).trans rfl
    have hs_57 : CPq I_52 J_42 b_12 b_13 = s_14 := by rw [hI_52]; exact (cq_oI wcqx_1 (ro_o hb_1k (by decide)) (by decide)).trans hs_49
    have hs_58 : XPq I_52 J_42 x = (XP_.w_dt s_15 (1)) := by rw [hI_52]; exact (xq_oI wxqx (ro_o hb_1k (by decide)) (by decide)).trans hs_50
    refine g_aload_n C 0 dX9_readDogs_36 rfl rfl ?_
    refine g_getR C K hLx hkx f_9_12 hb_1 dX9_readDogs_37 ?_
    refine g_getI C K hb_1L hb_1k f_9_135 (v := x_40) (kp_s hI_52) dX9_readDogs_40 ?_
    refine g_iconst C (v := (-1)) dX9_readDogs_43 (by decide) ?_
    refine g_icmp_eq C (tgt := 60) dX9_readDogs_44 (by decide) (fun h_59 => ?_) (fun h_59 => ?_)
    · skip
      have r_60 := (⟨(eq_rg (h_59) rc_m1).1, (eq_rg (h_59) rc_m1).2⟩ : Rg (-1) (-1) x_40)
      refine g_iconst C (v := 0) dX9_readDogs_60 (by decide) ?_
      have kt_61 : Kt_ L κ R I I_52 [rr_ R x 0] := (kt_u (r := 0) W9 kt_51 hI_52 (Or.inr (Or.inl ⟨(by rw [rr_s hb_1]; simp only [List.mem_cons, true_or, or_true]), hb_1k⟩)))
      exact g_zret (ty := .boolean) (r := 0) B K rfl (rfl) ⟨hU_53, hF_54, hG_45, rg_w rc_0 (by decide) (by decide), (by simp only [fReadDogs, fFailR, fTakeR, fPutPerson, fPutDish, fReadPlate3, etqa0, hs_55, hs_7, ebqx_0, dbqx_0, hs_56, hs_11, ecqx_1, dcqx_1, hs_57, hs_14, exqx, hs_58, hs_15, hx_16, f_17, (eq_true h_18), c_33, c_46, (eq_true h_59), if_true, if_false, bqM_pnm, bqM_par, bqM_dnm, bqM_persons, bqM_dishes, bqM_law, bqM_dogs, TB_.w_pnm, TB_.w_par, TB_.w_dnm, TB_.w_persons, TB_.w_dishes, TB_.w_law, TB_.w_dogs, cqM_pcs, CP_.w_pcs, tqM_by_, tqM_wd, tqM_tk, tqM_pl, tqM_vl, tqM_len, tqM_n, tqM_at_, tqM_token, tqM_place, tqM_value, tqM_fault, tqM_fat, TP_.w_by_, TP_.w_wd, TP_.w_tk, TP_.w_pl, TP_.w_vl, TP_.w_len, TP_.w_n, TP_.w_at_, TP_.w_token, TP_.w_place, TP_.w_value, TP_.w_fault, TP_.w_fat, xqM_lt, xqM_dt, XP_.w_lt, XP_.w_dt]), kt_61⟩ dX9_readDogs_61
    · skip
      have n_62 : ¬ x_40 = (-1) := h_59
      refine g_aload_n C 1 dX9_readDogs_47 rfl rfl ?_
      refine g_bipush C (v := 59) dX9_readDogs_48 (by decide) ?_
      refine g_callVI C K (c_X10_take W9 hLa0 hka0 59 (rg_w rc_59 (by decide) (by decide)) hU_53) hLa0 hka0 (by decide) rfl v_9_110 rfl ⟨rfl, rfl⟩ ⟨Nat.le_of_ble_eq_true rfl, Nat.le_of_ble_eq_true rfl⟩ (Nat.le_of_ble_eq_true rfl) ⟨Nat.le_of_ble_eq_true rfl, Nat.le_of_ble_eq_true rfl⟩ dX9_readDogs_50 rfl (st := []) (fun x_63 I_64 J_65 h_66 => ?_)
      obtain ⟨hUI_64, hFI_64, hGJ_65, rx_63, fx_63⟩ := h_66
      have hF_67 := fq_tr hF_54 hFI_64 (by decide)
      have hG_68 := fq_tr hG_45 hGJ_65 (by decide)
      obtain ⟨s_70, hs_70⟩ : ∃ z, TPq I_64 J_65 a0 b_2 b_3 b_4 b_5 b_6 = z := ⟨_, rfl⟩
      have c_69 : fTake (59) (s_47) = (x_63, s_70) := by have q := fx_63; simp only [etqa0, hs_55, hs_70] at q; exact q.symm
      have hs_71 : TBq I_64 J_65 b_1 b_8 b_9 b_10 = (TB_.w_dogs s_11 (x_40)) := (bq_fq wbqx_0 hFI_64 hGJ_65 (by decide) (by decide)).trans hs_56
      have hs_72 : CPq I_64 J_65 b_12 b_13 = s_14 := (cq_fq wcqx_1 hFI_64 hGJ_65 (by decide) (by decide)).trans hs_57
      have hs_73 : XPq I_64 J_65 x = (XP_.w_dt s_15 (1)) := (xq_fq wxqx hFI_64 hGJ_65 (by decide) (by decide)).trans hs_58
      have kt_74 : Kt_ L κ R I I_52 [rr_ R x 0] := (kt_u (r := 0) W9 kt_51 hI_52 (Or.inr (Or.inl ⟨(by rw [rr_s hb_1]; simp only [List.mem_cons, true_or, or_true]), hb_1k⟩)))
      have kt_75 : Kt_ L κ R I I_64 [rr_ R x 0] := (kt_fq W9 kt_74 hFI_64 (by decide))
      refine g_if_eq C (tgt := 60) dX9_readDogs_53 (by decide) (fun h_76 => ?_) (fun h_76 => ?_)
      · skip
        have r_77 := (⟨(rx_63).1, (eq_rg (h_76) rc_0).2⟩ : Rg 0 0 x_63)
        refine g_iconst C (v := 0) dX9_readDogs_60 (by decide) ?_
        exact g_zret (ty := .boolean) (r := 0) B K rfl (rfl) ⟨hUI_64, hF_67, hG_68, rg_w rc_0 (by decide) (by decide), (by simp only [fReadDogs, fFailR, fTakeR, fPutPerson, fPutDish, fReadPlate3, etqa0, hs_70, hs_7, ebqx_0, dbqx_0, hs_71, hs_11, ecqx_1, dcqx_1, hs_72, hs_14, exqx, hs_73, hs_15, hx_16, f_17, (eq_true h_18), c_33, c_46, h_59, c_69, (eq_true h_76), if_true, if_false, bqM_pnm, bqM_par, bqM_dnm, bqM_persons, bqM_dishes, bqM_law, bqM_dogs, TB_.w_pnm, TB_.w_par, TB_.w_dnm, TB_.w_persons, TB_.w_dishes, TB_.w_law, TB_.w_dogs, cqM_pcs, CP_.w_pcs, tqM_by_, tqM_wd, tqM_tk, tqM_pl, tqM_vl, tqM_len, tqM_n, tqM_at_, tqM_token, tqM_place, tqM_value, tqM_fault, tqM_fat, TP_.w_by_, TP_.w_wd, TP_.w_tk, TP_.w_pl, TP_.w_vl, TP_.w_len, TP_.w_n, TP_.w_at_, TP_.w_token, TP_.w_place, TP_.w_value, TP_.w_fault, TP_.w_fat, xqM_lt, xqM_dt, XP_.w_lt, XP_.w_dt]), kt_75⟩ dX9_readDogs_61
      · skip
        have n_78 : ¬ x_63 = 0 := h_76
        have r_79 := ne_lo (lo := 1) n_78 rx_63 rc_0 rfl (by decide)
        refine g_iconst C (v := 1) dX9_readDogs_56 (by decide) ?_
        refine g_goto C (tgt := 61) dX9_readDogs_57 (by decide) ?_
        exact g_zret (ty := .boolean) (r := 1) B K rfl (rfl) ⟨hUI_64, hF_67, hG_68, rg_w rc_1 (by decide) (by decide), (by simp only [fReadDogs, fFailR, fTakeR, fPutPerson, fPutDish, fReadPlate3, etqa0, hs_70, hs_7, ebqx_0, dbqx_0, hs_71, hs_11, ecqx_1, dcqx_1, hs_72, hs_14, exqx, hs_73, hs_15, hx_16, f_17, (eq_true h_18), c_33, c_46, h_59, c_69, h_76, if_true, if_false, bqM_pnm, bqM_par, bqM_dnm, bqM_persons, bqM_dishes, bqM_law, bqM_dogs, TB_.w_pnm, TB_.w_par, TB_.w_dnm, TB_.w_persons, TB_.w_dishes, TB_.w_law, TB_.w_dogs, cqM_pcs, CP_.w_pcs, tqM_by_, tqM_wd, tqM_tk, tqM_pl, tqM_vl, tqM_len, tqM_n, tqM_at_, tqM_token, tqM_place, tqM_value, tqM_fault, tqM_fat, TP_.w_by_, TP_.w_wd, TP_.w_tk, TP_.w_pl, TP_.w_vl, TP_.w_len, TP_.w_n, TP_.w_at_, TP_.w_token, TP_.w_place, TP_.w_value, TP_.w_fault, TP_.w_fat, xqM_lt, xqM_dt, XP_.w_lt, XP_.w_dt]), kt_75⟩ dX9_readDogs_61
  · skip
    have n_80 : ¬ x_16 = 0 := h_18
    have r_81 := ne_lo (lo := 1) n_80 rx_16 rc_0 rfl (by decide)
    refine g_aload_n C 1 dX9_readDogs_7 rfl rfl ?_
    refine g_iconst C (v := 3) dX9_readDogs_8 (by decide) ?_
    refine g_callVI C K (c_X10_fail W9 hLa0 hka0 3 (rg_w rc_3 (by decide) (by decide)) hU) hLa0 hka0 (by decide) rfl v_9_67 rfl ⟨rfl, rfl⟩ ⟨Nat.le_of_ble_eq_true rfl, Nat.le_of_ble_eq_true rfl⟩ (Nat.le_of_ble_eq_true rfl) ⟨Nat.le_of_ble_eq_true rfl, Nat.le_of_ble_eq_true rfl⟩ dX9_readDogs_9 rfl (st := []) (fun x_82 I_83 J_84 h_85 => ?_)
    obtain ⟨hUI_83, hFI_83, hGJ_84, rx_82, fx_82⟩ := h_85
    have hF_86 := fq_tr hF hFI_83 (by decide)
    have hG_87 := fq_tr hG hGJ_84 (by decide)
    obtain ⟨s_89, hs_89⟩ : ∃ z, TPq I_83 J_84 a0 b_2 b_3 b_4 b_5 b_6 = z := ⟨_, rfl⟩
    have c_88 : fFail (3) (s_7) = (x_82, s_89) := by have q := fx_82; simp only [etqa0, hs_7, hs_89] at q; exact q.symm
    have hs_90 : TBq I_83 J_84 b_1 b_8 b_9 b_10 = s_11 := (bq_fq wbqx_0 hFI_83 hGJ_84 (by decide) (by decide)).trans hs_11
    have hs_91 : CPq I_83 J_84 b_12 b_13 = s_14 := (cq_fq wcqx_1 hFI_83 hGJ_84 (by decide) (by decide)).trans hs_14
    have hs_92 : XPq I_83 J_84 x = s_15 := (xq_fq wxqx hFI_83 hGJ_84 (by decide) (by decide)).trans hs_15
    have kt_93 : Kt_ L κ R I I_83 [rr_ R x 0] := (kt_fq W9 kt_rf hFI_83 (by decide))
    exact g_zret (ty := .boolean) (r := x_82) B K rfl (nar_z (rg_w rx_82 (by decide) (by decide))) ⟨hUI_83, hF_86, hG_87, rg_w rx_82 (by decide) (by decide), (by simp only [fReadDogs, fFailR, fTakeR, fPutPerson, fPutDish, fReadPlate3, etqa0, hs_89, hs_7, ebqx_0, dbqx_0, hs_90, hs_11, ecqx_1, dcqx_1, hs_91, hs_14, exqx, hs_92, hs_15, hx_16, f_17, h_18, c_88, if_true, if_false, bqM_pnm, bqM_par, bqM_dnm, bqM_persons, bqM_dishes, bqM_law, bqM_dogs, TB_.w_pnm, TB_.w_par, TB_.w_dnm, TB_.w_persons, TB_.w_dishes, TB_.w_law, TB_.w_dogs, cqM_pcs, CP_.w_pcs, tqM_by_, tqM_wd, tqM_tk, tqM_pl, tqM_vl, tqM_len, tqM_n, tqM_at_, tqM_token, tqM_place, tqM_value, tqM_fault, tqM_fat, TP_.w_by_, TP_.w_wd, TP_.w_tk, TP_.w_pl, TP_.w_vl, TP_.w_len, TP_.w_n, TP_.w_at_, TP_.w_token, TP_.w_place, TP_.w_value, TP_.w_fault, TP_.w_fat, xqM_lt, xqM_dt, XP_.w_lt, XP_.w_dt]), kt_93⟩ dX9_readDogs_12
set_option maxRecDepth 100000 in
set_option maxHeartbeats 8000000 in
theorem c_X9_readLaw {l : Launch} {D : va_G} {cy : Nat → ClassId} {L : List Nat} {κ ln : Nat → Nat} {R : Nat → Nat → Option Nat} {I : Nat → Nat → Int32} {J : Nat → Nat → Int64} {ow : Nat → Nat × Nat} (W9 : ∀ a ∈ L, Shp L κ ln R ow a) {x : Nat} (hLx : x ∈ L) (hkx : κ x = 9) {a0 : Nat} (hLa0 : a0 ∈ L) (hka0 : κ a0 = 10) (hU : Iv L κ R ow I) : CtI l yX9_readLaw cX9_readLaw 2 (some .boolean) { frames := 2, cells := 0, slots := 0, locals := 42 } D cy L κ ln R I J [.ref x, .ref a0] (fun r I2 J2 => Iv L κ R ow I2 ∧ Fq L κ ow [807, 902, 1007, 1008, 1009, 1011, 1012] I I2 ∧ Fq L κ ow [1010] J J2 ∧ Rg 0 1 r ∧ ((r, TPf R I2 J2 a0, TBf R I2 J2 (rr_ R x 0), CPf R I2 J2 (rr_ R x 1), XPf R I2 J2 x) = fReadLaw (TPf R I J a0) (TBf R I J (rr_ R x 0)) (CPf R I J (rr_ R x 1)) (XPf R I J x)) ∧ (Kt_ L κ R I I2 [rr_ R x 0])) := by
  refine CtI.of (by decide +kernel) (Nat.le_of_ble_eq_true rfl) ?_
  intro p e s m below meth c B K
  have C := B.1
  have hF : Fq L κ ow [807, 902, 1007, 1008, 1009, 1011, 1012] I I := fq_rf
  have hG : Fq L κ ow [1010] J J := fq_rf
  obtain ⟨b_1, hb_1, hb_1L, hb_1k⟩ := shp_o (W9 x hLx) hkx 0 8 rfl (by decide)
  obtain ⟨b_2, hb_2, hb_2L, hb_2k, hb_2n, hb_2o⟩ := shp_a (W9 a0 hLa0) hka0 0 13 940 rfl (by decide)
  obtain ⟨b_3, hb_3, hb_3L, hb_3k, hb_3n, hb_3o⟩ := shp_a (W9 a0 hLa0) hka0 1 15 28 rfl (by decide)
  obtain ⟨b_4, hb_4, hb_4L, hb_4k, hb_4n, hb_4o⟩ := shp_a (W9 a0 hLa0) hka0 2 14 901 rfl (by decide)
  obtain ⟨b_5, hb_5, hb_5L, hb_5k, hb_5n, hb_5o⟩ := shp_a (W9 a0 hLa0) hka0 3 14 901 rfl (by decide)
  obtain ⟨b_6, hb_6, hb_6L, hb_6k, hb_6n, hb_6o⟩ := shp_a (W9 a0 hLa0) hka0 4 15 901 rfl (by decide)
  have etqa0 : ∀ I J, TPf R I J a0 = TPq I J a0 b_2 b_3 b_4 b_5 b_6 := fun I J => by simp only [TPf, rr_, Option.getD_some, hb_2, hb_3, hb_4, hb_5, hb_6]
  have wtqa0 : tqw_ L κ ow a0 b_2 b_3 b_4 b_5 b_6 := ⟨⟨hLa0, hb_2L, hb_3L, hb_4L, hb_5L, hb_6L⟩, ⟨(ro_o hka0 (by decide)), (ro_a hb_2k (by decide) hb_2o hka0 rfl), (ro_a hb_3k (by decide) hb_3o hka0 rfl), (ro_a hb_4k (by decide) hb_4o hka0 rfl), (ro_a hb_5k (by decide) hb_5o hka0 rfl), (ro_a hb_6k (by decide) hb_6o hka0 rfl)⟩⟩
  obtain ⟨s_7, hs_7⟩ : ∃ z, TPq I J a0 b_2 b_3 b_4 b_5 b_6 = z := ⟨_, rfl⟩
  obtain ⟨b_8, hb_8, hb_8L, hb_8k, hb_8n, hb_8o⟩ := shp_a (W9 b_1 hb_1L) hb_1k 0 15 7 rfl (by decide)
  obtain ⟨b_9, hb_9, hb_9L, hb_9k, hb_9n, hb_9o⟩ := shp_a (W9 b_1 hb_1L) hb_1k 2 14 7 rfl (by decide)
  obtain ⟨b_10, hb_10, hb_10L, hb_10k, hb_10n, hb_10o⟩ := shp_a (W9 b_1 hb_1L) hb_1k 3 15 6 rfl (by decide)
  have ebqx_0 : ∀ I J, TBf R I J (rr_ R x 0) = TBq I J b_1 b_8 b_9 b_10 := fun I J => by simp only [TBf, rr_, Option.getD_some, hb_8, hb_9, hb_10, hb_1]
  have dbqx_0 : ∀ I J, TBf R I J b_1 = TBq I J b_1 b_8 b_9 b_10 := fun I J => by simp only [TBf, rr_, Option.getD_some, hb_8, hb_9, hb_10, hb_1]
  have wbqx_0 : bqw_ L κ ow b_1 b_8 b_9 b_10 := ⟨⟨hb_1L, hb_8L, hb_9L, hb_10L⟩, ⟨(ro_o hb_1k (by decide)), (ro_a hb_8k (by decide) hb_8o hb_1k rfl), (ro_a hb_9k (by decide) hb_9o hb_1k rfl), (ro_a hb_10k (by decide) hb_10o hb_1k rfl)⟩⟩
  obtain ⟨s_11, hs_11⟩ : ∃ z, TBq I J b_1 b_8 b_9 b_10 = z := ⟨_, rfl⟩
  obtain ⟨b_12, hb_12, hb_12L, hb_12k⟩ := shp_o (W9 x hLx) hkx 1 1 rfl (by decide)
  obtain ⟨b_13, hb_13, hb_13L, hb_13k, hb_13n, hb_13o⟩ := shp_a (W9 b_12 hb_12L) hb_12k 2 14 42 rfl (by decide)
  have ecqx_1 : ∀ I J, CPf R I J (rr_ R x 1) = CPq I J b_12 b_13 := fun I J => by simp only [CPf, rr_, Option.getD_some, hb_13, hb_12]
  have dcqx_1 : ∀ I J, CPf R I J b_12 = CPq I J b_12 b_13 := fun I J => by simp only [CPf, rr_, Option.getD_some, hb_13, hb_12]
  have wcqx_1 : cqw_ L κ ow b_12 b_13 := ⟨⟨hb_12L, hb_13L⟩, ⟨(ro_o hb_12k (by decide)), (ro_a hb_13k (by decide) hb_13o hb_12k rfl)⟩⟩
  obtain ⟨s_14, hs_14⟩ : ∃ z, CPq I J b_12 b_13 = z := ⟨_, rfl⟩
  have exqx : ∀ I J, XPf R I J x = XPq I J x := fun I J => by simp only [XPf, rr_, Option.getD_some]
  have wxqx : xqw_ L κ ow x := ⟨hLx, (ro_o hkx (by decide))⟩
  obtain ⟨s_15, hs_15⟩ : ∃ z, XPq I J x = z := ⟨_, rfl⟩
  refine g_lo (is := [0, 1]) (lo2 := [(0, .ref x), (1, .ref a0)]) rfl ?_
  refine g_aload_n C 0 dX9_readLaw_0 rfl rfl ?_
  obtain ⟨x_16, hx_16, rx_16⟩ := ex_get (I := I) (a := x) (j := 2) (lo := 0) (hi := 1) hU.1 hLx (ro_o hkx (by decide)) rfl
  have f_17 : s_15.lt = x_16 := (congrArg XP_.lt hs_15).symm.trans hx_16
  refine g_getI C K hLx hkx f_9_27 (v := x_16) hx_16 dX9_readLaw_1 ?_
  refine g_if_eq C (tgt := 13) dX9_readLaw_4 (by decide) (fun h_18 => ?_) (fun h_18 => ?_)
  · skip
    have r_19 := (⟨(rx_16).1, (eq_rg (h_18) rc_0).2⟩ : Rg 0 0 x_16)
    refine g_aload_n C 0 dX9_readLaw_13 rfl rfl ?_
    refine g_iconst C (v := 1) dX9_readLaw_14 (by decide) ?_
    refine h_putZ C K hLx hkx f_9_27 p_9_2 (rg_bool (rg_w rc_1 (by decide) (by decide))) dX9_readLaw_15 (fun I_20 hI_20 => ?_)
    have hU_21 := iv_put W9 hU hI_20 (ro_o hkx (by decide)) (lo := 0) (hi := 1) (rfl) (rg_w rc_1 (by decide) (by decide)) rfl
    have hF_22 := fq_puto hF hI_20 hkx (by decide) (by decide)
    have hs_23 : TPq I_20 J a0 b_2 b_3 b_4 b_5 b_6 = s_7 := by rw [hI_20]; exact (tq_oI wtqa0 (ro_o hkx (by decide)) (by decide)).trans hs_7
    have hs_24 : TBq I_20 J b_1 b_8 b_9 b_10 = s_11 := by rw [hI_20]; exact (bq_oI wbqx_0 (ro_o hkx (by decide)) (by decide)).trans hs_11
    have hs_25 : CPq I_20 J b_12 b_13 = s_14 := by rw [hI_20]; exact (cq_oI wcqx_1 (ro_o hkx (by decide)) (by decide)).trans hs_14
    have hs_26 : XPq I_20 J x = (XP_.w_lt s_15 (1)) := by rw [hI_20]; exact ((xq_lt wxqx).trans (congrArg (fun z : XP_ => XP_.w_lt z (1)) hs_15)).trans rfl
    refine g_aload_n C 1 dX9_readLaw_18 rfl rfl ?_
    refine g_callVV C K (c_X10_advance W9 hLa0 hka0   hU_21) hLa0 hka0 (by decide) rfl v_9_82 rfl ⟨rfl, rfl⟩ ⟨Nat.le_of_ble_eq_true rfl, Nat.le_of_ble_eq_true rfl⟩ (Nat.le_of_ble_eq_true rfl) ⟨Nat.le_of_ble_eq_true rfl, Nat.le_of_ble_eq_true rfl⟩ dX9_readLaw_19 rfl (st := []) (fun I_28 J_29 h_30 => ?_)
    obtain ⟨hUI_28, hFI_28, hGJ_29, fx_27⟩ := h_30
    have hF_31 := fq_tr hF_22 hFI_28 (by decide)
    have hG_32 := fq_tr hG hGJ_29 (by decide)
    obtain ⟨s_34, hs_34⟩ : ∃ z, TPq I_28 J_29 a0 b_2 b_3 b_4 b_5 b_6 = z := ⟨_, rfl⟩
    have c_33 : fAdvance (s_7) = s_34 := by have q := fx_27; simp only [etqa0, hs_23, hs_34] at q; exact q.symm
    have hs_35 : TBq I_28 J_29 b_1 b_8 b_9 b_10 = s_11 := (bq_fq wbqx_0 hFI_28 hGJ_29 (by decide) (by decide)).trans hs_24
    have hs_36 : CPq I_28 J_29 b_12 b_13 = s_14 := (cq_fq wcqx_1 hFI_28 hGJ_29 (by decide) (by decide)).trans hs_25
    have hs_37 : XPq I_28 J_29 x = (XP_.w_lt s_15 (1)) := (xq_fq wxqx hFI_28 hGJ_29 (by decide) (by decide)).trans hs_26
    have kt_38 : Kt_ L κ R I I_20 [rr_ R x 0] := (kt_u (r := 0) W9 kt_rf hI_20 (Or.inl (by rw [hkx]; decide)))
    have kt_39 : Kt_ L κ R I I_28 [rr_ R x 0] := (kt_fq W9 kt_38 hFI_28 (by decide))
    refine g_aload_n C 1 dX9_readLaw_22 rfl rfl ?_
    obtain ⟨x_40, hx_40, rx_40⟩ := ex_get (I := I_28) (a := a0) (j := 8) (lo := (-2147483648)) (hi := 2147483647) hUI_28.1 hLa0 (ro_o hka0 (by decide)) rfl
    have f_41 : s_34.token = x_40 := (congrArg TP_.token hs_34).symm.trans hx_40
    refine g_getI C K hLa0 hka0 f_9_44 (v := x_40) hx_40 dX9_readLaw_23 ?_
    refine g_bipush C (v := 7) dX9_readLaw_26 (by decide) ?_
    refine g_icmp_ne C (tgt := 42) dX9_readLaw_28 (by decide) (fun h_42 => ?_) (fun h_42 => ?_)
    · skip
      have n_43 : ¬ x_40 = 7 := h_42
      refine g_aload_n C 1 dX9_readLaw_42 rfl rfl ?_
      refine g_getI C K hLa0 hka0 f_9_44 (v := x_40) hx_40 dX9_readLaw_43 ?_
      refine g_bipush C (v := 8) dX9_readLaw_46 (by decide) ?_
      refine g_icmp_ne C (tgt := 62) dX9_readLaw_48 (by decide) (fun h_44 => ?_) (fun h_44 => ?_)
      · skip
        have n_45 : ¬ x_40 = 8 := h_44
        refine g_aload_n C 1 dX9_readLaw_62 rfl rfl ?_
        refine g_getI C K hLa0 hka0 f_9_44 (v := x_40) hx_40 dX9_readLaw_63 ?_
        refine g_bipush C (v := 9) dX9_readLaw_66 (by decide) ?_
        refine g_icmp_ne C (tgt := 82) dX9_readLaw_68 (by decide) (fun h_46 => ?_) (fun h_46 => ?_)
        · skip
          have n_47 : ¬ x_40 = 9 := h_46
          refine g_aload_n C 1 dX9_readLaw_82 rfl rfl ?_
          refine g_iconst C (v := 1) dX9_readLaw_83 (by decide) ?_
          refine g_callVI C K (c_X10_fail W9 hLa0 hka0 1 (rg_w rc_1 (by decide) (by decide)) hUI_28) hLa0 hka0 (by decide) rfl v_9_67 rfl ⟨rfl, rfl⟩ ⟨Nat.le_of_ble_eq_true rfl, Nat.le_of_ble_eq_true rfl⟩ (Nat.le_of_ble_eq_true rfl) ⟨Nat.le_of_ble_eq_true rfl, Nat.le_of_ble_eq_true rfl⟩ dX9_readLaw_84 rfl (st := []) (fun x_48 I_49 J_50 h_51 => ?_)
          obtain ⟨hUI_49, hFI_49, hGJ_50, rx_48, fx_48⟩ := h_51
          have hF_52 := fq_tr hF_31 hFI_49 (by decide)
          have hG_53 := fq_tr hG_32 hGJ_50 (by decide)
          obtain ⟨s_55, hs_55⟩ : ∃ z, TPq I_49 J_50 a0 b_2 b_3 b_4 b_5 b_6 = z := ⟨_, rfl⟩
          have c_54 : fFail (1) (s_34) = (x_48, s_55) := by have q := fx_48; simp only [etqa0, hs_34, hs_55] at q; exact q.symm
          have hs_56 : TBq I_49 J_50 b_1 b_8 b_9 b_10 = s_11 := (bq_fq wbqx_0 hFI_49 hGJ_50 (by decide) (by decide)).trans hs_35
          have hs_57 : CPq I_49 J_50 b_12 b_13 = s_14 := (cq_fq wcqx_1 hFI_49 hGJ_50 (by decide) (by decide)).trans hs_36
          have hs_58 : XPq I_49 J_50 x = (XP_.w_lt s_15 (1)) := (xq_fq wxqx hFI_49 hGJ_50 (by decide) (by decide)).trans hs_37
          have kt_59 : Kt_ L κ R I I_49 [rr_ R x 0] := (kt_fq W9 kt_39 hFI_49 (by decide))
          exact g_zret (ty := .boolean) (r := x_48) B K rfl (nar_z (rg_w rx_48 (by decide) (by decide))) ⟨hUI_49, hF_52, hG_53, rg_w rx_48 (by decide) (by decide), (by simp only [fReadLaw, fFailR, fTakeR, fPutPerson, fPutDish, fReadPlate3, etqa0, hs_55, hs_7, ebqx_0, dbqx_0, hs_56, hs_11, ecqx_1, dcqx_1, hs_57, hs_14, exqx, hs_58, hs_15, hx_16, f_17, (eq_true h_18), c_33, hx_40, f_41, h_42, h_44, h_46, c_54, if_true, if_false, bqM_pnm, bqM_par, bqM_dnm, bqM_persons, bqM_dishes, bqM_law, bqM_dogs, TB_.w_pnm, TB_.w_par, TB_.w_dnm, TB_.w_persons, TB_.w_dishes, TB_.w_law, TB_.w_dogs, cqM_pcs, CP_.w_pcs, tqM_by_, tqM_wd, tqM_tk, tqM_pl, tqM_vl, tqM_len, tqM_n, tqM_at_, tqM_token, tqM_place, tqM_value, tqM_fault, tqM_fat, TP_.w_by_, TP_.w_wd, TP_.w_tk, TP_.w_pl, TP_.w_vl, TP_.w_len, TP_.w_n, TP_.w_at_, TP_.w_token, TP_.w_place, TP_.w_value, TP_.w_fault, TP_.w_fat, xqM_lt, xqM_dt, XP_.w_lt, XP_.w_dt]), kt_59⟩ dX9_readLaw_87
        · skip
          have r_60 := (⟨(eq_rg (h_46) rc_9).1, (eq_rg (h_46) rc_9).2⟩ : Rg 9 9 x_40)
          refine g_aload_n C 0 dX9_readLaw_71 rfl rfl ?_
          refine g_getR C K hLx hkx f_9_12 hb_1 dX9_readLaw_72 ?_
          refine g_iconst C (v := 2) dX9_readLaw_75 (by decide) ?_
          refine h_putI C K hb_1L hb_1k f_9_132 p_8_7 dX9_readLaw_76 (fun I_61 hI_61 => ?_)
          have hU_62 := iv_put W9 hUI_28 hI_61 (ro_o hb_1k (by decide)) (lo := (-2147483648)) (hi := 2147483647) (rfl) (rg_all _) rfl
          have hF_63 := fq_puto hF_31 hI_61 hb_1k (by decide) (by decide)
          have hs_64 : TPq I_61 J_29 a0 b_2 b_3 b_4 b_5 b_6 = s_34 := by rw [hI_61]; exact (tq_oI wtqa0 (ro_o hb_1k (by decide)) (by decide)).trans hs_34
          have hs_65 : TBq I_61 J_29 b_1 b_8 b_9 b_10 = (TB_.w_law s_11 (2)) := by rw [hI_61]; exact ((bq_law wbqx_0).trans (congrArg (fun z : TB_ => TB_.w_law z (2)) hs_35)).trans rfl
          have hs_66 : CPq I_61 J_29 b_12 b_13 = s_14 := by rw [hI_61]; exact (cq_oI wcqx_1 (ro_o hb_1k (by decide)) (by decide)).trans hs_36
          have hs_67 : XPq I_61 J_29 x = (XP_.w_lt s_15 (1)) := by rw [hI_61]; exact (xq_oI wxqx (ro_o hb_1k (by decide)) (by decide)).trans hs_37
          refine g_goto C (tgt := 88) dX9_readLaw_79 (by decide) ?_
          refine g_aload_n C 1 dX9_readLaw_88 rfl rfl ?_
          refine g_callVV C K (c_X10_advance W9 hLa0 hka0   hU_62) hLa0 hka0 (by decide) rfl v_9_82 rfl ⟨rfl, rfl⟩ ⟨Nat.le_of_ble_eq_true rfl, Nat.le_of_ble_eq_true rfl⟩ (Nat.le_of_ble_eq_true rfl) ⟨Nat.le_of_ble_eq_true rfl, Nat.le_of_ble_eq_true rfl⟩ dX9_readLaw_89 rfl (st := []) (fun I_69 J_70 h_71 => ?_)
          obtain ⟨hUI_69, hFI_69, hGJ_70, fx_68⟩ := h_71
          have hF_72 := fq_tr hF_63 hFI_69 (by decide)
          have hG_73 := fq_tr hG_32 hGJ_70 (by decide)
          obtain ⟨s_75, hs_75⟩ : ∃ z, TPq I_69 J_70 a0 b_2 b_3 b_4 b_5 b_6 = z := ⟨_, rfl⟩
          have c_74 : fAdvance (s_34) = s_75 := by have q := fx_68; simp only [etqa0, hs_64, hs_75] at q; exact q.symm
          have hs_76 : TBq I_69 J_70 b_1 b_8 b_9 b_10 = (TB_.w_law s_11 (2)) := (bq_fq wbqx_0 hFI_69 hGJ_70 (by decide) (by decide)).trans hs_65
          have hs_77 : CPq I_69 J_70 b_12 b_13 = s_14 := (cq_fq wcqx_1 hFI_69 hGJ_70 (by decide) (by decide)).trans hs_66
          have hs_78 : XPq I_69 J_70 x = (XP_.w_lt s_15 (1)) := (xq_fq wxqx hFI_69 hGJ_70 (by decide) (by decide)).trans hs_67
          have kt_79 : Kt_ L κ R I I_61 [rr_ R x 0] := (kt_u (r := 0) W9 kt_39 hI_61 (Or.inr (Or.inl ⟨(by rw [rr_s hb_1]; simp only [List.mem_cons, true_or, or_true]), hb_1k⟩)))
          have kt_80 : Kt_ L κ R I I_69 [rr_ R x 0] := (kt_fq W9 kt_79 hFI_69 (by decide))
          refine g_aload_n C 1 dX9_readLaw_92 rfl rfl ?_
          refine g_bipush C (v := 59) dX9_readLaw_93 (by decide) ?_
          refine g_callVI C K (c_X10_take W9 hLa0 hka0 59 (rg_w rc_59 (by decide) (by decide)) hUI_69) hLa0 hka0 (by decide) rfl v_9_110 rfl ⟨rfl, rfl⟩ ⟨Nat.le_of_ble_eq_true rfl, Nat.le_of_ble_eq_true rfl⟩ (Nat.le_of_ble_eq_true rfl) ⟨Nat.le_of_ble_eq_true rfl, Nat.le_of_ble_eq_true rfl⟩ dX9_readLaw_95 rfl (st := []) (fun x_81 I_82 J_83 h_84 => ?_)
          obtain ⟨hUI_82, hFI_82, hGJ_83, rx_81, fx_81⟩ := h_84
          have hF_85 := fq_tr hF_72 hFI_82 (by decide)
          have hG_86 := fq_tr hG_73 hGJ_83 (by decide)
          obtain ⟨s_88, hs_88⟩ : ∃ z, TPq I_82 J_83 a0 b_2 b_3 b_4 b_5 b_6 = z := ⟨_, rfl⟩
          have c_87 : fTake (59) (s_75) = (x_81, s_88) := by have q := fx_81; simp only [etqa0, hs_75, hs_88] at q; exact q.symm
          have hs_89 : TBq I_82 J_83 b_1 b_8 b_9 b_10 = (TB_.w_law s_11 (2)) := (bq_fq wbqx_0 hFI_82 hGJ_83 (by decide) (by decide)).trans hs_76
          have hs_90 : CPq I_82 J_83 b_12 b_13 = s_14 := (cq_fq wcqx_1 hFI_82 hGJ_83 (by decide) (by decide)).trans hs_77
          have hs_91 : XPq I_82 J_83 x = (XP_.w_lt s_15 (1)) := (xq_fq wxqx hFI_82 hGJ_83 (by decide) (by decide)).trans hs_78
          have kt_92 : Kt_ L κ R I I_82 [rr_ R x 0] := (kt_fq W9 kt_80 hFI_82 (by decide))
          exact g_zret (ty := .boolean) (r := x_81) B K rfl (nar_z (rx_81)) ⟨hUI_82, hF_85, hG_86, rx_81, (by simp only [fReadLaw, fFailR, fTakeR, fPutPerson, fPutDish, fReadPlate3, etqa0, hs_88, hs_7, ebqx_0, dbqx_0, hs_89, hs_11, ecqx_1, dcqx_1, hs_90, hs_14, exqx, hs_91, hs_15, hx_16, f_17, (eq_true h_18), c_33, hx_40, f_41, h_42, h_44, (eq_true h_46), c_74, c_87, if_true, if_false, bqM_pnm, bqM_par, bqM_dnm, bqM_persons, bqM_dishes, bqM_law, bqM_dogs, TB_.w_pnm, TB_.w_par, TB_.w_dnm, TB_.w_persons, TB_.w_dishes, TB_.w_law, TB_.w_dogs, cqM_pcs, CP_.w_pcs, tqM_by_, tqM_wd, tqM_tk, tqM_pl, tqM_vl, tqM_len, tqM_n, tqM_at_, tqM_token, tqM_place, tqM_value, tqM_fault, tqM_fat, TP_.w_by_, TP_.w_wd, TP_.w_tk, TP_.w_pl, TP_.w_vl, TP_.w_len, TP_.w_n, TP_.w_at_, TP_.w_token, TP_.w_place, TP_.w_value, TP_.w_fault, TP_.w_fat, xqM_lt, xqM_dt, XP_.w_lt, XP_.w_dt]), kt_92⟩ dX9_readLaw_98
      · skip
        have r_93 := (⟨(eq_rg (h_44) rc_8).1, (eq_rg (h_44) rc_8).2⟩ : Rg 8 8 x_40)
        refine g_aload_n C 0 dX9_readLaw_51 rfl rfl ?_
        refine g_getR C K hLx hkx f_9_12 hb_1 dX9_readLaw_52 ?_
        refine g_iconst C (v := 1) dX9_readLaw_55 (by decide) ?_
        refine h_putI C K hb_1L hb_1k f_9_132 p_8_7 dX9_readLaw_56 (fun I_94 hI_94 => ?_)
        have hU_95 := iv_put W9 hUI_28 hI_94 (ro_o hb_1k (by decide)) (lo := (-2147483648)) (hi := 2147483647) (rfl) (rg_all _) rfl
        have hF_96 := fq_puto hF_31 hI_94 hb_1k (by decide) (by decide)
        have hs_97 : TPq I_94 J_29 a0 b_2 b_3 b_4 b_5 b_6 = s_34 := by rw [hI_94]; exact (tq_oI wtqa0 (ro_o hb_1k (by decide)) (by decide)).trans hs_34
        have hs_98 : TBq I_94 J_29 b_1 b_8 b_9 b_10 = (TB_.w_law s_11 (1)) := by rw [hI_94]; exact ((bq_law wbqx_0).trans (congrArg (fun z : TB_ => TB_.w_law z (1)) hs_35)).trans rfl
        have hs_99 : CPq I_94 J_29 b_12 b_13 = s_14 := by rw [hI_94]; exact (cq_oI wcqx_1 (ro_o hb_1k (by decide)) (by decide)).trans hs_36
        have hs_100 : XPq I_94 J_29 x = (XP_.w_lt s_15 (1)) := by rw [hI_94]; exact (xq_oI wxqx (ro_o hb_1k (by decide)) (by decide)).trans hs_37
        refine g_goto C (tgt := 88) dX9_readLaw_59 (by decide) ?_
        refine g_aload_n C 1 dX9_readLaw_88 rfl rfl ?_
        refine g_callVV C K (c_X10_advance W9 hLa0 hka0   hU_95) hLa0 hka0 (by decide) rfl v_9_82 rfl ⟨rfl, rfl⟩ ⟨Nat.le_of_ble_eq_true rfl, Nat.le_of_ble_eq_true rfl⟩ (Nat.le_of_ble_eq_true rfl) ⟨Nat.le_of_ble_eq_true rfl, Nat.le_of_ble_eq_true rfl⟩ dX9_readLaw_89 rfl (st := []) (fun I_102 J_103 h_104 => ?_)
        obtain ⟨hUI_102, hFI_102, hGJ_103, fx_101⟩ := h_104
        have hF_105 := fq_tr hF_96 hFI_102 (by decide)
        have hG_106 := fq_tr hG_32 hGJ_103 (by decide)
        obtain ⟨s_108, hs_108⟩ : ∃ z, TPq I_102 J_103 a0 b_2 b_3 b_4 b_5 b_6 = z := ⟨_, rfl⟩
        have c_107 : fAdvance (s_34) = s_108 := by have q := fx_101; simp only [etqa0, hs_97, hs_108] at q; exact q.symm
        have hs_109 : TBq I_102 J_103 b_1 b_8 b_9 b_10 = (TB_.w_law s_11 (1)) := (bq_fq wbqx_0 hFI_102 hGJ_103 (by decide) (by decide)).trans hs_98
        have hs_110 : CPq I_102 J_103 b_12 b_13 = s_14 := (cq_fq wcqx_1 hFI_102 hGJ_103 (by decide) (by decide)).trans hs_99
        have hs_111 : XPq I_102 J_103 x = (XP_.w_lt s_15 (1)) := (xq_fq wxqx hFI_102 hGJ_103 (by decide) (by decide)).trans hs_100
        have kt_112 : Kt_ L κ R I I_94 [rr_ R x 0] := (kt_u (r := 0) W9 kt_39 hI_94 (Or.inr (Or.inl ⟨(by rw [rr_s hb_1]; simp only [List.mem_cons, true_or, or_true]), hb_1k⟩)))
        have kt_113 : Kt_ L κ R I I_102 [rr_ R x 0] := (kt_fq W9 kt_112 hFI_102 (by decide))
        refine g_aload_n C 1 dX9_readLaw_92 rfl rfl ?_
        refine g_bipush C (v := 59) dX9_readLaw_93 (by decide) ?_
        refine g_callVI C K (c_X10_take W9 hLa0 hka0 59 (rg_w rc_59 (by decide) (by decide)) hUI_102) hLa0 hka0 (by decide) rfl v_9_110 rfl ⟨rfl, rfl⟩ ⟨Nat.le_of_ble_eq_true rfl, Nat.le_of_ble_eq_true rfl⟩ (Nat.le_of_ble_eq_true rfl) ⟨Nat.le_of_ble_eq_true rfl, Nat.le_of_ble_eq_true rfl⟩ dX9_readLaw_95 rfl (st := []) (fun x_114 I_115 J_116 h_117 => ?_)
        obtain ⟨hUI_115, hFI_115, hGJ_116, rx_114, fx_114⟩ := h_117
        have hF_118 := fq_tr hF_105 hFI_115 (by decide)
        have hG_119 := fq_tr hG_106 hGJ_116 (by decide)
        obtain ⟨s_121, hs_121⟩ : ∃ z, TPq I_115 J_116 a0 b_2 b_3 b_4 b_5 b_6 = z := ⟨_, rfl⟩
        have c_120 : fTake (59) (s_108) = (x_114, s_121) := by have q := fx_114; simp only [etqa0, hs_108, hs_121] at q; exact q.symm
        have hs_122 : TBq I_115 J_116 b_1 b_8 b_9 b_10 = (TB_.w_law s_11 (1)) := (bq_fq wbqx_0 hFI_115 hGJ_116 (by decide) (by decide)).trans hs_109
        have hs_123 : CPq I_115 J_116 b_12 b_13 = s_14 := (cq_fq wcqx_1 hFI_115 hGJ_116 (by decide) (by decide)).trans hs_110
        have hs_124 : XPq I_115 J_116 x = (XP_.w_lt s_15 (1)) := (xq_fq wxqx hFI_115 hGJ_116 (by decide) (by decide)).trans hs_111
        have kt_125 : Kt_ L κ R I I_115 [rr_ R x 0] := (kt_fq W9 kt_113 hFI_115 (by decide))
        exact g_zret (ty := .boolean) (r := x_114) B K rfl (nar_z (rx_114)) ⟨hUI_115, hF_118, hG_119, rx_114, (by simp only [fReadLaw, fFailR, fTakeR, fPutPerson, fPutDish, fReadPlate3, etqa0, hs_121, hs_7, ebqx_0, dbqx_0, hs_122, hs_11, ecqx_1, dcqx_1, hs_123, hs_14, exqx, hs_124, hs_15, hx_16, f_17, (eq_true h_18), c_33, hx_40, f_41, h_42, (eq_true h_44), c_107, c_120, if_true, if_false, bqM_pnm, bqM_par, bqM_dnm, bqM_persons, bqM_dishes, bqM_law, bqM_dogs, TB_.w_pnm, TB_.w_par, TB_.w_dnm, TB_.w_persons, TB_.w_dishes, TB_.w_law, TB_.w_dogs, cqM_pcs, CP_.w_pcs, tqM_by_, tqM_wd, tqM_tk, tqM_pl, tqM_vl, tqM_len, tqM_n, tqM_at_, tqM_token, tqM_place, tqM_value, tqM_fault, tqM_fat, TP_.w_by_, TP_.w_wd, TP_.w_tk, TP_.w_pl, TP_.w_vl, TP_.w_len, TP_.w_n, TP_.w_at_, TP_.w_token, TP_.w_place, TP_.w_value, TP_.w_fault, TP_.w_fat, xqM_lt, xqM_dt, XP_.w_lt, XP_.w_dt]), kt_125⟩ dX9_readLaw_98
    · skip
      have r_126 := (⟨(eq_rg (h_42) rc_7).1, (eq_rg (h_42) rc_7).2⟩ : Rg 7 7 x_40)
      refine g_aload_n C 0 dX9_readLaw_31 rfl rfl ?_
      refine g_getR C K hLx hkx f_9_12 hb_1 dX9_readLaw_32 ?_
      refine g_iconst C (v := 0) dX9_readLaw_35 (by decide) ?_
      refine h_putI C K hb_1L hb_1k f_9_132 p_8_7 dX9_readLaw_36 (fun I_127 hI_127 => ?_)
      have hU_128 := iv_put W9 hUI_28 hI_127 (ro_o hb_1k (by decide)) (lo := (-2147483648)) (hi := 2147483647) (rfl) (rg_all _) rfl
      have hF_129 := fq_puto hF_31 hI_127 hb_1k (by decide) (by decide)
      have hs_130 : TPq I_127 J_29 a0 b_2 b_3 b_4 b_5 b_6 = s_34 := by rw [hI_127]; exact (tq_oI wtqa0 (ro_o hb_1k (by decide)) (by decide)).trans hs_34
      have hs_131 : TBq I_127 J_29 b_1 b_8 b_9 b_10 = (TB_.w_law s_11 (0)) := by rw [hI_127]; exact ((bq_law wbqx_0).trans (congrArg (fun z : TB_ => TB_.w_law z (0)) hs_35)).trans rfl
      have hs_132 : CPq I_127 J_29 b_12 b_13 = s_14 := by rw [hI_127]; exact (cq_oI wcqx_1 (ro_o hb_1k (by decide)) (by decide)).trans hs_36
      have hs_133 : XPq I_127 J_29 x = (XP_.w_lt s_15 (1)) := by rw [hI_127]; exact (xq_oI wxqx (ro_o hb_1k (by decide)) (by decide)).trans hs_37
      refine g_goto C (tgt := 88) dX9_readLaw_39 (by decide) ?_
      refine g_aload_n C 1 dX9_readLaw_88 rfl rfl ?_
      refine g_callVV C K (c_X10_advance W9 hLa0 hka0   hU_128) hLa0 hka0 (by decide) rfl v_9_82 rfl ⟨rfl, rfl⟩ ⟨Nat.le_of_ble_eq_true rfl, Nat.le_of_ble_eq_true rfl⟩ (Nat.le_of_ble_eq_true rfl) ⟨Nat.le_of_ble_eq_true rfl, Nat.le_of_ble_eq_true rfl⟩ dX9_readLaw_89 rfl (st := []) (fun I_135 J_136 h_137 => ?_)
      obtain ⟨hUI_135, hFI_135, hGJ_136, fx_134⟩ := h_137
      have hF_138 := fq_tr hF_129 hFI_135 (by decide)
      have hG_139 := fq_tr hG_32 hGJ_136 (by decide)
      obtain ⟨s_141, hs_141⟩ : ∃ z, TPq I_135 J_136 a0 b_2 b_3 b_4 b_5 b_6 = z := ⟨_, rfl⟩
      have c_140 : fAdvance (s_34) = s_141 := by have q := fx_134; simp only [etqa0, hs_130, hs_141] at q; exact q.symm
      have hs_142 : TBq I_135 J_136 b_1 b_8 b_9 b_10 = (TB_.w_law s_11 (0)) := (bq_fq wbqx_0 hFI_135 hGJ_136 (by decide) (by decide)).trans hs_131
      have hs_143 : CPq I_135 J_136 b_12 b_13 = s_14 := (cq_fq wcqx_1 hFI_135 hGJ_136 (by decide) (by decide)).trans hs_132
      have hs_144 : XPq I_135 J_136 x = (XP_.w_lt s_15 (1)) := (xq_fq wxqx hFI_135 hGJ_136 (by decide) (by decide)).trans hs_133
      have kt_145 : Kt_ L κ R I I_127 [rr_ R x 0] := (kt_u (r := 0) W9 kt_39 hI_127 (Or.inr (Or.inl ⟨(by rw [rr_s hb_1]; simp only [List.mem_cons, true_or, or_true]), hb_1k⟩)))
      have kt_146 : Kt_ L κ R I I_135 [rr_ R x 0] := (kt_fq W9 kt_145 hFI_135 (by decide))
      refine g_aload_n C 1 dX9_readLaw_92 rfl rfl ?_
      refine g_bipush C (v := 59) dX9_readLaw_93 (by decide) ?_
      refine g_callVI C K (c_X10_take W9 hLa0 hka0 59 (rg_w rc_59 (by decide) (by decide)) hUI_135) hLa0 hka0 (by decide) rfl v_9_110 rfl ⟨rfl, rfl⟩ ⟨Nat.le_of_ble_eq_true rfl, Nat.le_of_ble_eq_true rfl⟩ (Nat.le_of_ble_eq_true rfl) ⟨Nat.le_of_ble_eq_true rfl, Nat.le_of_ble_eq_true rfl⟩ dX9_readLaw_95 rfl (st := []) (fun x_147 I_148 J_149 h_150 => ?_)
      obtain ⟨hUI_148, hFI_148, hGJ_149, rx_147, fx_147⟩ := h_150
      have hF_151 := fq_tr hF_138 hFI_148 (by decide)
      have hG_152 := fq_tr hG_139 hGJ_149 (by decide)
      obtain ⟨s_154, hs_154⟩ : ∃ z, TPq I_148 J_149 a0 b_2 b_3 b_4 b_5 b_6 = z := ⟨_, rfl⟩
      have c_153 : fTake (59) (s_141) = (x_147, s_154) := by have q := fx_147; simp only [etqa0, hs_141, hs_154] at q; exact q.symm
      have hs_155 : TBq I_148 J_149 b_1 b_8 b_9 b_10 = (TB_.w_law s_11 (0)) := (bq_fq wbqx_0 hFI_148 hGJ_149 (by decide) (by decide)).trans hs_142
      have hs_156 : CPq I_148 J_149 b_12 b_13 = s_14 := (cq_fq wcqx_1 hFI_148 hGJ_149 (by decide) (by decide)).trans hs_143
      have hs_157 : XPq I_148 J_149 x = (XP_.w_lt s_15 (1)) := (xq_fq wxqx hFI_148 hGJ_149 (by decide) (by decide)).trans hs_144
      have kt_158 : Kt_ L κ R I I_148 [rr_ R x 0] := (kt_fq W9 kt_146 hFI_148 (by decide))
      exact g_zret (ty := .boolean) (r := x_147) B K rfl (nar_z (rx_147)) ⟨hUI_148, hF_151, hG_152, rx_147, (by simp only [fReadLaw, fFailR, fTakeR, fPutPerson, fPutDish, fReadPlate3, etqa0, hs_154, hs_7, ebqx_0, dbqx_0, hs_155, hs_11, ecqx_1, dcqx_1, hs_156, hs_14, exqx, hs_157, hs_15, hx_16, f_17, (eq_true h_18), c_33, hx_40, f_41, (eq_true h_42), c_140, c_153, if_true, if_false, bqM_pnm, bqM_par, bqM_dnm, bqM_persons, bqM_dishes, bqM_law, bqM_dogs, TB_.w_pnm, TB_.w_par, TB_.w_dnm, TB_.w_persons, TB_.w_dishes, TB_.w_law, TB_.w_dogs, cqM_pcs, CP_.w_pcs, tqM_by_, tqM_wd, tqM_tk, tqM_pl, tqM_vl, tqM_len, tqM_n, tqM_at_, tqM_token, tqM_place, tqM_value, tqM_fault, tqM_fat, TP_.w_by_, TP_.w_wd, TP_.w_tk, TP_.w_pl, TP_.w_vl, TP_.w_len, TP_.w_n, TP_.w_at_, TP_.w_token, TP_.w_place, TP_.w_value, TP_.w_fault, TP_.w_fat, xqM_lt, xqM_dt, XP_.w_lt, XP_.w_dt]), kt_158⟩ dX9_readLaw_98
  · skip
    have n_159 : ¬ x_16 = 0 := h_18
    have r_160 := ne_lo (lo := 1) n_159 rx_16 rc_0 rfl (by decide)
    refine g_aload_n C 1 dX9_readLaw_7 rfl rfl ?_
    refine g_iconst C (v := 3) dX9_readLaw_8 (by decide) ?_
    refine g_callVI C K (c_X10_fail W9 hLa0 hka0 3 (rg_w rc_3 (by decide) (by decide)) hU) hLa0 hka0 (by decide) rfl v_9_67 rfl ⟨rfl, rfl⟩ ⟨Nat.le_of_ble_eq_true rfl, Nat.le_of_ble_eq_true rfl⟩ (Nat.le_of_ble_eq_true rfl) ⟨Nat.le_of_ble_eq_true rfl, Nat.le_of_ble_eq_true rfl⟩ dX9_readLaw_9 rfl (st := []) (fun x_161 I_162 J_163 h_164 => ?_)
    obtain ⟨hUI_162, hFI_162, hGJ_163, rx_161, fx_161⟩ := h_164
    have hF_165 := fq_tr hF hFI_162 (by decide)
    have hG_166 := fq_tr hG hGJ_163 (by decide)
    obtain ⟨s_168, hs_168⟩ : ∃ z, TPq I_162 J_163 a0 b_2 b_3 b_4 b_5 b_6 = z := ⟨_, rfl⟩
    have c_167 : fFail (3) (s_7) = (x_161, s_168) := by have q := fx_161; simp only [etqa0, hs_7, hs_168] at q; exact q.symm
    have hs_169 : TBq I_162 J_163 b_1 b_8 b_9 b_10 = s_11 := (bq_fq wbqx_0 hFI_162 hGJ_163 (by decide) (by decide)).trans hs_11
    have hs_170 : CPq I_162 J_163 b_12 b_13 = s_14 := (cq_fq wcqx_1 hFI_162 hGJ_163 (by decide) (by decide)).trans hs_14
    have hs_171 : XPq I_162 J_163 x = s_15 := (xq_fq wxqx hFI_162 hGJ_163 (by decide) (by decide)).trans hs_15
    have kt_172 : Kt_ L κ R I I_162 [rr_ R x 0] := (kt_fq W9 kt_rf hFI_162 (by decide))
    exact g_zret (ty := .boolean) (r := x_161) B K rfl (nar_z (rg_w rx_161 (by decide) (by decide))) ⟨hUI_162, hF_165, hG_166, rg_w rx_161 (by decide) (by decide), (by simp only [fReadLaw, fFailR, fTakeR, fPutPerson, fPutDish, fReadPlate3, etqa0, hs_168, hs_7, ebqx_0, dbqx_0, hs_169, hs_11, ecqx_1, dcqx_1, hs_170, hs_14, exqx, hs_171, hs_15, hx_16, f_17, h_18, c_167, if_true, if_false, bqM_pnm, bqM_par, bqM_dnm, bqM_persons, bqM_dishes, bqM_law, bqM_dogs, TB_.w_pnm, TB_.w_par, TB_.w_dnm, TB_.w_persons, TB_.w_dishes, TB_.w_law, TB_.w_dogs, cqM_pcs, CP_.w_pcs, tqM_by_, tqM_wd, tqM_tk, tqM_pl, tqM_vl, tqM_len, tqM_n, tqM_at_, tqM_token, tqM_place, tqM_value, tqM_fault, tqM_fat, TP_.w_by_, TP_.w_wd, TP_.w_tk, TP_.w_pl, TP_.w_vl, TP_.w_len, TP_.w_n, TP_.w_at_, TP_.w_token, TP_.w_place, TP_.w_value, TP_.w_fault, TP_.w_fat, xqM_lt, xqM_dt, XP_.w_lt, XP_.w_dt]), kt_172⟩ dX9_readLaw_12
set_option maxRecDepth 100000 in
set_option maxHeartbeats 8000000 in
theorem c_X10_takeName {l : Launch} {D : va_G} {cy : Nat → ClassId} {L : List Nat} {κ ln : Nat → Nat} {R : Nat → Nat → Option Nat} {I : Nat → Nat → Int32} {J : Nat → Nat → Int64} {ow : Nat → Nat × Nat} (W9 : ∀ a ∈ L, Shp L κ ln R ow a) {x : Nat} (hLx : x ∈ L) (hkx : κ x = 10) (a0 : Int32) (ra0 : Rg (-1) 6 a0) (hU : Iv L κ R ow I) : CtI l yX10_takeName cX10_takeName 2 (some .int) { frames := 1, cells := 0, slots := 0, locals := 21 } D cy L κ ln R I J [.ref x, .int a0] (fun r I2 J2 => Iv L κ R ow I2 ∧ Fq L κ ow [1007, 1008, 1009, 1011, 1012] I I2 ∧ Fq L κ ow [1010] J J2 ∧ Rg (-1) 6 r ∧ ((r, TPf R I2 J2 x) = fTakeName a0 (TPf R I J x)) ∧ (r = (-1) ∨ r = a0)) := by
  refine CtI.of (by decide +kernel) (Nat.le_of_ble_eq_true rfl) ?_
  intro p e s m below meth c B K
  have C := B.1
  have hF : Fq L κ ow [1007, 1008, 1009, 1011, 1012] I I := fq_rf
  have hG : Fq L κ ow [1010] J J := fq_rf
  obtain ⟨b_1, hb_1, hb_1L, hb_1k, hb_1n, hb_1o⟩ := shp_a (W9 x hLx) hkx 0 13 940 rfl (by decide)
  obtain ⟨b_2, hb_2, hb_2L, hb_2k, hb_2n, hb_2o⟩ := shp_a (W9 x hLx) hkx 1 15 28 rfl (by decide)
  obtain ⟨b_3, hb_3, hb_3L, hb_3k, hb_3n, hb_3o⟩ := shp_a (W9 x hLx) hkx 2 14 901 rfl (by decide)
  obtain ⟨b_4, hb_4, hb_4L, hb_4k, hb_4n, hb_4o⟩ := shp_a (W9 x hLx) hkx 3 14 901 rfl (by decide)
  obtain ⟨b_5, hb_5, hb_5L, hb_5k, hb_5n, hb_5o⟩ := shp_a (W9 x hLx) hkx 4 15 901 rfl (by decide)
  have etqx : ∀ I J, TPf R I J x = TPq I J x b_1 b_2 b_3 b_4 b_5 := fun I J => by simp only [TPf, rr_, Option.getD_some, hb_1, hb_2, hb_3, hb_4, hb_5]
  have wtqx : tqw_ L κ ow x b_1 b_2 b_3 b_4 b_5 := ⟨⟨hLx, hb_1L, hb_2L, hb_3L, hb_4L, hb_5L⟩, ⟨(ro_o hkx (by decide)), (ro_a hb_1k (by decide) hb_1o hkx rfl), (ro_a hb_2k (by decide) hb_2o hkx rfl), (ro_a hb_3k (by decide) hb_3o hkx rfl), (ro_a hb_4k (by decide) hb_4o hkx rfl), (ro_a hb_5k (by decide) hb_5o hkx rfl)⟩⟩
  obtain ⟨s_6, hs_6⟩ : ∃ z, TPq I J x b_1 b_2 b_3 b_4 b_5 = z := ⟨_, rfl⟩
  refine g_lo (is := [0, 1]) (lo2 := [(0, .ref x), (1, .int a0)]) rfl ?_
  refine g_aload_n C 0 dX10_takeName_0 rfl rfl ?_
  obtain ⟨x_7, hx_7, rx_7⟩ := ex_get (I := I) (a := x) (j := 8) (lo := (-2147483648)) (hi := 2147483647) hU.1 hLx (ro_o hkx (by decide)) rfl
  have f_8 : s_6.token = x_7 := (congrArg TP_.token hs_6).symm.trans hx_7
  refine g_getI C K hLx hkx f_10_39 (v := x_7) hx_7 dX10_takeName_1 ?_
  refine g_bipush C (v := 100) dX10_takeName_4 (by decide) ?_
  refine g_icmp_eq C (tgt := 17) dX10_takeName_6 (by decide) (fun h_9 => ?_) (fun h_9 => ?_)
  · skip
    have r_10 := (⟨(eq_rg (h_9) rc_100).1, (eq_rg (h_9) rc_100).2⟩ : Rg 100 100 x_7)
    refine g_iload_n C 1 dX10_takeName_17 rfl rfl ?_
    refine g_iconst C (v := (-1)) dX10_takeName_18 (by decide) ?_
    refine g_icmp_ne C (tgt := 30) dX10_takeName_19 (by decide) (fun h_11 => ?_) (fun h_11 => ?_)
    · skip
      have n_12 : ¬ a0 = (-1) := h_11
      have r_13 := ne_lo (lo := 0) n_12 ra0 rc_m1 rfl (by decide)
      refine g_aload_n C 0 dX10_takeName_30 rfl rfl ?_
      refine g_callVV C K (c_X10_advance W9 hLx hkx   hU) hLx hkx (by decide) rfl v_10_84 rfl ⟨rfl, rfl⟩ ⟨Nat.le_of_ble_eq_true rfl, Nat.le_of_ble_eq_true rfl⟩ (Nat.le_of_ble_eq_true rfl) ⟨Nat.le_of_ble_eq_true rfl, Nat.le_of_ble_eq_true rfl⟩ dX10_takeName_31 rfl (st := []) (fun I_15 J_16 h_17 => ?_)
      obtain ⟨hUI_15, hFI_15, hGJ_16, fx_14⟩ := h_17
      have hF_18 := fq_tr hF hFI_15 (by decide)
      have hG_19 := fq_tr hG hGJ_16 (by decide)
      obtain ⟨s_21, hs_21⟩ : ∃ z, TPq I_15 J_16 x b_1 b_2 b_3 b_4 b_5 = z := ⟨_, rfl⟩
      have c_20 : fAdvance (s_6) = s_21 := by have q := fx_14; simp only [etqx, hs_6, hs_21] at q; exact q.symm
      refine g_iload_n C 1 dX10_takeName_34 rfl rfl ?_
      exact g_zret (ty := .int) (r := a0) B K rfl (rfl) ⟨hUI_15, hF_18, hG_19, rg_w r_13 (by decide) (by decide), (by simp only [fTakeName, etqx, hs_21, hs_6, hx_7, f_8, (eq_true h_9), h_11, c_20, if_true, if_false, tqM_by_, tqM_wd, tqM_tk, tqM_pl, tqM_vl, tqM_len, tqM_n, tqM_at_, tqM_token, tqM_place, tqM_value, tqM_fault, tqM_fat, TP_.w_by_, TP_.w_wd, TP_.w_tk, TP_.w_pl, TP_.w_vl, TP_.w_len, TP_.w_n, TP_.w_at_, TP_.w_token, TP_.w_place, TP_.w_value, TP_.w_fault, TP_.w_fat]), (Or.inr rfl)⟩ dX10_takeName_35
    · skip
      have r_22 := (⟨(ra0).1, (eq_rg (h_11) rc_m1).2⟩ : Rg (-1) (-1) a0)
      refine g_aload_n C 0 dX10_takeName_22 rfl rfl ?_
      refine g_iconst C (v := 3) dX10_takeName_23 (by decide) ?_
      refine g_callVI C K (c_X10_fail W9 hLx hkx 3 (rg_w rc_3 (by decide) (by decide)) hU) hLx hkx (by decide) rfl v_10_101 rfl ⟨rfl, rfl⟩ ⟨Nat.le_of_ble_eq_true rfl, Nat.le_of_ble_eq_true rfl⟩ (Nat.le_of_ble_eq_true rfl) ⟨Nat.le_of_ble_eq_true rfl, Nat.le_of_ble_eq_true rfl⟩ dX10_takeName_24 rfl (st := []) (fun x_23 I_24 J_25 h_26 => ?_)
      obtain ⟨hUI_24, hFI_24, hGJ_25, rx_23, fx_23⟩ := h_26
      have hF_27 := fq_tr hF hFI_24 (by decide)
      have hG_28 := fq_tr hG hGJ_25 (by decide)
      obtain ⟨s_30, hs_30⟩ : ∃ z, TPq I_24 J_25 x b_1 b_2 b_3 b_4 b_5 = z := ⟨_, rfl⟩
      have c_29 : fFail (3) (s_6) = (x_23, s_30) := by have q := fx_23; simp only [etqx, hs_6, hs_30] at q; exact q.symm
      refine g_pop C dX10_takeName_27 rfl ?_
      refine g_iconst C (v := (-1)) dX10_takeName_28 (by decide) ?_
      exact g_zret (ty := .int) (r := (-1)) B K rfl (rfl) ⟨hUI_24, hF_27, hG_28, rg_w rc_m1 (by decide) (by decide), (by simp only [fTakeName, etqx, hs_30, hs_6, hx_7, f_8, (eq_true h_9), (eq_true h_11), c_29, if_true, if_false, tqM_by_, tqM_wd, tqM_tk, tqM_pl, tqM_vl, tqM_len, tqM_n, tqM_at_, tqM_token, tqM_place, tqM_value, tqM_fault, tqM_fat, TP_.w_by_, TP_.w_wd, TP_.w_tk, TP_.w_pl, TP_.w_vl, TP_.w_len, TP_.w_n, TP_.w_at_, TP_.w_token, TP_.w_place, TP_.w_value, TP_.w_fault, TP_.w_fat]), (Or.inl rfl)⟩ dX10_takeName_29
  · skip
    have n_31 : ¬ x_7 = 100 := h_9
    refine g_aload_n C 0 dX10_takeName_9 rfl rfl ?_
    refine g_iconst C (v := 1) dX10_takeName_10 (by decide) ?_
    refine g_callVI C K (c_X10_fail W9 hLx hkx 1 (rg_w rc_1 (by decide) (by decide)) hU) hLx hkx (by decide) rfl v_10_101 rfl ⟨rfl, rfl⟩ ⟨Nat.le_of_ble_eq_true rfl, Nat.le_of_ble_eq_true rfl⟩ (Nat.le_of_ble_eq_true rfl) ⟨Nat.le_of_ble_eq_true rfl, Nat.le_of_ble_eq_true rfl⟩ dX10_takeName_11 rfl (st := []) (fun x_32 I_33 J_34 h_35 => ?_)
    obtain ⟨hUI_33, hFI_33, hGJ_34, rx_32, fx_32⟩ := h_35
    have hF_36 := fq_tr hF hFI_33 (by decide)
    have hG_37 := fq_tr hG hGJ_34 (by decide)
    obtain ⟨s_39, hs_39⟩ : ∃ z, TPq I_33 J_34 x b_1 b_2 b_3 b_4 b_5 = z := ⟨_, rfl⟩
    have c_38 : fFail (1) (s_6) = (x_32, s_39) := by have q := fx_32; simp only [etqx, hs_6, hs_39] at q; exact q.symm
    refine g_pop C dX10_takeName_14 rfl ?_
    refine g_iconst C (v := (-1)) dX10_takeName_15 (by decide) ?_
    exact g_zret (ty := .int) (r := (-1)) B K rfl (rfl) ⟨hUI_33, hF_36, hG_37, rg_w rc_m1 (by decide) (by decide), (by simp only [fTakeName, etqx, hs_39, hs_6, hx_7, f_8, h_9, c_38, if_true, if_false, tqM_by_, tqM_wd, tqM_tk, tqM_pl, tqM_vl, tqM_len, tqM_n, tqM_at_, tqM_token, tqM_place, tqM_value, tqM_fault, tqM_fat, TP_.w_by_, TP_.w_wd, TP_.w_tk, TP_.w_pl, TP_.w_vl, TP_.w_len, TP_.w_n, TP_.w_at_, TP_.w_token, TP_.w_place, TP_.w_value, TP_.w_fault, TP_.w_fat]), (Or.inl rfl)⟩ dX10_takeName_16
