theorem dX11_said_0 : decode cX11_said 0 = .ok (.aload_n 0, 1) := by decide +kernel
theorem dX11_said_1 : decode cX11_said 1 = .ok (.getfield 59, 3) := by decide +kernel
theorem dX11_said_4 : decode cX11_said 4 = .ok (.getfield 368, 3) := by decide +kernel
theorem dX11_said_7 : decode cX11_said 7 = .ok (.ifCond .ne 5, 3) := by decide +kernel
theorem dX11_said_10 : decode cX11_said 10 = .ok (.iconst (-1), 1) := by decide +kernel
theorem dX11_said_11 : decode cX11_said 11 = .ok (.ireturn, 1) := by decide +kernel
theorem dX11_said_12 : decode cX11_said 12 = .ok (.aload_n 0, 1) := by decide +kernel
theorem dX11_said_13 : decode cX11_said 13 = .ok (.getfield 59, 3) := by decide +kernel
theorem dX11_said_16 : decode cX11_said 16 = .ok (.aload_n 0, 1) := by decide +kernel
theorem dX11_said_17 : decode cX11_said 17 = .ok (.getfield 28, 3) := by decide +kernel
theorem dX11_said_20 : decode cX11_said 20 = .ok (.invokevirtual 371, 3) := by decide +kernel
theorem dX11_said_23 : decode cX11_said 23 = .ok (.istore_n 2, 1) := by decide +kernel
theorem dX11_said_24 : decode cX11_said 24 = .ok (.iload_n 1, 1) := by decide +kernel
theorem dX11_said_25 : decode cX11_said 25 = .ok (.iconst (-1), 1) := by decide +kernel
theorem dX11_said_26 : decode cX11_said 26 = .ok (.if_icmp .ne 8, 3) := by decide +kernel
theorem dX11_said_29 : decode cX11_said 29 = .ok (.iload_n 2, 1) := by decide +kernel
theorem dX11_said_30 : decode cX11_said 30 = .ok (.invokestatic 374, 3) := by decide +kernel
theorem dX11_said_33 : decode cX11_said 33 = .ok (.ireturn, 1) := by decide +kernel
theorem dX11_said_34 : decode cX11_said 34 = .ok (.iconst 0, 1) := by decide +kernel
theorem dX11_said_35 : decode cX11_said 35 = .ok (.istore_n 3, 1) := by decide +kernel
theorem dX11_said_36 : decode cX11_said 36 = .ok (.iconst 0, 1) := by decide +kernel
theorem dX11_said_37 : decode cX11_said 37 = .ok (.istore 4, 2) := by decide +kernel
theorem dX11_said_39 : decode cX11_said 39 = .ok (.iload 4, 2) := by decide +kernel
theorem dX11_said_41 : decode cX11_said 41 = .ok (.aload_n 0, 1) := by decide +kernel
theorem dX11_said_42 : decode cX11_said 42 = .ok (.getfield 19, 3) := by decide +kernel
theorem dX11_said_45 : decode cX11_said 45 = .ok (.getfield 213, 3) := by decide +kernel
theorem dX11_said_48 : decode cX11_said 48 = .ok (.if_icmp .ge 29, 3) := by decide +kernel
theorem dX11_said_51 : decode cX11_said 51 = .ok (.iload_n 2, 1) := by decide +kernel
theorem dX11_said_52 : decode cX11_said 52 = .ok (.iload 4, 2) := by decide +kernel
theorem dX11_said_54 : decode cX11_said 54 = .ok (.ishr, 1) := by decide +kernel
theorem dX11_said_55 : decode cX11_said 55 = .ok (.iconst 1, 1) := by decide +kernel
theorem dX11_said_56 : decode cX11_said 56 = .ok (.iand, 1) := by decide +kernel
theorem dX11_said_57 : decode cX11_said 57 = .ok (.ifCond .eq 14, 3) := by decide +kernel
theorem dX11_said_60 : decode cX11_said 60 = .ok (.iload_n 3, 1) := by decide +kernel
theorem dX11_said_61 : decode cX11_said 61 = .ok (.iload_n 1, 1) := by decide +kernel
theorem dX11_said_62 : decode cX11_said 62 = .ok (.if_icmp .ne 6, 3) := by decide +kernel
theorem dX11_said_65 : decode cX11_said 65 = .ok (.iload 4, 2) := by decide +kernel
theorem dX11_said_67 : decode cX11_said 67 = .ok (.ireturn, 1) := by decide +kernel
theorem dX11_said_68 : decode cX11_said 68 = .ok (.iinc 3 1, 3) := by decide +kernel
theorem dX11_said_71 : decode cX11_said 71 = .ok (.iinc 4 1, 3) := by decide +kernel
theorem dX11_said_74 : decode cX11_said 74 = .ok (.goto (-35), 3) := by decide +kernel
theorem dX11_said_77 : decode cX11_said 77 = .ok (.iconst (-1), 1) := by decide +kernel
theorem dX11_said_78 : decode cX11_said 78 = .ok (.ireturn, 1) := by decide +kernel
theorem dX11_sentence_0 : decode cX11_sentence 0 = .ok (.aload_n 0, 1) := by decide +kernel
theorem dX11_sentence_1 : decode cX11_sentence 1 = .ok (.getfield 63, 3) := by decide +kernel
theorem dX11_sentence_4 : decode cX11_sentence 4 = .ok (.aload_n 0, 1) := by decide +kernel
theorem dX11_sentence_5 : decode cX11_sentence 5 = .ok (.getfield 10, 3) := by decide +kernel
theorem dX11_sentence_8 : decode cX11_sentence 8 = .ok (.aload_n 0, 1) := by decide +kernel
theorem dX11_sentence_9 : decode cX11_sentence 9 = .ok (.getfield 19, 3) := by decide +kernel
theorem dX11_sentence_12 : decode cX11_sentence 12 = .ok (.invokevirtual 362, 3) := by decide +kernel
theorem dX11_sentence_15 : decode cX11_sentence 15 = .ok (.pop, 1) := by decide +kernel
theorem dX11_sentence_16 : decode cX11_sentence 16 = .ok (.aload_n 0, 1) := by decide +kernel
theorem dX11_sentence_17 : decode cX11_sentence 17 = .ok (.getfield 10, 3) := by decide +kernel
theorem dX11_sentence_20 : decode cX11_sentence 20 = .ok (.iconst 0, 1) := by decide +kernel
theorem dX11_sentence_21 : decode cX11_sentence 21 = .ok (.putfield 102, 3) := by decide +kernel
theorem dX11_sentence_24 : decode cX11_sentence 24 = .ok (.aload_n 0, 1) := by decide +kernel
theorem dX11_sentence_25 : decode cX11_sentence 25 = .ok (.getfield 10, 3) := by decide +kernel
theorem dX11_sentence_28 : decode cX11_sentence 28 = .ok (.getfield 113, 3) := by decide +kernel
theorem dX11_sentence_31 : decode cX11_sentence 31 = .ok (.ifCond .eq 13, 3) := by decide +kernel
theorem dX11_sentence_34 : decode cX11_sentence 34 = .ok (.iconst (-1), 1) := by decide +kernel
theorem dX11_sentence_35 : decode cX11_sentence 35 = .ok (.aload_n 0, 1) := by decide +kernel
theorem dX11_sentence_36 : decode cX11_sentence 36 = .ok (.getfield 10, 3) := by decide +kernel
theorem dX11_sentence_39 : decode cX11_sentence 39 = .ok (.getfield 116, 3) := by decide +kernel
theorem dX11_sentence_42 : decode cX11_sentence 42 = .ok (.isub, 1) := by decide +kernel
theorem dX11_sentence_43 : decode cX11_sentence 43 = .ok (.ireturn, 1) := by decide +kernel
theorem dX11_sentence_44 : decode cX11_sentence 44 = .ok (.aload_n 0, 1) := by decide +kernel
theorem dX11_sentence_45 : decode cX11_sentence 45 = .ok (.getfield 59, 3) := by decide +kernel
theorem dX11_sentence_48 : decode cX11_sentence 48 = .ok (.aload_n 0, 1) := by decide +kernel
theorem dX11_sentence_49 : decode cX11_sentence 49 = .ok (.getfield 63, 3) := by decide +kernel
theorem dX11_sentence_52 : decode cX11_sentence 52 = .ok (.invokevirtual 365, 3) := by decide +kernel
theorem dX11_sentence_55 : decode cX11_sentence 55 = .ok (.aload_n 0, 1) := by decide +kernel
theorem dX11_sentence_56 : decode cX11_sentence 56 = .ok (.getfield 59, 3) := by decide +kernel
theorem dX11_sentence_59 : decode cX11_sentence 59 = .ok (.getfield 368, 3) := by decide +kernel
theorem dX11_sentence_62 : decode cX11_sentence 62 = .ok (.ireturn, 1) := by decide +kernel
theorem dX7_compares_0 : decode cX7_compares 0 = .ok (.aload_n 0, 1) := by decide +kernel
theorem dX7_compares_1 : decode cX7_compares 1 = .ok (.getfield 15, 3) := by decide +kernel
theorem dX7_compares_4 : decode cX7_compares 4 = .ok (.iload_n 2, 1) := by decide +kernel
theorem dX7_compares_5 : decode cX7_compares 5 = .ok (.iaload, 1) := by decide +kernel
theorem dX7_compares_6 : decode cX7_compares 6 = .ok (.lookupswitch 58 #[(60, 26), (62, 42)], 26) := by decide +kernel
theorem dX7_compares_32 : decode cX7_compares 32 = .ok (.iload_n 1, 1) := by decide +kernel
theorem dX7_compares_33 : decode cX7_compares 33 = .ok (.aload_n 0, 1) := by decide +kernel
theorem dX7_compares_34 : decode cX7_compares 34 = .ok (.getfield 18, 3) := by decide +kernel
theorem dX7_compares_37 : decode cX7_compares 37 = .ok (.iload_n 2, 1) := by decide +kernel
theorem dX7_compares_38 : decode cX7_compares 38 = .ok (.iaload, 1) := by decide +kernel
theorem dX7_compares_39 : decode cX7_compares 39 = .ok (.if_icmp .ge 7, 3) := by decide +kernel
theorem dX7_compares_42 : decode cX7_compares 42 = .ok (.iconst 1, 1) := by decide +kernel
theorem dX7_compares_43 : decode cX7_compares 43 = .ok (.goto 4, 3) := by decide +kernel
theorem dX7_compares_46 : decode cX7_compares 46 = .ok (.iconst 0, 1) := by decide +kernel
theorem dX7_compares_47 : decode cX7_compares 47 = .ok (.ireturn, 1) := by decide +kernel
theorem dX7_compares_48 : decode cX7_compares 48 = .ok (.iload_n 1, 1) := by decide +kernel
theorem dX7_compares_49 : decode cX7_compares 49 = .ok (.aload_n 0, 1) := by decide +kernel
theorem dX7_compares_50 : decode cX7_compares 50 = .ok (.getfield 18, 3) := by decide +kernel
theorem dX7_compares_53 : decode cX7_compares 53 = .ok (.iload_n 2, 1) := by decide +kernel
theorem dX7_compares_54 : decode cX7_compares 54 = .ok (.iaload, 1) := by decide +kernel
theorem dX7_compares_55 : decode cX7_compares 55 = .ok (.if_icmp .le 7, 3) := by decide +kernel
theorem dX7_compares_58 : decode cX7_compares 58 = .ok (.iconst 1, 1) := by decide +kernel
theorem dX7_compares_59 : decode cX7_compares 59 = .ok (.goto 4, 3) := by decide +kernel
theorem dX7_compares_62 : decode cX7_compares 62 = .ok (.iconst 0, 1) := by decide +kernel
theorem dX7_compares_63 : decode cX7_compares 63 = .ok (.ireturn, 1) := by decide +kernel
theorem dX7_compares_64 : decode cX7_compares 64 = .ok (.iload_n 1, 1) := by decide +kernel
theorem dX7_compares_65 : decode cX7_compares 65 = .ok (.aload_n 0, 1) := by decide +kernel
theorem dX7_compares_66 : decode cX7_compares 66 = .ok (.getfield 18, 3) := by decide +kernel
theorem dX7_compares_69 : decode cX7_compares 69 = .ok (.iload_n 2, 1) := by decide +kernel
theorem dX7_compares_70 : decode cX7_compares 70 = .ok (.iaload, 1) := by decide +kernel
theorem dX7_compares_71 : decode cX7_compares 71 = .ok (.if_icmp .ne 7, 3) := by decide +kernel
theorem dX7_compares_74 : decode cX7_compares 74 = .ok (.iconst 1, 1) := by decide +kernel
theorem dX7_compares_75 : decode cX7_compares 75 = .ok (.goto 4, 3) := by decide +kernel
theorem dX7_compares_78 : decode cX7_compares 78 = .ok (.iconst 0, 1) := by decide +kernel
theorem dX7_compares_79 : decode cX7_compares 79 = .ok (.ireturn, 1) := by decide +kernel
theorem dX7_holds_0 : decode cX7_holds 0 = .ok (.aload_n 0, 1) := by decide +kernel
theorem dX7_holds_1 : decode cX7_holds 1 = .ok (.getfield 11, 3) := by decide +kernel
theorem dX7_holds_4 : decode cX7_holds 4 = .ok (.iload_n 2, 1) := by decide +kernel
theorem dX7_holds_5 : decode cX7_holds 5 = .ok (.iaload, 1) := by decide +kernel
theorem dX7_holds_6 : decode cX7_holds 6 = .ok (.tableswitch 231 5 26 #[148, 231, 231, 231, 231, 231, 231, 231, 231, 231, 231, 231, 231, 231, 231, 102, 116, 133, 172, 192, 207, 219], 102) := by decide +kernel
theorem dX7_holds_108 : decode cX7_holds 108 = .ok (.aload_n 1, 1) := by decide +kernel
theorem dX7_holds_109 : decode cX7_holds 109 = .ok (.iload_n 3, 1) := by decide +kernel
theorem dX7_holds_110 : decode cX7_holds 110 = .ok (.invokevirtual 121, 3) := by decide +kernel
theorem dX7_holds_113 : decode cX7_holds 113 = .ok (.ifCond .ne 7, 3) := by decide +kernel
theorem dX7_holds_116 : decode cX7_holds 116 = .ok (.iconst 1, 1) := by decide +kernel
theorem dX7_holds_117 : decode cX7_holds 117 = .ok (.goto 4, 3) := by decide +kernel
theorem dX7_holds_120 : decode cX7_holds 120 = .ok (.iconst 0, 1) := by decide +kernel
theorem dX7_holds_121 : decode cX7_holds 121 = .ok (.ireturn, 1) := by decide +kernel
theorem dX7_holds_122 : decode cX7_holds 122 = .ok (.aload_n 1, 1) := by decide +kernel
theorem dX7_holds_123 : decode cX7_holds 123 = .ok (.getfield 124, 3) := by decide +kernel
theorem dX7_holds_126 : decode cX7_holds 126 = .ok (.iload_n 3, 1) := by decide +kernel
theorem dX7_holds_127 : decode cX7_holds 127 = .ok (.ishr, 1) := by decide +kernel
theorem dX7_holds_128 : decode cX7_holds 128 = .ok (.iconst 1, 1) := by decide +kernel
theorem dX7_holds_129 : decode cX7_holds 129 = .ok (.iand, 1) := by decide +kernel
theorem dX7_holds_130 : decode cX7_holds 130 = .ok (.ifCond .eq 7, 3) := by decide +kernel
theorem dX7_holds_133 : decode cX7_holds 133 = .ok (.iconst 1, 1) := by decide +kernel
theorem dX7_holds_134 : decode cX7_holds 134 = .ok (.goto 4, 3) := by decide +kernel
theorem dX7_holds_137 : decode cX7_holds 137 = .ok (.iconst 0, 1) := by decide +kernel
theorem dX7_holds_138 : decode cX7_holds 138 = .ok (.ireturn, 1) := by decide +kernel
theorem dX7_holds_139 : decode cX7_holds 139 = .ok (.aload_n 1, 1) := by decide +kernel
theorem dX7_holds_140 : decode cX7_holds 140 = .ok (.getfield 127, 3) := by decide +kernel
theorem dX7_holds_143 : decode cX7_holds 143 = .ok (.iload_n 3, 1) := by decide +kernel
theorem dX7_holds_144 : decode cX7_holds 144 = .ok (.iaload, 1) := by decide +kernel
theorem dX7_holds_145 : decode cX7_holds 145 = .ok (.ifCond .ne 7, 3) := by decide +kernel
theorem dX7_holds_148 : decode cX7_holds 148 = .ok (.iconst 1, 1) := by decide +kernel
theorem dX7_holds_149 : decode cX7_holds 149 = .ok (.goto 4, 3) := by decide +kernel
theorem dX7_holds_152 : decode cX7_holds 152 = .ok (.iconst 0, 1) := by decide +kernel
theorem dX7_holds_153 : decode cX7_holds 153 = .ok (.ireturn, 1) := by decide +kernel
theorem dX7_holds_154 : decode cX7_holds 154 = .ok (.aload_n 1, 1) := by decide +kernel
theorem dX7_holds_155 : decode cX7_holds 155 = .ok (.getfield 100, 3) := by decide +kernel
theorem dX7_holds_158 : decode cX7_holds 158 = .ok (.getfield 130, 3) := by decide +kernel
theorem dX7_holds_161 : decode cX7_holds 161 = .ok (.iload_n 3, 1) := by decide +kernel
theorem dX7_holds_162 : decode cX7_holds 162 = .ok (.iaload, 1) := by decide +kernel
theorem dX7_holds_163 : decode cX7_holds 163 = .ok (.aload_n 0, 1) := by decide +kernel
theorem dX7_holds_164 : decode cX7_holds 164 = .ok (.getfield 18, 3) := by decide +kernel
theorem dX7_holds_167 : decode cX7_holds 167 = .ok (.iload_n 2, 1) := by decide +kernel
theorem dX7_holds_168 : decode cX7_holds 168 = .ok (.iaload, 1) := by decide +kernel
theorem dX7_holds_169 : decode cX7_holds 169 = .ok (.if_icmp .ne 7, 3) := by decide +kernel
theorem dX7_holds_172 : decode cX7_holds 172 = .ok (.iconst 1, 1) := by decide +kernel
theorem dX7_holds_173 : decode cX7_holds 173 = .ok (.goto 4, 3) := by decide +kernel
theorem dX7_holds_176 : decode cX7_holds 176 = .ok (.iconst 0, 1) := by decide +kernel
theorem dX7_holds_177 : decode cX7_holds 177 = .ok (.ireturn, 1) := by decide +kernel
theorem dX7_holds_178 : decode cX7_holds 178 = .ok (.aload_n 1, 1) := by decide +kernel
theorem dX7_holds_179 : decode cX7_holds 179 = .ok (.iload_n 3, 1) := by decide +kernel
theorem dX7_holds_180 : decode cX7_holds 180 = .ok (.aload_n 0, 1) := by decide +kernel
theorem dX7_holds_181 : decode cX7_holds 181 = .ok (.getfield 18, 3) := by decide +kernel
theorem dX7_holds_184 : decode cX7_holds 184 = .ok (.iload_n 2, 1) := by decide +kernel
theorem dX7_holds_185 : decode cX7_holds 185 = .ok (.iaload, 1) := by decide +kernel
theorem dX7_holds_186 : decode cX7_holds 186 = .ok (.invokevirtual 133, 3) := by decide +kernel
theorem dX7_holds_189 : decode cX7_holds 189 = .ok (.ifCond .le 7, 3) := by decide +kernel
theorem dX7_holds_192 : decode cX7_holds 192 = .ok (.iconst 1, 1) := by decide +kernel
theorem dX7_holds_193 : decode cX7_holds 193 = .ok (.goto 4, 3) := by decide +kernel
theorem dX7_holds_196 : decode cX7_holds 196 = .ok (.iconst 0, 1) := by decide +kernel
theorem dX7_holds_197 : decode cX7_holds 197 = .ok (.ireturn, 1) := by decide +kernel
theorem dX7_holds_198 : decode cX7_holds 198 = .ok (.aload_n 0, 1) := by decide +kernel
theorem dX7_holds_199 : decode cX7_holds 199 = .ok (.aload_n 1, 1) := by decide +kernel
theorem dX7_holds_200 : decode cX7_holds 200 = .ok (.getfield 100, 3) := by decide +kernel
theorem dX7_holds_203 : decode cX7_holds 203 = .ok (.getfield 136, 3) := by decide +kernel
theorem dX7_holds_206 : decode cX7_holds 206 = .ok (.iload_n 3, 1) := by decide +kernel
theorem dX7_holds_207 : decode cX7_holds 207 = .ok (.iaload, 1) := by decide +kernel
theorem dX7_holds_208 : decode cX7_holds 208 = .ok (.iload_n 2, 1) := by decide +kernel
theorem dX7_holds_209 : decode cX7_holds 209 = .ok (.invokevirtual 139, 3) := by decide +kernel
theorem dX7_holds_212 : decode cX7_holds 212 = .ok (.ireturn, 1) := by decide +kernel
theorem dX7_holds_213 : decode cX7_holds 213 = .ok (.aload_n 0, 1) := by decide +kernel
theorem dX7_holds_214 : decode cX7_holds 214 = .ok (.aload_n 1, 1) := by decide +kernel
theorem dX7_holds_215 : decode cX7_holds 215 = .ok (.getfield 143, 3) := by decide +kernel
theorem dX7_holds_218 : decode cX7_holds 218 = .ok (.iload_n 3, 1) := by decide +kernel
theorem dX7_holds_219 : decode cX7_holds 219 = .ok (.iaload, 1) := by decide +kernel
theorem dX7_holds_220 : decode cX7_holds 220 = .ok (.iload_n 2, 1) := by decide +kernel
theorem dX7_holds_221 : decode cX7_holds 221 = .ok (.invokevirtual 139, 3) := by decide +kernel
theorem dX7_holds_224 : decode cX7_holds 224 = .ok (.ireturn, 1) := by decide +kernel
theorem dX7_holds_225 : decode cX7_holds 225 = .ok (.aload_n 0, 1) := by decide +kernel
theorem dX7_holds_226 : decode cX7_holds 226 = .ok (.aload_n 1, 1) := by decide +kernel
theorem dX7_holds_227 : decode cX7_holds 227 = .ok (.getfield 146, 3) := by decide +kernel
theorem dX7_holds_230 : decode cX7_holds 230 = .ok (.iload_n 3, 1) := by decide +kernel
theorem dX7_holds_231 : decode cX7_holds 231 = .ok (.iaload, 1) := by decide +kernel
theorem dX7_holds_232 : decode cX7_holds 232 = .ok (.iload_n 2, 1) := by decide +kernel
theorem dX7_holds_233 : decode cX7_holds 233 = .ok (.invokevirtual 139, 3) := by decide +kernel
theorem dX7_holds_236 : decode cX7_holds 236 = .ok (.ireturn, 1) := by decide +kernel
theorem dX7_holds_237 : decode cX7_holds 237 = .ok (.aload_n 0, 1) := by decide +kernel
theorem dX7_holds_238 : decode cX7_holds 238 = .ok (.iload_n 3, 1) := by decide +kernel
theorem dX7_holds_239 : decode cX7_holds 239 = .ok (.iload_n 2, 1) := by decide +kernel
theorem dX7_holds_240 : decode cX7_holds 240 = .ok (.invokevirtual 139, 3) := by decide +kernel
theorem dX7_holds_243 : decode cX7_holds 243 = .ok (.ireturn, 1) := by decide +kernel
theorem dX7_personsIn_0 : decode cX7_personsIn 0 = .ok (.aload_n 1, 1) := by decide +kernel
theorem dX7_personsIn_1 : decode cX7_personsIn 1 = .ok (.getfield 100, 3) := by decide +kernel
theorem dX7_personsIn_4 : decode cX7_personsIn 4 = .ok (.invokevirtual 106, 3) := by decide +kernel
theorem dX7_personsIn_7 : decode cX7_personsIn 7 = .ok (.istore_n 2, 1) := by decide +kernel
theorem dX7_personsIn_8 : decode cX7_personsIn 8 = .ok (.iconst (-1), 1) := by decide +kernel
theorem dX7_personsIn_9 : decode cX7_personsIn 9 = .ok (.istore_n 3, 1) := by decide +kernel
theorem dX7_personsIn_10 : decode cX7_personsIn 10 = .ok (.iconst 0, 1) := by decide +kernel
theorem dX7_personsIn_11 : decode cX7_personsIn 11 = .ok (.istore 4, 2) := by decide +kernel
theorem dX7_personsIn_13 : decode cX7_personsIn 13 = .ok (.iload 4, 2) := by decide +kernel
theorem dX7_personsIn_15 : decode cX7_personsIn 15 = .ok (.aload_n 0, 1) := by decide +kernel
theorem dX7_personsIn_16 : decode cX7_personsIn 16 = .ok (.getfield 24, 3) := by decide +kernel
theorem dX7_personsIn_19 : decode cX7_personsIn 19 = .ok (.if_icmp .ge 142, 3) := by decide +kernel
theorem dX7_personsIn_22 : decode cX7_personsIn 22 = .ok (.aload_n 0, 1) := by decide +kernel
theorem dX7_personsIn_23 : decode cX7_personsIn 23 = .ok (.getfield 11, 3) := by decide +kernel
theorem dX7_personsIn_26 : decode cX7_personsIn 26 = .ok (.iload 4, 2) := by decide +kernel
theorem dX7_personsIn_28 : decode cX7_personsIn 28 = .ok (.iaload, 1) := by decide +kernel
theorem dX7_personsIn_29 : decode cX7_personsIn 29 = .ok (.istore 5, 2) := by decide +kernel
theorem dX7_personsIn_31 : decode cX7_personsIn 31 = .ok (.iload 5, 2) := by decide +kernel
theorem dX7_personsIn_33 : decode cX7_personsIn 33 = .ok (.bipush 19, 2) := by decide +kernel
theorem dX7_personsIn_35 : decode cX7_personsIn 35 = .ok (.if_icmp .ne 26, 3) := by decide +kernel
theorem dX7_personsIn_38 : decode cX7_personsIn 38 = .ok (.iload_n 3, 1) := by decide +kernel
theorem dX7_personsIn_39 : decode cX7_personsIn 39 = .ok (.ifCond .lt 22, 3) := by decide +kernel
theorem dX7_personsIn_42 : decode cX7_personsIn 42 = .ok (.aload_n 0, 1) := by decide +kernel
theorem dX7_personsIn_43 : decode cX7_personsIn 43 = .ok (.getfield 21, 3) := by decide +kernel
theorem dX7_personsIn_46 : decode cX7_personsIn 46 = .ok (.iload_n 3, 1) := by decide +kernel
theorem dX7_personsIn_47 : decode cX7_personsIn 47 = .ok (.iload_n 2, 1) := by decide +kernel
theorem dX7_personsIn_48 : decode cX7_personsIn 48 = .ok (.aload_n 0, 1) := by decide +kernel
theorem dX7_personsIn_49 : decode cX7_personsIn 49 = .ok (.getfield 21, 3) := by decide +kernel
theorem dX7_personsIn_52 : decode cX7_personsIn 52 = .ok (.iload_n 3, 1) := by decide +kernel
theorem dX7_personsIn_53 : decode cX7_personsIn 53 = .ok (.iaload, 1) := by decide +kernel
theorem dX7_personsIn_54 : decode cX7_personsIn 54 = .ok (.iconst (-1), 1) := by decide +kernel
theorem dX7_personsIn_55 : decode cX7_personsIn 55 = .ok (.ixor, 1) := by decide +kernel
theorem dX7_personsIn_56 : decode cX7_personsIn 56 = .ok (.iand, 1) := by decide +kernel
theorem dX7_personsIn_57 : decode cX7_personsIn 57 = .ok (.iastore, 1) := by decide +kernel
theorem dX7_personsIn_58 : decode cX7_personsIn 58 = .ok (.goto 97, 3) := by decide +kernel
theorem dX7_personsIn_61 : decode cX7_personsIn 61 = .ok (.iload 5, 2) := by decide +kernel
theorem dX7_personsIn_63 : decode cX7_personsIn 63 = .ok (.bipush 17, 2) := by decide +kernel
theorem dX7_personsIn_65 : decode cX7_personsIn 65 = .ok (.if_icmp .ne 31, 3) := by decide +kernel
theorem dX7_personsIn_68 : decode cX7_personsIn 68 = .ok (.iload_n 3, 1) := by decide +kernel
theorem dX7_personsIn_69 : decode cX7_personsIn 69 = .ok (.iconst 1, 1) := by decide +kernel
theorem dX7_personsIn_70 : decode cX7_personsIn 70 = .ok (.if_icmp .lt 26, 3) := by decide +kernel
theorem dX7_personsIn_73 : decode cX7_personsIn 73 = .ok (.iinc 3 (-1), 3) := by decide +kernel
theorem dX7_personsIn_76 : decode cX7_personsIn 76 = .ok (.aload_n 0, 1) := by decide +kernel
theorem dX7_personsIn_77 : decode cX7_personsIn 77 = .ok (.getfield 21, 3) := by decide +kernel
theorem dX7_personsIn_80 : decode cX7_personsIn 80 = .ok (.iload_n 3, 1) := by decide +kernel
theorem dX7_personsIn_81 : decode cX7_personsIn 81 = .ok (.dup2, 1) := by decide +kernel
theorem dX7_personsIn_82 : decode cX7_personsIn 82 = .ok (.iaload, 1) := by decide +kernel
theorem dX7_personsIn_83 : decode cX7_personsIn 83 = .ok (.aload_n 0, 1) := by decide +kernel
theorem dX7_personsIn_84 : decode cX7_personsIn 84 = .ok (.getfield 21, 3) := by decide +kernel
theorem dX7_personsIn_87 : decode cX7_personsIn 87 = .ok (.iload_n 3, 1) := by decide +kernel
theorem dX7_personsIn_88 : decode cX7_personsIn 88 = .ok (.iconst 1, 1) := by decide +kernel
theorem dX7_personsIn_89 : decode cX7_personsIn 89 = .ok (.iadd, 1) := by decide +kernel
theorem dX7_personsIn_90 : decode cX7_personsIn 90 = .ok (.iaload, 1) := by decide +kernel
theorem dX7_personsIn_91 : decode cX7_personsIn 91 = .ok (.ior, 1) := by decide +kernel
theorem dX7_personsIn_92 : decode cX7_personsIn 92 = .ok (.iastore, 1) := by decide +kernel
theorem dX7_personsIn_93 : decode cX7_personsIn 93 = .ok (.goto 62, 3) := by decide +kernel
theorem dX7_personsIn_96 : decode cX7_personsIn 96 = .ok (.iload 5, 2) := by decide +kernel
theorem dX7_personsIn_98 : decode cX7_personsIn 98 = .ok (.bipush 18, 2) := by decide +kernel
theorem dX7_personsIn_100 : decode cX7_personsIn 100 = .ok (.if_icmp .ne 31, 3) := by decide +kernel
theorem dX7_personsIn_103 : decode cX7_personsIn 103 = .ok (.iload_n 3, 1) := by decide +kernel
theorem dX7_personsIn_104 : decode cX7_personsIn 104 = .ok (.iconst 1, 1) := by decide +kernel
theorem dX7_personsIn_105 : decode cX7_personsIn 105 = .ok (.if_icmp .lt 26, 3) := by decide +kernel
theorem dX7_personsIn_108 : decode cX7_personsIn 108 = .ok (.iinc 3 (-1), 3) := by decide +kernel
theorem dX7_personsIn_111 : decode cX7_personsIn 111 = .ok (.aload_n 0, 1) := by decide +kernel
theorem dX7_personsIn_112 : decode cX7_personsIn 112 = .ok (.getfield 21, 3) := by decide +kernel
theorem dX7_personsIn_115 : decode cX7_personsIn 115 = .ok (.iload_n 3, 1) := by decide +kernel
theorem dX7_personsIn_116 : decode cX7_personsIn 116 = .ok (.dup2, 1) := by decide +kernel
theorem dX7_personsIn_117 : decode cX7_personsIn 117 = .ok (.iaload, 1) := by decide +kernel
theorem dX7_personsIn_118 : decode cX7_personsIn 118 = .ok (.aload_n 0, 1) := by decide +kernel
theorem dX7_personsIn_119 : decode cX7_personsIn 119 = .ok (.getfield 21, 3) := by decide +kernel
theorem dX7_personsIn_122 : decode cX7_personsIn 122 = .ok (.iload_n 3, 1) := by decide +kernel
theorem dX7_personsIn_123 : decode cX7_personsIn 123 = .ok (.iconst 1, 1) := by decide +kernel
theorem dX7_personsIn_124 : decode cX7_personsIn 124 = .ok (.iadd, 1) := by decide +kernel
theorem dX7_personsIn_125 : decode cX7_personsIn 125 = .ok (.iaload, 1) := by decide +kernel
theorem dX7_personsIn_126 : decode cX7_personsIn 126 = .ok (.iand, 1) := by decide +kernel
theorem dX7_personsIn_127 : decode cX7_personsIn 127 = .ok (.iastore, 1) := by decide +kernel
theorem dX7_personsIn_128 : decode cX7_personsIn 128 = .ok (.goto 27, 3) := by decide +kernel
theorem dX7_personsIn_131 : decode cX7_personsIn 131 = .ok (.iload_n 3, 1) := by decide +kernel
theorem dX7_personsIn_132 : decode cX7_personsIn 132 = .ok (.iconst 1, 1) := by decide +kernel
theorem dX7_personsIn_133 : decode cX7_personsIn 133 = .ok (.iadd, 1) := by decide +kernel
theorem dX7_personsIn_134 : decode cX7_personsIn 134 = .ok (.bipush 40, 2) := by decide +kernel
theorem dX7_personsIn_136 : decode cX7_personsIn 136 = .ok (.if_icmp .ge 19, 3) := by decide +kernel
theorem dX7_personsIn_139 : decode cX7_personsIn 139 = .ok (.iinc 3 1, 3) := by decide +kernel
theorem dX7_personsIn_142 : decode cX7_personsIn 142 = .ok (.aload_n 0, 1) := by decide +kernel
theorem dX7_personsIn_143 : decode cX7_personsIn 143 = .ok (.getfield 21, 3) := by decide +kernel
theorem dX7_personsIn_146 : decode cX7_personsIn 146 = .ok (.iload_n 3, 1) := by decide +kernel
theorem dX7_personsIn_147 : decode cX7_personsIn 147 = .ok (.aload_n 0, 1) := by decide +kernel
theorem dX7_personsIn_148 : decode cX7_personsIn 148 = .ok (.aload_n 1, 1) := by decide +kernel
theorem dX7_personsIn_149 : decode cX7_personsIn 149 = .ok (.iload 4, 2) := by decide +kernel
theorem dX7_personsIn_151 : decode cX7_personsIn 151 = .ok (.invokevirtual 110, 3) := by decide +kernel
theorem dX7_personsIn_154 : decode cX7_personsIn 154 = .ok (.iastore, 1) := by decide +kernel
theorem dX7_personsIn_155 : decode cX7_personsIn 155 = .ok (.iinc 4 1, 3) := by decide +kernel
theorem dX7_personsIn_158 : decode cX7_personsIn 158 = .ok (.goto (-145), 3) := by decide +kernel
theorem dX7_personsIn_161 : decode cX7_personsIn 161 = .ok (.iload_n 3, 1) := by decide +kernel
theorem dX7_personsIn_162 : decode cX7_personsIn 162 = .ok (.ifCond .lt 12, 3) := by decide +kernel
theorem dX7_personsIn_165 : decode cX7_personsIn 165 = .ok (.aload_n 0, 1) := by decide +kernel
theorem dX7_personsIn_166 : decode cX7_personsIn 166 = .ok (.getfield 21, 3) := by decide +kernel
theorem dX7_personsIn_169 : decode cX7_personsIn 169 = .ok (.iload_n 3, 1) := by decide +kernel
theorem dX7_personsIn_170 : decode cX7_personsIn 170 = .ok (.iaload, 1) := by decide +kernel
theorem dX7_personsIn_171 : decode cX7_personsIn 171 = .ok (.goto 4, 3) := by decide +kernel
theorem dX7_personsIn_174 : decode cX7_personsIn 174 = .ok (.iconst 0, 1) := by decide +kernel
theorem dX7_personsIn_175 : decode cX7_personsIn 175 = .ok (.ireturn, 1) := by decide +kernel
theorem dX7_readAll_0 : decode cX7_readAll 0 = .ok (.aload_n 0, 1) := by decide +kernel
theorem dX7_readAll_1 : decode cX7_readAll 1 = .ok (.aload_n 1, 1) := by decide +kernel
theorem dX7_readAll_2 : decode cX7_readAll 2 = .ok (.aload_n 2, 1) := by decide +kernel
theorem dX7_readAll_3 : decode cX7_readAll 3 = .ok (.iload_n 3, 1) := by decide +kernel
theorem dX7_readAll_4 : decode cX7_readAll 4 = .ok (.invokevirtual 67, 3) := by decide +kernel
theorem dX7_readAll_7 : decode cX7_readAll 7 = .ok (.istore 4, 2) := by decide +kernel
theorem dX7_readAll_9 : decode cX7_readAll 9 = .ok (.iconst 0, 1) := by decide +kernel
theorem dX7_readAll_10 : decode cX7_readAll 10 = .ok (.istore 5, 2) := by decide +kernel
theorem dX7_readAll_12 : decode cX7_readAll 12 = .ok (.iload 5, 2) := by decide +kernel
theorem dX7_readAll_14 : decode cX7_readAll 14 = .ok (.bipush 20, 2) := by decide +kernel
theorem dX7_readAll_16 : decode cX7_readAll 16 = .ok (.if_icmp .ge 55, 3) := by decide +kernel
theorem dX7_readAll_19 : decode cX7_readAll 19 = .ok (.iload 4, 2) := by decide +kernel
theorem dX7_readAll_21 : decode cX7_readAll 21 = .ok (.ifCond .eq 50, 3) := by decide +kernel
theorem dX7_readAll_24 : decode cX7_readAll 24 = .ok (.aload_n 1, 1) := by decide +kernel
theorem dX7_readAll_25 : decode cX7_readAll 25 = .ok (.getfield 57, 3) := by decide +kernel
theorem dX7_readAll_28 : decode cX7_readAll 28 = .ok (.bipush 18, 2) := by decide +kernel
theorem dX7_readAll_30 : decode cX7_readAll 30 = .ok (.if_icmp .ne 41, 3) := by decide +kernel
theorem dX7_readAll_33 : decode cX7_readAll 33 = .ok (.aload_n 1, 1) := by decide +kernel
theorem dX7_readAll_34 : decode cX7_readAll 34 = .ok (.invokevirtual 60, 3) := by decide +kernel
theorem dX7_readAll_37 : decode cX7_readAll 37 = .ok (.aload_n 0, 1) := by decide +kernel
theorem dX7_readAll_38 : decode cX7_readAll 38 = .ok (.aload_n 1, 1) := by decide +kernel
theorem dX7_readAll_39 : decode cX7_readAll 39 = .ok (.aload_n 2, 1) := by decide +kernel
theorem dX7_readAll_40 : decode cX7_readAll 40 = .ok (.iload_n 3, 1) := by decide +kernel
theorem dX7_readAll_41 : decode cX7_readAll 41 = .ok (.invokevirtual 67, 3) := by decide +kernel
theorem dX7_readAll_44 : decode cX7_readAll 44 = .ok (.ifCond .eq 18, 3) := by decide +kernel
theorem dX7_readAll_47 : decode cX7_readAll 47 = .ok (.aload_n 0, 1) := by decide +kernel
theorem dX7_readAll_48 : decode cX7_readAll 48 = .ok (.bipush 18, 2) := by decide +kernel
theorem dX7_readAll_50 : decode cX7_readAll 50 = .ok (.iconst 0, 1) := by decide +kernel
theorem dX7_readAll_51 : decode cX7_readAll 51 = .ok (.iconst 0, 1) := by decide +kernel
theorem dX7_readAll_52 : decode cX7_readAll 52 = .ok (.invokevirtual 63, 3) := by decide +kernel
theorem dX7_readAll_55 : decode cX7_readAll 55 = .ok (.ifCond .eq 7, 3) := by decide +kernel
theorem dX7_readAll_58 : decode cX7_readAll 58 = .ok (.iconst 1, 1) := by decide +kernel
theorem dX7_readAll_59 : decode cX7_readAll 59 = .ok (.goto 4, 3) := by decide +kernel
theorem dX7_readAll_62 : decode cX7_readAll 62 = .ok (.iconst 0, 1) := by decide +kernel
theorem dX7_readAll_63 : decode cX7_readAll 63 = .ok (.istore 4, 2) := by decide +kernel
theorem dX7_readAll_65 : decode cX7_readAll 65 = .ok (.iinc 5 1, 3) := by decide +kernel
theorem dX7_readAll_68 : decode cX7_readAll 68 = .ok (.goto (-56), 3) := by decide +kernel
theorem dX7_readAll_71 : decode cX7_readAll 71 = .ok (.iload 4, 2) := by decide +kernel
theorem dX7_readAll_73 : decode cX7_readAll 73 = .ok (.ireturn, 1) := by decide +kernel
theorem dX7_readCond_0 : decode cX7_readCond 0 = .ok (.aload_n 0, 1) := by decide +kernel
theorem dX7_readCond_1 : decode cX7_readCond 1 = .ok (.aload_n 1, 1) := by decide +kernel
theorem dX7_readCond_2 : decode cX7_readCond 2 = .ok (.aload_n 2, 1) := by decide +kernel
theorem dX7_readCond_3 : decode cX7_readCond 3 = .ok (.iload_n 3, 1) := by decide +kernel
theorem dX7_readCond_4 : decode cX7_readCond 4 = .ok (.invokevirtual 54, 3) := by decide +kernel
theorem dX7_readCond_7 : decode cX7_readCond 7 = .ok (.istore 4, 2) := by decide +kernel
theorem dX7_readCond_9 : decode cX7_readCond 9 = .ok (.iconst 0, 1) := by decide +kernel
theorem dX7_readCond_10 : decode cX7_readCond 10 = .ok (.istore 5, 2) := by decide +kernel
theorem dX7_readCond_12 : decode cX7_readCond 12 = .ok (.iload 5, 2) := by decide +kernel
theorem dX7_readCond_14 : decode cX7_readCond 14 = .ok (.bipush 20, 2) := by decide +kernel
theorem dX7_readCond_16 : decode cX7_readCond 16 = .ok (.if_icmp .ge 55, 3) := by decide +kernel
theorem dX7_readCond_19 : decode cX7_readCond 19 = .ok (.iload 4, 2) := by decide +kernel
theorem dX7_readCond_21 : decode cX7_readCond 21 = .ok (.ifCond .eq 50, 3) := by decide +kernel
theorem dX7_readCond_24 : decode cX7_readCond 24 = .ok (.aload_n 1, 1) := by decide +kernel
theorem dX7_readCond_25 : decode cX7_readCond 25 = .ok (.getfield 57, 3) := by decide +kernel
theorem dX7_readCond_28 : decode cX7_readCond 28 = .ok (.bipush 17, 2) := by decide +kernel
theorem dX7_readCond_30 : decode cX7_readCond 30 = .ok (.if_icmp .ne 41, 3) := by decide +kernel
theorem dX7_readCond_33 : decode cX7_readCond 33 = .ok (.aload_n 1, 1) := by decide +kernel
theorem dX7_readCond_34 : decode cX7_readCond 34 = .ok (.invokevirtual 60, 3) := by decide +kernel
theorem dX7_readCond_37 : decode cX7_readCond 37 = .ok (.aload_n 0, 1) := by decide +kernel
theorem dX7_readCond_38 : decode cX7_readCond 38 = .ok (.aload_n 1, 1) := by decide +kernel
theorem dX7_readCond_39 : decode cX7_readCond 39 = .ok (.aload_n 2, 1) := by decide +kernel
theorem dX7_readCond_40 : decode cX7_readCond 40 = .ok (.iload_n 3, 1) := by decide +kernel
theorem dX7_readCond_41 : decode cX7_readCond 41 = .ok (.invokevirtual 54, 3) := by decide +kernel
theorem dX7_readCond_44 : decode cX7_readCond 44 = .ok (.ifCond .eq 18, 3) := by decide +kernel
theorem dX7_readCond_47 : decode cX7_readCond 47 = .ok (.aload_n 0, 1) := by decide +kernel
theorem dX7_readCond_48 : decode cX7_readCond 48 = .ok (.bipush 17, 2) := by decide +kernel
theorem dX7_readCond_50 : decode cX7_readCond 50 = .ok (.iconst 0, 1) := by decide +kernel
theorem dX7_readCond_51 : decode cX7_readCond 51 = .ok (.iconst 0, 1) := by decide +kernel
theorem dX7_readCond_52 : decode cX7_readCond 52 = .ok (.invokevirtual 63, 3) := by decide +kernel
theorem dX7_readCond_55 : decode cX7_readCond 55 = .ok (.ifCond .eq 7, 3) := by decide +kernel
theorem dX7_readCond_58 : decode cX7_readCond 58 = .ok (.iconst 1, 1) := by decide +kernel
theorem dX7_readCond_59 : decode cX7_readCond 59 = .ok (.goto 4, 3) := by decide +kernel
theorem dX7_readCond_62 : decode cX7_readCond 62 = .ok (.iconst 0, 1) := by decide +kernel
theorem dX7_readCond_63 : decode cX7_readCond 63 = .ok (.istore 4, 2) := by decide +kernel
theorem dX7_readCond_65 : decode cX7_readCond 65 = .ok (.iinc 5 1, 3) := by decide +kernel
theorem dX7_readCond_68 : decode cX7_readCond 68 = .ok (.goto (-56), 3) := by decide +kernel
theorem dX7_readCond_71 : decode cX7_readCond 71 = .ok (.iload 4, 2) := by decide +kernel
theorem dX7_readCond_73 : decode cX7_readCond 73 = .ok (.ireturn, 1) := by decide +kernel
theorem dX7_readFrom_0 : decode cX7_readFrom 0 = .ok (.aload_n 0, 1) := by decide +kernel
theorem dX7_readFrom_1 : decode cX7_readFrom 1 = .ok (.invokevirtual 37, 3) := by decide +kernel
theorem dX7_readFrom_4 : decode cX7_readFrom 4 = .ok (.aload_n 1, 1) := by decide +kernel
theorem dX7_readFrom_5 : decode cX7_readFrom 5 = .ok (.sipush 200, 3) := by decide +kernel
theorem dX7_readFrom_8 : decode cX7_readFrom 8 = .ok (.invokevirtual 40, 3) := by decide +kernel
theorem dX7_readFrom_11 : decode cX7_readFrom 11 = .ok (.aload_n 0, 1) := by decide +kernel
theorem dX7_readFrom_12 : decode cX7_readFrom 12 = .ok (.aload_n 1, 1) := by decide +kernel
theorem dX7_readFrom_13 : decode cX7_readFrom 13 = .ok (.aload_n 2, 1) := by decide +kernel
theorem dX7_readFrom_14 : decode cX7_readFrom 14 = .ok (.iconst 1, 1) := by decide +kernel
theorem dX7_readFrom_15 : decode cX7_readFrom 15 = .ok (.invokevirtual 46, 3) := by decide +kernel
theorem dX7_readFrom_18 : decode cX7_readFrom 18 = .ok (.ifCond .eq 16, 3) := by decide +kernel
theorem dX7_readFrom_21 : decode cX7_readFrom 21 = .ok (.aload_n 1, 1) := by decide +kernel
theorem dX7_readFrom_22 : decode cX7_readFrom 22 = .ok (.bipush 102, 2) := by decide +kernel
theorem dX7_readFrom_24 : decode cX7_readFrom 24 = .ok (.invokevirtual 50, 3) := by decide +kernel
theorem dX7_readFrom_27 : decode cX7_readFrom 27 = .ok (.ifCond .eq 7, 3) := by decide +kernel
theorem dX7_readFrom_30 : decode cX7_readFrom 30 = .ok (.iconst 1, 1) := by decide +kernel
theorem dX7_readFrom_31 : decode cX7_readFrom 31 = .ok (.goto 4, 3) := by decide +kernel
theorem dX7_readFrom_34 : decode cX7_readFrom 34 = .ok (.iconst 0, 1) := by decide +kernel
theorem dX7_readFrom_35 : decode cX7_readFrom 35 = .ok (.ireturn, 1) := by decide +kernel
theorem dX7_readOne_0 : decode cX7_readOne 0 = .ok (.aload_n 1, 1) := by decide +kernel
theorem dX7_readOne_1 : decode cX7_readOne 1 = .ok (.getfield 57, 3) := by decide +kernel
theorem dX7_readOne_4 : decode cX7_readOne 4 = .ok (.istore 4, 2) := by decide +kernel
theorem dX7_readOne_6 : decode cX7_readOne 6 = .ok (.iload 4, 2) := by decide +kernel
theorem dX7_readOne_8 : decode cX7_readOne 8 = .ok (.invokestatic 70, 3) := by decide +kernel
theorem dX7_readOne_11 : decode cX7_readOne 11 = .ok (.ifCond .ne 9, 3) := by decide +kernel
theorem dX7_readOne_14 : decode cX7_readOne 14 = .ok (.aload_n 1, 1) := by decide +kernel
theorem dX7_readOne_15 : decode cX7_readOne 15 = .ok (.iconst 1, 1) := by decide +kernel
theorem dX7_readOne_16 : decode cX7_readOne 16 = .ok (.invokevirtual 73, 3) := by decide +kernel
theorem dX7_readOne_19 : decode cX7_readOne 19 = .ok (.ireturn, 1) := by decide +kernel
theorem dX7_readOne_20 : decode cX7_readOne 20 = .ok (.aload_n 0, 1) := by decide +kernel
theorem dX7_readOne_21 : decode cX7_readOne 21 = .ok (.getfield 28, 3) := by decide +kernel
theorem dX7_readOne_24 : decode cX7_readOne 24 = .ok (.bipush 20, 2) := by decide +kernel
theorem dX7_readOne_26 : decode cX7_readOne 26 = .ok (.if_icmp .ge 9, 3) := by decide +kernel
theorem dX7_readOne_29 : decode cX7_readOne 29 = .ok (.iload_n 3, 1) := by decide +kernel
theorem dX7_readOne_30 : decode cX7_readOne 30 = .ok (.bipush 8, 2) := by decide +kernel
theorem dX7_readOne_32 : decode cX7_readOne 32 = .ok (.if_icmp .le 9, 3) := by decide +kernel
theorem dX7_readOne_35 : decode cX7_readOne 35 = .ok (.aload_n 1, 1) := by decide +kernel
theorem dX7_readOne_36 : decode cX7_readOne 36 = .ok (.iconst 4, 1) := by decide +kernel
theorem dX7_readOne_37 : decode cX7_readOne 37 = .ok (.invokevirtual 73, 3) := by decide +kernel
theorem dX7_readOne_40 : decode cX7_readOne 40 = .ok (.ireturn, 1) := by decide +kernel
theorem dX7_readOne_41 : decode cX7_readOne 41 = .ok (.aload_n 0, 1) := by decide +kernel
theorem dX7_readOne_42 : decode cX7_readOne 42 = .ok (.dup, 1) := by decide +kernel
theorem dX7_readOne_43 : decode cX7_readOne 43 = .ok (.getfield 28, 3) := by decide +kernel
theorem dX7_readOne_46 : decode cX7_readOne 46 = .ok (.iconst 1, 1) := by decide +kernel
theorem dX7_readOne_47 : decode cX7_readOne 47 = .ok (.iadd, 1) := by decide +kernel
theorem dX7_readOne_48 : decode cX7_readOne 48 = .ok (.putfield 28, 3) := by decide +kernel
theorem dX7_readOne_51 : decode cX7_readOne 51 = .ok (.aload_n 1, 1) := by decide +kernel
theorem dX7_readOne_52 : decode cX7_readOne 52 = .ok (.invokevirtual 60, 3) := by decide +kernel
theorem dX7_readOne_55 : decode cX7_readOne 55 = .ok (.iload 4, 2) := by decide +kernel
theorem dX7_readOne_57 : decode cX7_readOne 57 = .ok (.bipush 40, 2) := by decide +kernel
theorem dX7_readOne_59 : decode cX7_readOne 59 = .ok (.if_icmp .ne 30, 3) := by decide +kernel
theorem dX7_readOne_62 : decode cX7_readOne 62 = .ok (.aload_n 0, 1) := by decide +kernel
theorem dX7_readOne_63 : decode cX7_readOne 63 = .ok (.aload_n 1, 1) := by decide +kernel
theorem dX7_readOne_64 : decode cX7_readOne 64 = .ok (.aload_n 2, 1) := by decide +kernel
theorem dX7_readOne_65 : decode cX7_readOne 65 = .ok (.iload_n 3, 1) := by decide +kernel
theorem dX7_readOne_66 : decode cX7_readOne 66 = .ok (.iconst 1, 1) := by decide +kernel
theorem dX7_readOne_67 : decode cX7_readOne 67 = .ok (.iadd, 1) := by decide +kernel
theorem dX7_readOne_68 : decode cX7_readOne 68 = .ok (.invokevirtual 46, 3) := by decide +kernel
theorem dX7_readOne_71 : decode cX7_readOne 71 = .ok (.ifCond .eq 16, 3) := by decide +kernel
theorem dX7_readOne_74 : decode cX7_readOne 74 = .ok (.aload_n 1, 1) := by decide +kernel
theorem dX7_readOne_75 : decode cX7_readOne 75 = .ok (.bipush 41, 2) := by decide +kernel
theorem dX7_readOne_77 : decode cX7_readOne 77 = .ok (.invokevirtual 50, 3) := by decide +kernel
theorem dX7_readOne_80 : decode cX7_readOne 80 = .ok (.ifCond .eq 7, 3) := by decide +kernel
theorem dX7_readOne_83 : decode cX7_readOne 83 = .ok (.iconst 1, 1) := by decide +kernel
theorem dX7_readOne_84 : decode cX7_readOne 84 = .ok (.goto 4, 3) := by decide +kernel
theorem dX7_readOne_87 : decode cX7_readOne 87 = .ok (.iconst 0, 1) := by decide +kernel
theorem dX7_readOne_88 : decode cX7_readOne 88 = .ok (.ireturn, 1) := by decide +kernel
theorem dX7_readOne_89 : decode cX7_readOne 89 = .ok (.iload 4, 2) := by decide +kernel
theorem dX7_readOne_91 : decode cX7_readOne 91 = .ok (.bipush 19, 2) := by decide +kernel
theorem dX7_readOne_93 : decode cX7_readOne 93 = .ok (.if_icmp .ne 32, 3) := by decide +kernel
theorem dX7_readOne_96 : decode cX7_readOne 96 = .ok (.aload_n 0, 1) := by decide +kernel
theorem dX7_readOne_97 : decode cX7_readOne 97 = .ok (.aload_n 1, 1) := by decide +kernel
theorem dX7_readOne_98 : decode cX7_readOne 98 = .ok (.aload_n 2, 1) := by decide +kernel
theorem dX7_readOne_99 : decode cX7_readOne 99 = .ok (.iload_n 3, 1) := by decide +kernel
theorem dX7_readOne_100 : decode cX7_readOne 100 = .ok (.iconst 1, 1) := by decide +kernel
theorem dX7_readOne_101 : decode cX7_readOne 101 = .ok (.iadd, 1) := by decide +kernel
theorem dX7_readOne_102 : decode cX7_readOne 102 = .ok (.invokevirtual 67, 3) := by decide +kernel
theorem dX7_readOne_105 : decode cX7_readOne 105 = .ok (.ifCond .eq 18, 3) := by decide +kernel
theorem dX7_readOne_108 : decode cX7_readOne 108 = .ok (.aload_n 0, 1) := by decide +kernel
theorem dX7_readOne_109 : decode cX7_readOne 109 = .ok (.bipush 19, 2) := by decide +kernel
theorem dX7_readOne_111 : decode cX7_readOne 111 = .ok (.iconst 0, 1) := by decide +kernel
theorem dX7_readOne_112 : decode cX7_readOne 112 = .ok (.iconst 0, 1) := by decide +kernel
theorem dX7_readOne_113 : decode cX7_readOne 113 = .ok (.invokevirtual 63, 3) := by decide +kernel
theorem dX7_readOne_116 : decode cX7_readOne 116 = .ok (.ifCond .eq 7, 3) := by decide +kernel
theorem dX7_readOne_119 : decode cX7_readOne 119 = .ok (.iconst 1, 1) := by decide +kernel
theorem dX7_readOne_120 : decode cX7_readOne 120 = .ok (.goto 4, 3) := by decide +kernel
theorem dX7_readOne_123 : decode cX7_readOne 123 = .ok (.iconst 0, 1) := by decide +kernel
theorem dX7_readOne_124 : decode cX7_readOne 124 = .ok (.ireturn, 1) := by decide +kernel
theorem dX7_readOne_125 : decode cX7_readOne 125 = .ok (.aload_n 0, 1) := by decide +kernel
theorem dX7_readOne_126 : decode cX7_readOne 126 = .ok (.aload_n 1, 1) := by decide +kernel
theorem dX7_readOne_127 : decode cX7_readOne 127 = .ok (.aload_n 2, 1) := by decide +kernel
theorem dX7_readOne_128 : decode cX7_readOne 128 = .ok (.iload 4, 2) := by decide +kernel
theorem dX7_readOne_130 : decode cX7_readOne 130 = .ok (.invokevirtual 76, 3) := by decide +kernel
theorem dX7_readOne_133 : decode cX7_readOne 133 = .ok (.ireturn, 1) := by decide +kernel
theorem dX7_thoseOf_0 : decode cX7_thoseOf 0 = .ok (.iconst 0, 1) := by decide +kernel
theorem dX7_thoseOf_1 : decode cX7_thoseOf 1 = .ok (.istore_n 3, 1) := by decide +kernel
theorem dX7_thoseOf_2 : decode cX7_thoseOf 2 = .ok (.iconst 0, 1) := by decide +kernel
theorem dX7_thoseOf_3 : decode cX7_thoseOf 3 = .ok (.istore 4, 2) := by decide +kernel
theorem dX7_thoseOf_5 : decode cX7_thoseOf 5 = .ok (.iload 4, 2) := by decide +kernel
theorem dX7_thoseOf_7 : decode cX7_thoseOf 7 = .ok (.aload_n 1, 1) := by decide +kernel
theorem dX7_thoseOf_8 : decode cX7_thoseOf 8 = .ok (.getfield 100, 3) := by decide +kernel
theorem dX7_thoseOf_11 : decode cX7_thoseOf 11 = .ok (.getfield 114, 3) := by decide +kernel
theorem dX7_thoseOf_14 : decode cX7_thoseOf 14 = .ok (.if_icmp .ge 27, 3) := by decide +kernel
theorem dX7_thoseOf_17 : decode cX7_thoseOf 17 = .ok (.aload_n 0, 1) := by decide +kernel
theorem dX7_thoseOf_18 : decode cX7_thoseOf 18 = .ok (.aload_n 1, 1) := by decide +kernel
theorem dX7_thoseOf_19 : decode cX7_thoseOf 19 = .ok (.iload_n 2, 1) := by decide +kernel
theorem dX7_thoseOf_20 : decode cX7_thoseOf 20 = .ok (.iload 4, 2) := by decide +kernel
theorem dX7_thoseOf_22 : decode cX7_thoseOf 22 = .ok (.invokevirtual 117, 3) := by decide +kernel
theorem dX7_thoseOf_25 : decode cX7_thoseOf 25 = .ok (.ifCond .eq 10, 3) := by decide +kernel
theorem dX7_thoseOf_28 : decode cX7_thoseOf 28 = .ok (.iload_n 3, 1) := by decide +kernel
theorem dX7_thoseOf_29 : decode cX7_thoseOf 29 = .ok (.iconst 1, 1) := by decide +kernel
theorem dX7_thoseOf_30 : decode cX7_thoseOf 30 = .ok (.iload 4, 2) := by decide +kernel
theorem dX7_thoseOf_32 : decode cX7_thoseOf 32 = .ok (.ishl, 1) := by decide +kernel
theorem dX7_thoseOf_33 : decode cX7_thoseOf 33 = .ok (.ior, 1) := by decide +kernel
theorem dX7_thoseOf_34 : decode cX7_thoseOf 34 = .ok (.istore_n 3, 1) := by decide +kernel
theorem dX7_thoseOf_35 : decode cX7_thoseOf 35 = .ok (.iinc 4 1, 3) := by decide +kernel
theorem dX7_thoseOf_38 : decode cX7_thoseOf 38 = .ok (.goto (-33), 3) := by decide +kernel
theorem dX7_thoseOf_41 : decode cX7_thoseOf 41 = .ok (.iload_n 3, 1) := by decide +kernel
theorem dX7_thoseOf_42 : decode cX7_thoseOf 42 = .ok (.ireturn, 1) := by decide +kernel
set_option maxRecDepth 100000 in
set_option maxHeartbeats 8000000 in
theorem c_X7_readCond_3 {l : Launch} {D : va_G} {cy : Nat → ClassId} {L : List Nat} {κ ln : Nat → Nat} {R : Nat → Nat → Option Nat} {I : Nat → Nat → Int32} {J : Nat → Nat → Int64} {ow : Nat → Nat × Nat} (W9 : ∀ a ∈ L, Shp L κ ln R ow a) {x : Nat} (hLx : x ∈ L) (hkx : κ x = 7) {a0 : Nat} (hLa0 : a0 ∈ L) (hka0 : κ a0 = 10) {a1 : Nat} (hLa1 : a1 ∈ L) (hka1 : κ a1 = 8) (a2 : Int32) (ra2 : Rg 3 3 a2) (hU : Iv L κ R ow I) : CtI l yX7_readCond cX7_readCond 6 (some .boolean) { frames := 21, cells := 0, slots := 0, locals := 514 } D cy L κ ln R I J [.ref x, .ref a0, .ref a1, .int a2] (fun r I2 J2 => Iv L κ R ow I2 ∧ Fq L κ ow [704, 705, 1007, 1008, 1009, 1011, 1012, 52000, 52100, 52200] I I2 ∧ Fq L κ ow [1010] J J2 ∧ Rg 0 1 r) := by
  refine CtI.of (by decide +kernel) (Nat.le_of_ble_eq_true rfl) ?_
  intro p e s m below meth c B K
  have C := B.1
  have hF : Fq L κ ow [704, 705, 1007, 1008, 1009, 1011, 1012, 52000, 52100, 52200] I I := fq_rf
  have hG : Fq L κ ow [1010] J J := fq_rf
  refine g_lo (is := [0, 1, 2, 3]) (lo2 := [(0, .ref x), (1, .ref a0), (2, .ref a1), (3, .int a2)]) rfl ?_
  have l_12 : ∀ (n_12 : Nat) (I_517082 : Nat → Nat → Int32) (J_517083 : Nat → Nat → Int64) (hU_517084 : Iv L κ R ow I_517082) (hF_517085 : Fq L κ ow [704, 705, 1007, 1008, 1009, 1011, 1012, 52000, 52100, 52200] I I_517082) (hG_517086 : Fq L κ ow [1010] J J_517083) (v_517087 : Int32) (rv_517087 : Rg 3 3 v_517087) (v_517088 : Int32) (rv_517088 : Rg 0 1 v_517088) (v_517089 : Int32) (rv_517089 : Rg 0 20 v_517089) (hm_517090 : 20 < (v_517089 : Int32).toInt + (n_12 : Int)), WG p l e { frames := 21, cells := 0, slots := 0, locals := 514 } s m ([.ref x, .ref a0, .ref a1, .int a2] : List Value).toArray below meth c 6 0 0 (MQ below (Qi_ D cy L κ ln R (fun r I2 J2 => Iv L κ R ow I2 ∧ Fq L κ ow [704, 705, 1007, 1008, 1009, 1011, 1012, 52000, 52100, 52200] I I2 ∧ Fq L κ ow [1010] J J2 ∧ Rg 0 1 r)) ([.ref x, .ref a0, .ref a1, .int a2] : List Value).toArray s 0 0 (Al_ L)) D cy (Al_ L) s.heap L κ ln R I_517082 J_517083 12 [(0, .ref x), (1, .ref a0), (2, .ref a1), (3, .int v_517087), (4, .int v_517088), (5, .int v_517089)] [] := by
    intro n_12
    induction n_12 with
    | zero =>
      intro I_517082 J_517083 hU_517084 hF_517085 hG_517086 v_517087 rv_517087 v_517088 rv_517088 v_517089 rv_517089 hm_517090
      exact ms_0 rv_517089 hm_517090
    | succ n_12 ih_12 =>
      intro I_517082 J_517083 hU_517084 hF_517085 hG_517086 v_517087 rv_517087 v_517088 rv_517088 v_517089 rv_517089 hm_517090
      have j_62 : ∀ (I_517091 : Nat → Nat → Int32) (J_517092 : Nat → Nat → Int64) (hU_517093 : Iv L κ R ow I_517091) (hF_517094 : Fq L κ ow [704, 705, 1007, 1008, 1009, 1011, 1012, 52000, 52100, 52200] I I_517091) (hG_517095 : Fq L κ ow [1010] J J_517092) (v_517096 : Int32) (rv_517096 : Rg 3 3 v_517096) (v_517097 : Int32) (rv_517097 : Rg 1 1 v_517097) (nv_517097_0 : ¬ v_517097 = 0) (v_517098 : Int32) (rv_517098 : Rg 0 19 v_517098) (hm_517099 : 20 < (v_517098 : Int32).toInt + ((n_12 + 1 : Nat) : Int)), WG p l e { frames := 21, cells := 0, slots := 0, locals := 514 } s m ([.ref x, .ref a0, .ref a1, .int a2] : List Value).toArray below meth c 6 0 0 (MQ below (Qi_ D cy L κ ln R (fun r I2 J2 => Iv L κ R ow I2 ∧ Fq L κ ow [704, 705, 1007, 1008, 1009, 1011, 1012, 52000, 52100, 52200] I I2 ∧ Fq L κ ow [1010] J J2 ∧ Rg 0 1 r)) ([.ref x, .ref a0, .ref a1, .int a2] : List Value).toArray s 0 0 (Al_ L)) D cy (Al_ L) s.heap L κ ln R I_517091 J_517092 62 [(0, .ref x), (1, .ref a0), (2, .ref a1), (3, .int v_517096), (4, .int v_517097), (5, .int v_517098)] [] := by
        intro I_517091 J_517092 hU_517093 hF_517094 hG_517095 v_517096 rv_517096 v_517097 rv_517097 nv_517097_0 v_517098 rv_517098 hm_517099
        refine g_iconst C (v := 0) dX7_readCond_62 (by decide) ?_
        refine g_istore C dX7_readCond_63 (by decide) (lo2 := [(4, .int 0), (0, .ref x), (1, .ref a0), (2, .ref a1), (3, .int v_517096), (5, .int v_517098)]) rfl ?_
        obtain ⟨x_517100, hx_517100, rx_517100, tx_517100⟩ := ex_add (y := 1) 1 20 rv_517098 rc_1 (by decide) (by decide) (by decide) (by decide)
        refine g_iinc C dX7_readCond_65 (k := 5) (v := x_517100) rfl hx_517100 (by decide) (lo2 := [(5, .int x_517100), (4, .int 0), (0, .ref x), (1, .ref a0), (2, .ref a1), (3, .int v_517096)]) rfl ?_
        refine g_goto C (tgt := 12) dX7_readCond_68 (by decide) ?_
        refine g_lo (is := [2, 3, 4, 5, 1, 0]) (lo2 := [(0, .ref x), (1, .ref a0), (2, .ref a1), (3, .int v_517096), (4, .int 0), (5, .int x_517100)]) rfl ?_
        exact ih_12 I_517091 J_517092 hU_517093 hF_517094 hG_517095 v_517096 (rv_517096) 0 (rg_w rc_0 (by decide) (by decide)) x_517100 (rg_w rx_517100 (by decide) (by decide)) (ms_1 hm_517099 (ti_k tx_517100 rc_1) (by decide))
      refine g_iload C 5 dX7_readCond_12 rfl ?_
      refine g_bipush C (v := 20) dX7_readCond_14 (by decide) ?_
      refine g_icmp_ge C (tgt := 71) dX7_readCond_16 (by decide) (fun h_517101 => ?_) (fun h_517101 => ?_)
      · skip
        have r_517102 := le_r (h_517101) rc_20 rv_517089
        refine g_iload C 4 dX7_readCond_71 rfl ?_
        exact g_zret (ty := .boolean) (r := v_517088) B K rfl (nar_z (rv_517088)) ⟨hU_517084, hF_517085, hG_517086, rv_517088⟩ dX7_readCond_73
      · skip
        have r_517103 := lt_l (hi := 19) (nle h_517101) rv_517089 rc_20 (by decide)
        refine g_iload C 4 dX7_readCond_19 rfl ?_
        refine g_if_eq C (tgt := 71) dX7_readCond_21 (by decide) (fun h_517104 => ?_) (fun h_517104 => ?_)
        · skip
          have r_517105 := (⟨(rv_517088).1, (eq_rg (h_517104) rc_0).2⟩ : Rg 0 0 v_517088)
          refine g_iload C 4 dX7_readCond_71 rfl ?_
          exact g_zret (ty := .boolean) (r := v_517088) B K rfl (nar_z (rg_w r_517105 (by decide) (by decide))) ⟨hU_517084, hF_517085, hG_517086, rg_w r_517105 (by decide) (by decide)⟩ dX7_readCond_73
        · skip
          have n_517106 : ¬ v_517088 = 0 := h_517104
          have r_517107 := ne_lo (lo := 1) n_517106 rv_517088 rc_0 rfl (by decide)
          refine g_aload_n C 1 dX7_readCond_24 rfl rfl ?_
          obtain ⟨x_517108, hx_517108, rx_517108⟩ := ex_get (I := I_517082) (a := a0) (j := 8) (lo := (-2147483648)) (hi := 2147483647) hU_517084.1 hLa0 (ro_o hka0 (by decide)) rfl
          refine g_getI C K hLa0 hka0 f_7_57 (v := x_517108) hx_517108 dX7_readCond_25 ?_
          refine g_bipush C (v := 17) dX7_readCond_28 (by decide) ?_
          refine g_icmp_ne C (tgt := 71) dX7_readCond_30 (by decide) (fun h_517109 => ?_) (fun h_517109 => ?_)
          · skip
            have n_517110 : ¬ x_517108 = 17 := h_517109
            refine g_iload C 4 dX7_readCond_71 rfl ?_
            exact g_zret (ty := .boolean) (r := v_517088) B K rfl (nar_z (rg_w r_517107 (by decide) (by decide))) ⟨hU_517084, hF_517085, hG_517086, rg_w r_517107 (by decide) (by decide)⟩ dX7_readCond_73
          · skip
            have r_517111 := (⟨(eq_rg (h_517109) rc_17).1, (eq_rg (h_517109) rc_17).2⟩ : Rg 17 17 x_517108)
            refine g_aload_n C 1 dX7_readCond_33 rfl rfl ?_
            refine g_callVV C K (c_X10_advance W9 hLa0 hka0   hU_517084) hLa0 hka0 (by decide) rfl v_7_60 rfl ⟨rfl, rfl⟩ ⟨Nat.le_of_ble_eq_true rfl, Nat.le_of_ble_eq_true rfl⟩ (Nat.le_of_ble_eq_true rfl) ⟨Nat.le_of_ble_eq_true rfl, Nat.le_of_ble_eq_true rfl⟩ dX7_readCond_34 rfl (st := []) (fun I_517113 J_517114 h_517115 => ?_)
            obtain ⟨hUI_517113, hFI_517113, hGJ_517114⟩ := h_517115
            have hF_517116 := fq_tr hF_517085 hFI_517113 (by decide)
            have hG_517117 := fq_tr hG_517086 hGJ_517114 (by decide)
            refine g_aload_n C 0 dX7_readCond_37 rfl rfl ?_
            refine g_aload_n C 1 dX7_readCond_38 rfl rfl ?_
            refine g_aload_n C 2 dX7_readCond_39 rfl rfl ?_
            refine g_iload_n C 3 dX7_readCond_40 rfl rfl ?_
            refine g_callVI C K (c_X7_readAll_3 W9 hLx hkx hLa0 hka0 hLa1 hka1 v_517087 (rv_517087) hUI_517113) hLx hkx (by decide) rfl v_7_54 rfl ⟨rfl, rfl⟩ ⟨Nat.le_of_ble_eq_true rfl, Nat.le_of_ble_eq_true rfl⟩ (Nat.le_of_ble_eq_true rfl) ⟨Nat.le_of_ble_eq_true rfl, Nat.le_of_ble_eq_true rfl⟩ dX7_readCond_41 rfl (st := []) (fun x_517118 I_517119 J_517120 h_517121 => ?_)
            obtain ⟨hUI_517119, hFI_517119, hGJ_517120, rx_517118⟩ := h_517121
            have hF_517122 := fq_tr hF_517116 hFI_517119 (by decide)
            have hG_517123 := fq_tr hG_517117 hGJ_517120 (by decide)
            refine g_if_eq C (tgt := 62) dX7_readCond_44 (by decide) (fun h_517124 => ?_) (fun h_517124 => ?_)
            · skip
              have r_517125 := (⟨(rx_517118).1, (eq_rg (h_517124) rc_0).2⟩ : Rg 0 0 x_517118)
              refine g_lo (is := [0, 1, 2, 3, 4, 5]) (lo2 := [(0, .ref x), (1, .ref a0), (2, .ref a1), (3, .int v_517087), (4, .int v_517088), (5, .int v_517089)]) rfl ?_
              exact j_62 I_517119 J_517120 hUI_517119 hF_517122 hG_517123 v_517087 (rv_517087) v_517088 (r_517107) (n_517106) v_517089 (r_517103) hm_517090
            · skip
              have n_517126 : ¬ x_517118 = 0 := h_517124
              have r_517127 := ne_lo (lo := 1) n_517126 rx_517118 rc_0 rfl (by decide)
              refine g_aload_n C 0 dX7_readCond_47 rfl rfl ?_
              refine g_bipush C (v := 17) dX7_readCond_48 (by decide) ?_
              refine g_iconst C (v := 0) dX7_readCond_50 (by decide) ?_
              refine g_iconst C (v := 0) dX7_readCond_51 (by decide) ?_
              refine g_callVI C K (c_X7_addStep W9 hLx hkx 17 0 0 (rg_w rc_0 (by decide) (by decide)) hUI_517119  (fun q => absurd q (by decide))) hLx hkx (by decide) rfl v_7_63 rfl ⟨rfl, rfl⟩ ⟨Nat.le_of_ble_eq_true rfl, Nat.le_of_ble_eq_true rfl⟩ (Nat.le_of_ble_eq_true rfl) ⟨Nat.le_of_ble_eq_true rfl, Nat.le_of_ble_eq_true rfl⟩ dX7_readCond_52 rfl (st := []) (fun x_517128 I_517129 J_517130 h_517131 => ?_)
              obtain ⟨hUI_517129, hFI_517129, hGJ_517130, rx_517128⟩ := h_517131
              have hF_517132 := fq_tr hF_517122 hFI_517129 (by decide)
              have hG_517133 := fq_tr hG_517123 hGJ_517130 (by decide)
              refine g_if_eq C (tgt := 62) dX7_readCond_55 (by decide) (fun h_517134 => ?_) (fun h_517134 => ?_)
              · skip
                have r_517135 := (⟨(rx_517128).1, (eq_rg (h_517134) rc_0).2⟩ : Rg 0 0 x_517128)
                refine g_lo (is := [0, 1, 2, 3, 4, 5]) (lo2 := [(0, .ref x), (1, .ref a0), (2, .ref a1), (3, .int v_517087), (4, .int v_517088), (5, .int v_517089)]) rfl ?_
                exact j_62 I_517129 J_517130 hUI_517129 hF_517132 hG_517133 v_517087 (rv_517087) v_517088 (r_517107) (n_517106) v_517089 (r_517103) hm_517090
              · skip
                have n_517136 : ¬ x_517128 = 0 := h_517134
                have r_517137 := ne_lo (lo := 1) n_517136 rx_517128 rc_0 rfl (by decide)
                refine g_iconst C (v := 1) dX7_readCond_58 (by decide) ?_
                refine g_goto C (tgt := 63) dX7_readCond_59 (by decide) ?_
                refine g_istore C dX7_readCond_63 (by decide) (lo2 := [(4, .int 1), (0, .ref x), (1, .ref a0), (2, .ref a1), (3, .int v_517087), (5, .int v_517089)]) rfl ?_
                obtain ⟨x_517138, hx_517138, rx_517138, tx_517138⟩ := ex_add (y := 1) 1 20 r_517103 rc_1 (by decide) (by decide) (by decide) (by decide)
                refine g_iinc C dX7_readCond_65 (k := 5) (v := x_517138) rfl hx_517138 (by decide) (lo2 := [(5, .int x_517138), (4, .int 1), (0, .ref x), (1, .ref a0), (2, .ref a1), (3, .int v_517087)]) rfl ?_
                refine g_goto C (tgt := 12) dX7_readCond_68 (by decide) ?_
                refine g_lo (is := [2, 3, 4, 5, 1, 0]) (lo2 := [(0, .ref x), (1, .ref a0), (2, .ref a1), (3, .int v_517087), (4, .int 1), (5, .int x_517138)]) rfl ?_
                exact ih_12 I_517129 J_517130 hUI_517129 hF_517132 hG_517133 v_517087 (rv_517087) 1 (rg_w rc_1 (by decide) (by decide)) x_517138 (rg_w rx_517138 (by decide) (by decide)) (ms_1 hm_517090 (ti_k tx_517138 rc_1) (by decide))
  refine g_aload_n C 0 dX7_readCond_0 rfl rfl ?_
  refine g_aload_n C 1 dX7_readCond_1 rfl rfl ?_
  refine g_aload_n C 2 dX7_readCond_2 rfl rfl ?_
  refine g_iload_n C 3 dX7_readCond_3 rfl rfl ?_
  refine g_callVI C K (c_X7_readAll_3 W9 hLx hkx hLa0 hka0 hLa1 hka1 a2 (ra2) hU) hLx hkx (by decide) rfl v_7_54 rfl ⟨rfl, rfl⟩ ⟨Nat.le_of_ble_eq_true rfl, Nat.le_of_ble_eq_true rfl⟩ (Nat.le_of_ble_eq_true rfl) ⟨Nat.le_of_ble_eq_true rfl, Nat.le_of_ble_eq_true rfl⟩ dX7_readCond_4 rfl (st := []) (fun x_517139 I_517140 J_517141 h_517142 => ?_)
  obtain ⟨hUI_517140, hFI_517140, hGJ_517141, rx_517139⟩ := h_517142
  have hF_517143 := fq_tr hF hFI_517140 (by decide)
  have hG_517144 := fq_tr hG hGJ_517141 (by decide)
  refine g_istore C dX7_readCond_7 (by decide) (lo2 := [(4, .int x_517139), (0, .ref x), (1, .ref a0), (2, .ref a1), (3, .int a2)]) rfl ?_
  refine g_iconst C (v := 0) dX7_readCond_9 (by decide) ?_
  refine g_istore C dX7_readCond_10 (by decide) (lo2 := [(5, .int 0), (4, .int x_517139), (0, .ref x), (1, .ref a0), (2, .ref a1), (3, .int a2)]) rfl ?_
  refine g_lo (is := [2, 3, 4, 5, 1, 0]) (lo2 := [(0, .ref x), (1, .ref a0), (2, .ref a1), (3, .int a2), (4, .int x_517139), (5, .int 0)]) rfl ?_
  exact l_12 21 I_517140 J_517141 hUI_517140 hF_517143 hG_517144 a2 (ra2) x_517139 (rx_517139) 0 (rg_w rc_0 (by decide) (by decide)) (ms_s (a := 0) (b := 20) (N := 21) (rg_w rc_0 (by decide) (by decide)) (by decide))
set_option maxRecDepth 100000 in
set_option maxHeartbeats 8000000 in
theorem c_X7_readOne_2 {l : Launch} {D : va_G} {cy : Nat → ClassId} {L : List Nat} {κ ln : Nat → Nat} {R : Nat → Nat → Option Nat} {I : Nat → Nat → Int32} {J : Nat → Nat → Int64} {ow : Nat → Nat × Nat} (W9 : ∀ a ∈ L, Shp L κ ln R ow a) {x : Nat} (hLx : x ∈ L) (hkx : κ x = 7) {a0 : Nat} (hLa0 : a0 ∈ L) (hka0 : κ a0 = 10) {a1 : Nat} (hLa1 : a1 ∈ L) (hka1 : κ a1 = 8) (a2 : Int32) (ra2 : Rg 2 2 a2) (hU : Iv L κ R ow I) : CtI l yX7_readOne cX7_readOne 5 (some .boolean) { frames := 22, cells := 0, slots := 0, locals := 539 } D cy L κ ln R I J [.ref x, .ref a0, .ref a1, .int a2] (fun r I2 J2 => Iv L κ R ow I2 ∧ Fq L κ ow [704, 705, 1007, 1008, 1009, 1011, 1012, 52000, 52100, 52200] I I2 ∧ Fq L κ ow [1010] J J2 ∧ Rg 0 1 r) := by
  refine CtI.of (by decide +kernel) (Nat.le_of_ble_eq_true rfl) ?_
  intro p e s m below meth c B K
  have C := B.1
  have hF : Fq L κ ow [704, 705, 1007, 1008, 1009, 1011, 1012, 52000, 52100, 52200] I I := fq_rf
  have hG : Fq L κ ow [1010] J J := fq_rf
  refine g_lo (is := [0, 1, 2, 3]) (lo2 := [(0, .ref x), (1, .ref a0), (2, .ref a1), (3, .int a2)]) rfl ?_
  have j_35 : ∀ (I_517327 : Nat → Nat → Int32) (J_517328 : Nat → Nat → Int64) (hU_517329 : Iv L κ R ow I_517327) (hF_517330 : Fq L κ ow [704, 705, 1007, 1008, 1009, 1011, 1012, 52000, 52100, 52200] I I_517327) (hG_517331 : Fq L κ ow [1010] J J_517328) (v_517332 : Int32) (rv_517332 : Rg 2 2 v_517332) (v_517333 : Int32) (v_517334 : Int32) (rv_517334 : Rg 20 2147483647 v_517334) (q_517335 : I_517327 a0 8 = v_517333) (q_517336 : I_517327 x 5 = v_517334), WG p l e { frames := 22, cells := 0, slots := 0, locals := 539 } s m ([.ref x, .ref a0, .ref a1, .int a2] : List Value).toArray below meth c 5 0 0 (MQ below (Qi_ D cy L κ ln R (fun r I2 J2 => Iv L κ R ow I2 ∧ Fq L κ ow [704, 705, 1007, 1008, 1009, 1011, 1012, 52000, 52100, 52200] I I2 ∧ Fq L κ ow [1010] J J2 ∧ Rg 0 1 r)) ([.ref x, .ref a0, .ref a1, .int a2] : List Value).toArray s 0 0 (Al_ L)) D cy (Al_ L) s.heap L κ ln R I_517327 J_517328 35 [(0, .ref x), (1, .ref a0), (2, .ref a1), (3, .int v_517332), (4, .int v_517333)] [] := by
    intro I_517327 J_517328 hU_517329 hF_517330 hG_517331 v_517332 rv_517332 v_517333 v_517334 rv_517334 q_517335 q_517336
    refine g_aload_n C 1 dX7_readOne_35 rfl rfl ?_
    refine g_iconst C (v := 4) dX7_readOne_36 (by decide) ?_
    refine g_callVI C K (c_X10_fail W9 hLa0 hka0 4 (rg_w rc_4 (by decide) (by decide)) hU_517329) hLa0 hka0 (by decide) rfl v_7_73 rfl ⟨rfl, rfl⟩ ⟨Nat.le_of_ble_eq_true rfl, Nat.le_of_ble_eq_true rfl⟩ (Nat.le_of_ble_eq_true rfl) ⟨Nat.le_of_ble_eq_true rfl, Nat.le_of_ble_eq_true rfl⟩ dX7_readOne_37 rfl (st := []) (fun x_517337 I_517338 J_517339 h_517340 => ?_)
    obtain ⟨hUI_517338, hFI_517338, hGJ_517339, rx_517337⟩ := h_517340
    have hF_517341 := fq_tr hF_517330 hFI_517338 (by decide)
    have hG_517342 := fq_tr hG_517331 hGJ_517339 (by decide)
    exact g_zret (ty := .boolean) (r := x_517337) B K rfl (nar_z (rg_w rx_517337 (by decide) (by decide))) ⟨hUI_517338, hF_517341, hG_517342, rg_w rx_517337 (by decide) (by decide)⟩ dX7_readOne_40
  refine g_aload_n C 1 dX7_readOne_0 rfl rfl ?_
  obtain ⟨x_517343, hx_517343, rx_517343⟩ := ex_get (I := I) (a := a0) (j := 8) (lo := (-2147483648)) (hi := 2147483647) hU.1 hLa0 (ro_o hka0 (by decide)) rfl
  refine g_getI C K hLa0 hka0 f_7_57 (v := x_517343) hx_517343 dX7_readOne_1 ?_
  refine g_istore C dX7_readOne_4 (by decide) (lo2 := [(4, .int x_517343), (0, .ref x), (1, .ref a0), (2, .ref a1), (3, .int a2)]) rfl ?_
  refine g_iload C 0 dX7_readOne_6 rfl ?_
  refine g_callSI C K (c_X7_beginsOne W9 x_517343  hU) s_7_70 rfl ⟨rfl, rfl⟩ ⟨Nat.le_of_ble_eq_true rfl, Nat.le_of_ble_eq_true rfl⟩ (Nat.le_of_ble_eq_true rfl) ⟨Nat.le_of_ble_eq_true rfl, Nat.le_of_ble_eq_true rfl⟩ dX7_readOne_8 rfl (st := []) (fun x_517344 I_517345 J_517346 h_517347 => ?_)
  obtain ⟨rfl, rfl, rx_517344⟩ := h_517347
  refine g_if_ne C (tgt := 20) dX7_readOne_11 (by decide) (fun h_517348 => ?_) (fun h_517348 => ?_)
  · skip
    have n_517349 : ¬ x_517344 = 0 := h_517348
    have r_517350 := ne_lo (lo := 1) n_517349 rx_517344 rc_0 rfl (by decide)
    refine g_aload_n C 1 dX7_readOne_20 rfl rfl ?_
    obtain ⟨x_517351, hx_517351, rx_517351⟩ := ex_get (I := I) (a := x) (j := 5) (lo := (-2147483648)) (hi := 2147483647) hU.1 hLx (ro_o hkx (by decide)) rfl
    refine g_getI C K hLx hkx f_7_28 (v := x_517351) hx_517351 dX7_readOne_21 ?_
    refine g_bipush C (v := 20) dX7_readOne_24 (by decide) ?_
    refine g_icmp_ge C (tgt := 35) dX7_readOne_26 (by decide) (fun h_517352 => ?_) (fun h_517352 => ?_)
    · skip
      have r_517353 := le_r (h_517352) rc_20 rx_517351
      refine g_lo (is := [1, 2, 3, 4, 0]) (lo2 := [(0, .ref x), (1, .ref a0), (2, .ref a1), (3, .int a2), (4, .int x_517343)]) rfl ?_
      exact j_35 I J hU hF hG a2 (ra2) x_517343 x_517351 (r_517353) hx_517343 hx_517351
    · skip
      have r_517354 := lt_l (hi := 19) (nle h_517352) rx_517351 rc_20 (by decide)
      refine g_iload_n C 4 dX7_readOne_29 rfl rfl ?_
      refine g_bipush C (v := 8) dX7_readOne_30 (by decide) ?_
      refine g_icmp_le C (tgt := 41) dX7_readOne_32 (by decide) (fun h_517355 => ?_) (fun h_517355 => ?_)
      · skip
        refine g_aload_n C 1 dX7_readOne_41 rfl rfl ?_
        refine g_dup C dX7_readOne_42 rfl ?_
        refine g_getI C K hLx hkx f_7_28 (v := x_517351) hx_517351 dX7_readOne_43 ?_
        refine g_iconst C (v := 1) dX7_readOne_46 (by decide) ?_
        obtain ⟨x_517356, hx_517356, rx_517356, tx_517356⟩ := ex_add (-2147483647) 20 r_517354 rc_1 (by decide) (by decide) (by decide) (by decide)
        refine g_iadd C (v := x_517356) dX7_readOne_47 hx_517356 ?_
        refine h_putI C K hLx hkx f_7_28 p_7_5 dX7_readOne_48 (fun I_517357 hI_517357 => ?_)
        have hU_517358 := iv_put W9 hU hI_517357 (ro_o hkx (by decide)) (lo := (-2147483648)) (hi := 2147483647) (rfl) (rg_all _) rfl
        have hF_517359 := fq_puto hF hI_517357 hkx (by decide) (by decide)
        refine g_aload_n C 2 dX7_readOne_51 rfl rfl ?_
        refine g_callVV C K (c_X10_advance W9 hLa0 hka0   hU_517358) hLa0 hka0 (by decide) rfl v_7_60 rfl ⟨rfl, rfl⟩ ⟨Nat.le_of_ble_eq_true rfl, Nat.le_of_ble_eq_true rfl⟩ (Nat.le_of_ble_eq_true rfl) ⟨Nat.le_of_ble_eq_true rfl, Nat.le_of_ble_eq_true rfl⟩ dX7_readOne_52 rfl (st := []) (fun I_517361 J_517362 h_517363 => ?_)
        obtain ⟨hUI_517361, hFI_517361, hGJ_517362⟩ := h_517363
        have hF_517364 := fq_tr hF_517359 hFI_517361 (by decide)
        have hG_517365 := fq_tr hG hGJ_517362 (by decide)
        refine g_iload C 0 dX7_readOne_55 rfl ?_
        refine g_bipush C (v := 40) dX7_readOne_57 (by decide) ?_
        refine g_icmp_ne C (tgt := 89) dX7_readOne_59 (by decide) (fun h_517366 => ?_) (fun h_517366 => ?_)
        · skip
          have n_517367 : ¬ x_517343 = 40 := h_517366
          refine g_iload C 0 dX7_readOne_89 rfl ?_
          refine g_bipush C (v := 19) dX7_readOne_91 (by decide) ?_
          refine g_icmp_ne C (tgt := 125) dX7_readOne_93 (by decide) (fun h_517368 => ?_) (fun h_517368 => ?_)
          · skip
            have n_517369 : ¬ x_517343 = 19 := h_517368
            refine g_aload_n C 1 dX7_readOne_125 rfl rfl ?_
            refine g_aload_n C 2 dX7_readOne_126 rfl rfl ?_
            refine g_aload_n C 3 dX7_readOne_127 rfl rfl ?_
            refine g_iload C 0 dX7_readOne_128 rfl ?_
            refine g_callVI C K (c_X7_readPlainOne W9 hLx hkx hLa0 hka0 hLa1 hka1 x_517343  hUI_517361) hLx hkx (by decide) rfl v_7_76 rfl ⟨rfl, rfl⟩ ⟨Nat.le_of_ble_eq_true rfl, Nat.le_of_ble_eq_true rfl⟩ (Nat.le_of_ble_eq_true rfl) ⟨Nat.le_of_ble_eq_true rfl, Nat.le_of_ble_eq_true rfl⟩ dX7_readOne_130 rfl (st := []) (fun x_517370 I_517371 J_517372 h_517373 => ?_)
            obtain ⟨hUI_517371, hFI_517371, hGJ_517372, rx_517370⟩ := h_517373
            have hF_517374 := fq_tr hF_517364 hFI_517371 (by decide)
            have hG_517375 := fq_tr hG_517365 hGJ_517372 (by decide)
            exact g_zret (ty := .boolean) (r := x_517370) B K rfl (nar_z (rx_517370)) ⟨hUI_517371, hF_517374, hG_517375, rx_517370⟩ dX7_readOne_133
          · skip
            have r_517376 := (⟨(eq_rg (h_517368) rc_19).1, (eq_rg (h_517368) rc_19).2⟩ : Rg 19 19 x_517343)
            refine g_aload_n C 1 dX7_readOne_96 rfl rfl ?_
            refine g_aload_n C 2 dX7_readOne_97 rfl rfl ?_
            refine g_aload_n C 3 dX7_readOne_98 rfl rfl ?_
            refine g_iload_n C 4 dX7_readOne_99 rfl rfl ?_
            refine g_iconst C (v := 1) dX7_readOne_100 (by decide) ?_
            obtain ⟨x_517377, hx_517377, rx_517377, tx_517377⟩ := ex_add 3 3 ra2 rc_1 (by decide) (by decide) (by decide) (by decide)
            refine g_iadd C (v := x_517377) dX7_readOne_101 hx_517377 ?_
            refine g_callVI C K (c_X7_readOne_3 W9 hLx hkx hLa0 hka0 hLa1 hka1 x_517377 (rx_517377) hUI_517361) hLx hkx (by decide) rfl v_7_67 rfl ⟨rfl, rfl⟩ ⟨Nat.le_of_ble_eq_true rfl, Nat.le_of_ble_eq_true rfl⟩ (Nat.le_of_ble_eq_true rfl) ⟨Nat.le_of_ble_eq_true rfl, Nat.le_of_ble_eq_true rfl⟩ dX7_readOne_102 rfl (st := []) (fun x_517378 I_517379 J_517380 h_517381 => ?_)
            obtain ⟨hUI_517379, hFI_517379, hGJ_517380, rx_517378⟩ := h_517381
            have hF_517382 := fq_tr hF_517364 hFI_517379 (by decide)
            have hG_517383 := fq_tr hG_517365 hGJ_517380 (by decide)
            refine g_if_eq C (tgt := 123) dX7_readOne_105 (by decide) (fun h_517384 => ?_) (fun h_517384 => ?_)
            · skip
              have r_517385 := (⟨(rx_517378).1, (eq_rg (h_517384) rc_0).2⟩ : Rg 0 0 x_517378)
              refine g_iconst C (v := 0) dX7_readOne_123 (by decide) ?_
              exact g_zret (ty := .boolean) (r := 0) B K rfl (rfl) ⟨hUI_517379, hF_517382, hG_517383, rg_w rc_0 (by decide) (by decide)⟩ dX7_readOne_124
            · skip
              have n_517386 : ¬ x_517378 = 0 := h_517384
              have r_517387 := ne_lo (lo := 1) n_517386 rx_517378 rc_0 rfl (by decide)
              refine g_aload_n C 1 dX7_readOne_108 rfl rfl ?_
              refine g_bipush C (v := 19) dX7_readOne_109 (by decide) ?_
              refine g_iconst C (v := 0) dX7_readOne_111 (by decide) ?_
              refine g_iconst C (v := 0) dX7_readOne_112 (by decide) ?_
              refine g_callVI C K (c_X7_addStep W9 hLx hkx 19 0 0 (rg_w rc_0 (by decide) (by decide)) hUI_517379  (fun q => absurd q (by decide))) hLx hkx (by decide) rfl v_7_63 rfl ⟨rfl, rfl⟩ ⟨Nat.le_of_ble_eq_true rfl, Nat.le_of_ble_eq_true rfl⟩ (Nat.le_of_ble_eq_true rfl) ⟨Nat.le_of_ble_eq_true rfl, Nat.le_of_ble_eq_true rfl⟩ dX7_readOne_113 rfl (st := []) (fun x_517388 I_517389 J_517390 h_517391 => ?_)
              obtain ⟨hUI_517389, hFI_517389, hGJ_517390, rx_517388⟩ := h_517391
              have hF_517392 := fq_tr hF_517382 hFI_517389 (by decide)
              have hG_517393 := fq_tr hG_517383 hGJ_517390 (by decide)
              refine g_if_eq C (tgt := 123) dX7_readOne_116 (by decide) (fun h_517394 => ?_) (fun h_517394 => ?_)
              · skip
                have r_517395 := (⟨(rx_517388).1, (eq_rg (h_517394) rc_0).2⟩ : Rg 0 0 x_517388)
                refine g_iconst C (v := 0) dX7_readOne_123 (by decide) ?_
                exact g_zret (ty := .boolean) (r := 0) B K rfl (rfl) ⟨hUI_517389, hF_517392, hG_517393, rg_w rc_0 (by decide) (by decide)⟩ dX7_readOne_124
              · skip
                have n_517396 : ¬ x_517388 = 0 := h_517394
                have r_517397 := ne_lo (lo := 1) n_517396 rx_517388 rc_0 rfl (by decide)
                refine g_iconst C (v := 1) dX7_readOne_119 (by decide) ?_
                refine g_goto C (tgt := 124) dX7_readOne_120 (by decide) ?_
                exact g_zret (ty := .boolean) (r := 1) B K rfl (rfl) ⟨hUI_517389, hF_517392, hG_517393, rg_w rc_1 (by decide) (by decide)⟩ dX7_readOne_124
        · skip
          have r_517398 := (⟨(eq_rg (h_517366) rc_40).1, (eq_rg (h_517366) rc_40).2⟩ : Rg 40 40 x_517343)
          refine g_aload_n C 1 dX7_readOne_62 rfl rfl ?_
          refine g_aload_n C 2 dX7_readOne_63 rfl rfl ?_
          refine g_aload_n C 3 dX7_readOne_64 rfl rfl ?_
          refine g_iload_n C 4 dX7_readOne_65 rfl rfl ?_
          refine g_iconst C (v := 1) dX7_readOne_66 (by decide) ?_
          obtain ⟨x_517399, hx_517399, rx_517399, tx_517399⟩ := ex_add 3 3 ra2 rc_1 (by decide) (by decide) (by decide) (by decide)
          refine g_iadd C (v := x_517399) dX7_readOne_67 hx_517399 ?_
          refine g_callVI C K (c_X7_readCond_3 W9 hLx hkx hLa0 hka0 hLa1 hka1 x_517399 (rx_517399) hUI_517361) hLx hkx (by decide) rfl v_7_46 rfl ⟨rfl, rfl⟩ ⟨Nat.le_of_ble_eq_true rfl, Nat.le_of_ble_eq_true rfl⟩ (Nat.le_of_ble_eq_true rfl) ⟨Nat.le_of_ble_eq_true rfl, Nat.le_of_ble_eq_true rfl⟩ dX7_readOne_68 rfl (st := []) (fun x_517400 I_517401 J_517402 h_517403 => ?_)
          obtain ⟨hUI_517401, hFI_517401, hGJ_517402, rx_517400⟩ := h_517403
          have hF_517404 := fq_tr hF_517364 hFI_517401 (by decide)
          have hG_517405 := fq_tr hG_517365 hGJ_517402 (by decide)
          refine g_if_eq C (tgt := 87) dX7_readOne_71 (by decide) (fun h_517406 => ?_) (fun h_517406 => ?_)
          · skip
            have r_517407 := (⟨(rx_517400).1, (eq_rg (h_517406) rc_0).2⟩ : Rg 0 0 x_517400)
            refine g_iconst C (v := 0) dX7_readOne_87 (by decide) ?_
            exact g_zret (ty := .boolean) (r := 0) B K rfl (rfl) ⟨hUI_517401, hF_517404, hG_517405, rg_w rc_0 (by decide) (by decide)⟩ dX7_readOne_88
          · skip
            have n_517408 : ¬ x_517400 = 0 := h_517406
            have r_517409 := ne_lo (lo := 1) n_517408 rx_517400 rc_0 rfl (by decide)
            refine g_aload_n C 2 dX7_readOne_74 rfl rfl ?_
            refine g_bipush C (v := 41) dX7_readOne_75 (by decide) ?_
            refine g_callVI C K (c_X10_take W9 hLa0 hka0 41 (rg_w rc_41 (by decide) (by decide)) hUI_517401) hLa0 hka0 (by decide) rfl v_7_50 rfl ⟨rfl, rfl⟩ ⟨Nat.le_of_ble_eq_true rfl, Nat.le_of_ble_eq_true rfl⟩ (Nat.le_of_ble_eq_true rfl) ⟨Nat.le_of_ble_eq_true rfl, Nat.le_of_ble_eq_true rfl⟩ dX7_readOne_77 rfl (st := []) (fun x_517410 I_517411 J_517412 h_517413 => ?_)
            obtain ⟨hUI_517411, hFI_517411, hGJ_517412, rx_517410⟩ := h_517413
            have hF_517414 := fq_tr hF_517404 hFI_517411 (by decide)
            have hG_517415 := fq_tr hG_517405 hGJ_517412 (by decide)
            refine g_if_eq C (tgt := 87) dX7_readOne_80 (by decide) (fun h_517416 => ?_) (fun h_517416 => ?_)
            · skip
              have r_517417 := (⟨(rx_517410).1, (eq_rg (h_517416) rc_0).2⟩ : Rg 0 0 x_517410)
              refine g_iconst C (v := 0) dX7_readOne_87 (by decide) ?_
              exact g_zret (ty := .boolean) (r := 0) B K rfl (rfl) ⟨hUI_517411, hF_517414, hG_517415, rg_w rc_0 (by decide) (by decide)⟩ dX7_readOne_88
            · skip
              have n_517418 : ¬ x_517410 = 0 := h_517416
              have r_517419 := ne_lo (lo := 1) n_517418 rx_517410 rc_0 rfl (by decide)
              refine g_iconst C (v := 1) dX7_readOne_83 (by decide) ?_
              refine g_goto C (tgt := 88) dX7_readOne_84 (by decide) ?_
              exact g_zret (ty := .boolean) (r := 1) B K rfl (rfl) ⟨hUI_517411, hF_517414, hG_517415, rg_w rc_1 (by decide) (by decide)⟩ dX7_readOne_88
      · skip
        have r_517420 := lt_r (lo := 9) (nle h_517355) rc_8 ra2 (by decide)
        exact rg_no r_517420 (by decide)
  · skip
    have r_517421 := (⟨(rx_517344).1, (eq_rg (h_517348) rc_0).2⟩ : Rg 0 0 x_517344)
    refine g_aload_n C 2 dX7_readOne_14 rfl rfl ?_
    refine g_iconst C (v := 1) dX7_readOne_15 (by decide) ?_
    refine g_callVI C K (c_X10_fail W9 hLa0 hka0 1 (rg_w rc_1 (by decide) (by decide)) hU) hLa0 hka0 (by decide) rfl v_7_73 rfl ⟨rfl, rfl⟩ ⟨Nat.le_of_ble_eq_true rfl, Nat.le_of_ble_eq_true rfl⟩ (Nat.le_of_ble_eq_true rfl) ⟨Nat.le_of_ble_eq_true rfl, Nat.le_of_ble_eq_true rfl⟩ dX7_readOne_16 rfl (st := []) (fun x_517422 I_517423 J_517424 h_517425 => ?_)
    obtain ⟨hUI_517423, hFI_517423, hGJ_517424, rx_517422⟩ := h_517425
    have hF_517426 := fq_tr hF hFI_517423 (by decide)
    have hG_517427 := fq_tr hG hGJ_517424 (by decide)
    exact g_zret (ty := .boolean) (r := x_517422) B K rfl (nar_z (rg_w rx_517422 (by decide) (by decide))) ⟨hUI_517423, hF_517426, hG_517427, rg_w rx_517422 (by decide) (by decide)⟩ dX7_readOne_19
set_option maxRecDepth 100000 in
set_option maxHeartbeats 8000000 in
theorem c_X7_readAll_2 {l : Launch} {D : va_G} {cy : Nat → ClassId} {L : List Nat} {κ ln : Nat → Nat} {R : Nat → Nat → Option Nat} {I : Nat → Nat → Int32} {J : Nat → Nat → Int64} {ow : Nat → Nat × Nat} (W9 : ∀ a ∈ L, Shp L κ ln R ow a) {x : Nat} (hLx : x ∈ L) (hkx : κ x = 7) {a0 : Nat} (hLa0 : a0 ∈ L) (hka0 : κ a0 = 10) {a1 : Nat} (hLa1 : a1 ∈ L) (hka1 : κ a1 = 8) (a2 : Int32) (ra2 : Rg 2 2 a2) (hU : Iv L κ R ow I) : CtI l yX7_readAll cX7_readAll 6 (some .boolean) { frames := 23, cells := 0, slots := 0, locals := 563 } D cy L κ ln R I J [.ref x, .ref a0, .ref a1, .int a2] (fun r I2 J2 => Iv L κ R ow I2 ∧ Fq L κ ow [704, 705, 1007, 1008, 1009, 1011, 1012, 52000, 52100, 52200] I I2 ∧ Fq L κ ow [1010] J J2 ∧ Rg 0 1 r) := by
  refine CtI.of (by decide +kernel) (Nat.le_of_ble_eq_true rfl) ?_
  intro p e s m below meth c B K
  have C := B.1
  have hF : Fq L κ ow [704, 705, 1007, 1008, 1009, 1011, 1012, 52000, 52100, 52200] I I := fq_rf
  have hG : Fq L κ ow [1010] J J := fq_rf
  refine g_lo (is := [0, 1, 2, 3]) (lo2 := [(0, .ref x), (1, .ref a0), (2, .ref a1), (3, .int a2)]) rfl ?_
  have l_12 : ∀ (n_12 : Nat) (I_518071 : Nat → Nat → Int32) (J_518072 : Nat → Nat → Int64) (hU_518073 : Iv L κ R ow I_518071) (hF_518074 : Fq L κ ow [704, 705, 1007, 1008, 1009, 1011, 1012, 52000, 52100, 52200] I I_518071) (hG_518075 : Fq L κ ow [1010] J J_518072) (v_518076 : Int32) (rv_518076 : Rg 2 2 v_518076) (v_518077 : Int32) (rv_518077 : Rg 0 1 v_518077) (v_518078 : Int32) (rv_518078 : Rg 0 20 v_518078) (hm_518079 : 20 < (v_518078 : Int32).toInt + (n_12 : Int)), WG p l e { frames := 23, cells := 0, slots := 0, locals := 563 } s m ([.ref x, .ref a0, .ref a1, .int a2] : List Value).toArray below meth c 6 0 0 (MQ below (Qi_ D cy L κ ln R (fun r I2 J2 => Iv L κ R ow I2 ∧ Fq L κ ow [704, 705, 1007, 1008, 1009, 1011, 1012, 52000, 52100, 52200] I I2 ∧ Fq L κ ow [1010] J J2 ∧ Rg 0 1 r)) ([.ref x, .ref a0, .ref a1, .int a2] : List Value).toArray s 0 0 (Al_ L)) D cy (Al_ L) s.heap L κ ln R I_518071 J_518072 12 [(0, .ref x), (1, .ref a0), (2, .ref a1), (3, .int v_518076), (4, .int v_518077), (5, .int v_518078)] [] := by
    intro n_12
    induction n_12 with
    | zero =>
      intro I_518071 J_518072 hU_518073 hF_518074 hG_518075 v_518076 rv_518076 v_518077 rv_518077 v_518078 rv_518078 hm_518079
      exact ms_0 rv_518078 hm_518079
    | succ n_12 ih_12 =>
      intro I_518071 J_518072 hU_518073 hF_518074 hG_518075 v_518076 rv_518076 v_518077 rv_518077 v_518078 rv_518078 hm_518079
      have j_62 : ∀ (I_518080 : Nat → Nat → Int32) (J_518081 : Nat → Nat → Int64) (hU_518082 : Iv L κ R ow I_518080) (hF_518083 : Fq L κ ow [704, 705, 1007, 1008, 1009, 1011, 1012, 52000, 52100, 52200] I I_518080) (hG_518084 : Fq L κ ow [1010] J J_518081) (v_518085 : Int32) (rv_518085 : Rg 2 2 v_518085) (v_518086 : Int32) (rv_518086 : Rg 1 1 v_518086) (nv_518086_0 : ¬ v_518086 = 0) (v_518087 : Int32) (rv_518087 : Rg 0 19 v_518087) (hm_518088 : 20 < (v_518087 : Int32).toInt + ((n_12 + 1 : Nat) : Int)), WG p l e { frames := 23, cells := 0, slots := 0, locals := 563 } s m ([.ref x, .ref a0, .ref a1, .int a2] : List Value).toArray below meth c 6 0 0 (MQ below (Qi_ D cy L κ ln R (fun r I2 J2 => Iv L κ R ow I2 ∧ Fq L κ ow [704, 705, 1007, 1008, 1009, 1011, 1012, 52000, 52100, 52200] I I2 ∧ Fq L κ ow [1010] J J2 ∧ Rg 0 1 r)) ([.ref x, .ref a0, .ref a1, .int a2] : List Value).toArray s 0 0 (Al_ L)) D cy (Al_ L) s.heap L κ ln R I_518080 J_518081 62 [(0, .ref x), (1, .ref a0), (2, .ref a1), (3, .int v_518085), (4, .int v_518086), (5, .int v_518087)] [] := by
        intro I_518080 J_518081 hU_518082 hF_518083 hG_518084 v_518085 rv_518085 v_518086 rv_518086 nv_518086_0 v_518087 rv_518087 hm_518088
        refine g_iconst C (v := 0) dX7_readAll_62 (by decide) ?_
        refine g_istore C dX7_readAll_63 (by decide) (lo2 := [(4, .int 0), (0, .ref x), (1, .ref a0), (2, .ref a1), (3, .int v_518085), (5, .int v_518087)]) rfl ?_
        obtain ⟨x_518089, hx_518089, rx_518089, tx_518089⟩ := ex_add (y := 1) 1 20 rv_518087 rc_1 (by decide) (by decide) (by decide) (by decide)
        refine g_iinc C dX7_readAll_65 (k := 5) (v := x_518089) rfl hx_518089 (by decide) (lo2 := [(5, .int x_518089), (4, .int 0), (0, .ref x), (1, .ref a0), (2, .ref a1), (3, .int v_518085)]) rfl ?_
        refine g_goto C (tgt := 12) dX7_readAll_68 (by decide) ?_
        refine g_lo (is := [2, 3, 4, 5, 1, 0]) (lo2 := [(0, .ref x), (1, .ref a0), (2, .ref a1), (3, .int v_518085), (4, .int 0), (5, .int x_518089)]) rfl ?_
        exact ih_12 I_518080 J_518081 hU_518082 hF_518083 hG_518084 v_518085 (rv_518085) 0 (rg_w rc_0 (by decide) (by decide)) x_518089 (rg_w rx_518089 (by decide) (by decide)) (ms_1 hm_518088 (ti_k tx_518089 rc_1) (by decide))
      refine g_iload C 5 dX7_readAll_12 rfl ?_
      refine g_bipush C (v := 20) dX7_readAll_14 (by decide) ?_
      refine g_icmp_ge C (tgt := 71) dX7_readAll_16 (by decide) (fun h_518090 => ?_) (fun h_518090 => ?_)
      · skip
        have r_518091 := le_r (h_518090) rc_20 rv_518078
        refine g_iload C 4 dX7_readAll_71 rfl ?_
        exact g_zret (ty := .boolean) (r := v_518077) B K rfl (nar_z (rv_518077)) ⟨hU_518073, hF_518074, hG_518075, rv_518077⟩ dX7_readAll_73
      · skip
        have r_518092 := lt_l (hi := 19) (nle h_518090) rv_518078 rc_20 (by decide)
        refine g_iload C 4 dX7_readAll_19 rfl ?_
        refine g_if_eq C (tgt := 71) dX7_readAll_21 (by decide) (fun h_518093 => ?_) (fun h_518093 => ?_)
        · skip
          have r_518094 := (⟨(rv_518077).1, (eq_rg (h_518093) rc_0).2⟩ : Rg 0 0 v_518077)
          refine g_iload C 4 dX7_readAll_71 rfl ?_
          exact g_zret (ty := .boolean) (r := v_518077) B K rfl (nar_z (rg_w r_518094 (by decide) (by decide))) ⟨hU_518073, hF_518074, hG_518075, rg_w r_518094 (by decide) (by decide)⟩ dX7_readAll_73
        · skip
          have n_518095 : ¬ v_518077 = 0 := h_518093
          have r_518096 := ne_lo (lo := 1) n_518095 rv_518077 rc_0 rfl (by decide)
          refine g_aload_n C 1 dX7_readAll_24 rfl rfl ?_
          obtain ⟨x_518097, hx_518097, rx_518097⟩ := ex_get (I := I_518071) (a := a0) (j := 8) (lo := (-2147483648)) (hi := 2147483647) hU_518073.1 hLa0 (ro_o hka0 (by decide)) rfl
          refine g_getI C K hLa0 hka0 f_7_57 (v := x_518097) hx_518097 dX7_readAll_25 ?_
          refine g_bipush C (v := 18) dX7_readAll_28 (by decide) ?_
          refine g_icmp_ne C (tgt := 71) dX7_readAll_30 (by decide) (fun h_518098 => ?_) (fun h_518098 => ?_)
          · skip
            have n_518099 : ¬ x_518097 = 18 := h_518098
            refine g_iload C 4 dX7_readAll_71 rfl ?_
            exact g_zret (ty := .boolean) (r := v_518077) B K rfl (nar_z (rg_w r_518096 (by decide) (by decide))) ⟨hU_518073, hF_518074, hG_518075, rg_w r_518096 (by decide) (by decide)⟩ dX7_readAll_73
          · skip
            have r_518100 := (⟨(eq_rg (h_518098) rc_18).1, (eq_rg (h_518098) rc_18).2⟩ : Rg 18 18 x_518097)
            refine g_aload_n C 1 dX7_readAll_33 rfl rfl ?_
            refine g_callVV C K (c_X10_advance W9 hLa0 hka0   hU_518073) hLa0 hka0 (by decide) rfl v_7_60 rfl ⟨rfl, rfl⟩ ⟨Nat.le_of_ble_eq_true rfl, Nat.le_of_ble_eq_true rfl⟩ (Nat.le_of_ble_eq_true rfl) ⟨Nat.le_of_ble_eq_true rfl, Nat.le_of_ble_eq_true rfl⟩ dX7_readAll_34 rfl (st := []) (fun I_518102 J_518103 h_518104 => ?_)
            obtain ⟨hUI_518102, hFI_518102, hGJ_518103⟩ := h_518104
            have hF_518105 := fq_tr hF_518074 hFI_518102 (by decide)
            have hG_518106 := fq_tr hG_518075 hGJ_518103 (by decide)
            refine g_aload_n C 0 dX7_readAll_37 rfl rfl ?_
            refine g_aload_n C 1 dX7_readAll_38 rfl rfl ?_
            refine g_aload_n C 2 dX7_readAll_39 rfl rfl ?_
            refine g_iload_n C 3 dX7_readAll_40 rfl rfl ?_
            refine g_callVI C K (c_X7_readOne_2 W9 hLx hkx hLa0 hka0 hLa1 hka1 v_518076 (rv_518076) hUI_518102) hLx hkx (by decide) rfl v_7_67 rfl ⟨rfl, rfl⟩ ⟨Nat.le_of_ble_eq_true rfl, Nat.le_of_ble_eq_true rfl⟩ (Nat.le_of_ble_eq_true rfl) ⟨Nat.le_of_ble_eq_true rfl, Nat.le_of_ble_eq_true rfl⟩ dX7_readAll_41 rfl (st := []) (fun x_518107 I_518108 J_518109 h_518110 => ?_)
            obtain ⟨hUI_518108, hFI_518108, hGJ_518109, rx_518107⟩ := h_518110
            have hF_518111 := fq_tr hF_518105 hFI_518108 (by decide)
            have hG_518112 := fq_tr hG_518106 hGJ_518109 (by decide)
            refine g_if_eq C (tgt := 62) dX7_readAll_44 (by decide) (fun h_518113 => ?_) (fun h_518113 => ?_)
            · skip
              have r_518114 := (⟨(rx_518107).1, (eq_rg (h_518113) rc_0).2⟩ : Rg 0 0 x_518107)
              refine g_lo (is := [0, 1, 2, 3, 4, 5]) (lo2 := [(0, .ref x), (1, .ref a0), (2, .ref a1), (3, .int v_518076), (4, .int v_518077), (5, .int v_518078)]) rfl ?_
              exact j_62 I_518108 J_518109 hUI_518108 hF_518111 hG_518112 v_518076 (rv_518076) v_518077 (r_518096) (n_518095) v_518078 (r_518092) hm_518079
            · skip
              have n_518115 : ¬ x_518107 = 0 := h_518113
              have r_518116 := ne_lo (lo := 1) n_518115 rx_518107 rc_0 rfl (by decide)
              refine g_aload_n C 0 dX7_readAll_47 rfl rfl ?_
              refine g_bipush C (v := 18) dX7_readAll_48 (by decide) ?_
              refine g_iconst C (v := 0) dX7_readAll_50 (by decide) ?_
              refine g_iconst C (v := 0) dX7_readAll_51 (by decide) ?_
              refine g_callVI C K (c_X7_addStep W9 hLx hkx 18 0 0 (rg_w rc_0 (by decide) (by decide)) hUI_518108  (fun q => absurd q (by decide))) hLx hkx (by decide) rfl v_7_63 rfl ⟨rfl, rfl⟩ ⟨Nat.le_of_ble_eq_true rfl, Nat.le_of_ble_eq_true rfl⟩ (Nat.le_of_ble_eq_true rfl) ⟨Nat.le_of_ble_eq_true rfl, Nat.le_of_ble_eq_true rfl⟩ dX7_readAll_52 rfl (st := []) (fun x_518117 I_518118 J_518119 h_518120 => ?_)
              obtain ⟨hUI_518118, hFI_518118, hGJ_518119, rx_518117⟩ := h_518120
              have hF_518121 := fq_tr hF_518111 hFI_518118 (by decide)
              have hG_518122 := fq_tr hG_518112 hGJ_518119 (by decide)
              refine g_if_eq C (tgt := 62) dX7_readAll_55 (by decide) (fun h_518123 => ?_) (fun h_518123 => ?_)
              · skip
                have r_518124 := (⟨(rx_518117).1, (eq_rg (h_518123) rc_0).2⟩ : Rg 0 0 x_518117)
                refine g_lo (is := [0, 1, 2, 3, 4, 5]) (lo2 := [(0, .ref x), (1, .ref a0), (2, .ref a1), (3, .int v_518076), (4, .int v_518077), (5, .int v_518078)]) rfl ?_
                exact j_62 I_518118 J_518119 hUI_518118 hF_518121 hG_518122 v_518076 (rv_518076) v_518077 (r_518096) (n_518095) v_518078 (r_518092) hm_518079
              · skip
                have n_518125 : ¬ x_518117 = 0 := h_518123
                have r_518126 := ne_lo (lo := 1) n_518125 rx_518117 rc_0 rfl (by decide)
                refine g_iconst C (v := 1) dX7_readAll_58 (by decide) ?_
                refine g_goto C (tgt := 63) dX7_readAll_59 (by decide) ?_
                refine g_istore C dX7_readAll_63 (by decide) (lo2 := [(4, .int 1), (0, .ref x), (1, .ref a0), (2, .ref a1), (3, .int v_518076), (5, .int v_518078)]) rfl ?_
                obtain ⟨x_518127, hx_518127, rx_518127, tx_518127⟩ := ex_add (y := 1) 1 20 r_518092 rc_1 (by decide) (by decide) (by decide) (by decide)
                refine g_iinc C dX7_readAll_65 (k := 5) (v := x_518127) rfl hx_518127 (by decide) (lo2 := [(5, .int x_518127), (4, .int 1), (0, .ref x), (1, .ref a0), (2, .ref a1), (3, .int v_518076)]) rfl ?_
                refine g_goto C (tgt := 12) dX7_readAll_68 (by decide) ?_
                refine g_lo (is := [2, 3, 4, 5, 1, 0]) (lo2 := [(0, .ref x), (1, .ref a0), (2, .ref a1), (3, .int v_518076), (4, .int 1), (5, .int x_518127)]) rfl ?_
                exact ih_12 I_518118 J_518119 hUI_518118 hF_518121 hG_518122 v_518076 (rv_518076) 1 (rg_w rc_1 (by decide) (by decide)) x_518127 (rg_w rx_518127 (by decide) (by decide)) (ms_1 hm_518079 (ti_k tx_518127 rc_1) (by decide))
  refine g_aload_n C 0 dX7_readAll_0 rfl rfl ?_
  refine g_aload_n C 1 dX7_readAll_1 rfl rfl ?_
  refine g_aload_n C 2 dX7_readAll_2 rfl rfl ?_
  refine g_iload_n C 3 dX7_readAll_3 rfl rfl ?_
  refine g_callVI C K (c_X7_readOne_2 W9 hLx hkx hLa0 hka0 hLa1 hka1 a2 (ra2) hU) hLx hkx (by decide) rfl v_7_67 rfl ⟨rfl, rfl⟩ ⟨Nat.le_of_ble_eq_true rfl, Nat.le_of_ble_eq_true rfl⟩ (Nat.le_of_ble_eq_true rfl) ⟨Nat.le_of_ble_eq_true rfl, Nat.le_of_ble_eq_true rfl⟩ dX7_readAll_4 rfl (st := []) (fun x_518128 I_518129 J_518130 h_518131 => ?_)
  obtain ⟨hUI_518129, hFI_518129, hGJ_518130, rx_518128⟩ := h_518131
  have hF_518132 := fq_tr hF hFI_518129 (by decide)
  have hG_518133 := fq_tr hG hGJ_518130 (by decide)
  refine g_istore C dX7_readAll_7 (by decide) (lo2 := [(4, .int x_518128), (0, .ref x), (1, .ref a0), (2, .ref a1), (3, .int a2)]) rfl ?_
  refine g_iconst C (v := 0) dX7_readAll_9 (by decide) ?_
  refine g_istore C dX7_readAll_10 (by decide) (lo2 := [(5, .int 0), (4, .int x_518128), (0, .ref x), (1, .ref a0), (2, .ref a1), (3, .int a2)]) rfl ?_
  refine g_lo (is := [2, 3, 4, 5, 1, 0]) (lo2 := [(0, .ref x), (1, .ref a0), (2, .ref a1), (3, .int a2), (4, .int x_518128), (5, .int 0)]) rfl ?_
  exact l_12 21 I_518129 J_518130 hUI_518129 hF_518132 hG_518133 a2 (ra2) x_518128 (rx_518128) 0 (rg_w rc_0 (by decide) (by decide)) (ms_s (a := 0) (b := 20) (N := 21) (rg_w rc_0 (by decide) (by decide)) (by decide))
set_option maxRecDepth 100000 in
set_option maxHeartbeats 8000000 in
theorem c_X7_readCond_2 {l : Launch} {D : va_G} {cy : Nat → ClassId} {L : List Nat} {κ ln : Nat → Nat} {R : Nat → Nat → Option Nat} {I : Nat → Nat → Int32} {J : Nat → Nat → Int64} {ow : Nat → Nat × Nat} (W9 : ∀ a ∈ L, Shp L κ ln R ow a) {x : Nat} (hLx : x ∈ L) (hkx : κ x = 7) {a0 : Nat} (hLa0 : a0 ∈ L) (hka0 : κ a0 = 10) {a1 : Nat} (hLa1 : a1 ∈ L) (hka1 : κ a1 = 8) (a2 : Int32) (ra2 : Rg 2 2 a2) (hU : Iv L κ R ow I) : CtI l yX7_readCond cX7_readCond 6 (some .boolean) { frames := 24, cells := 0, slots := 0, locals := 588 } D cy L κ ln R I J [.ref x, .ref a0, .ref a1, .int a2] (fun r I2 J2 => Iv L κ R ow I2 ∧ Fq L κ ow [704, 705, 1007, 1008, 1009, 1011, 1012, 52000, 52100, 52200] I I2 ∧ Fq L κ ow [1010] J J2 ∧ Rg 0 1 r) := by
  refine CtI.of (by decide +kernel) (Nat.le_of_ble_eq_true rfl) ?_
  intro p e s m below meth c B K
  have C := B.1
  have hF : Fq L κ ow [704, 705, 1007, 1008, 1009, 1011, 1012, 52000, 52100, 52200] I I := fq_rf
  have hG : Fq L κ ow [1010] J J := fq_rf
  refine g_lo (is := [0, 1, 2, 3]) (lo2 := [(0, .ref x), (1, .ref a0), (2, .ref a1), (3, .int a2)]) rfl ?_
  have l_12 : ∀ (n_12 : Nat) (I_518814 : Nat → Nat → Int32) (J_518815 : Nat → Nat → Int64) (hU_518816 : Iv L κ R ow I_518814) (hF_518817 : Fq L κ ow [704, 705, 1007, 1008, 1009, 1011, 1012, 52000, 52100, 52200] I I_518814) (hG_518818 : Fq L κ ow [1010] J J_518815) (v_518819 : Int32) (rv_518819 : Rg 2 2 v_518819) (v_518820 : Int32) (rv_518820 : Rg 0 1 v_518820) (v_518821 : Int32) (rv_518821 : Rg 0 20 v_518821) (hm_518822 : 20 < (v_518821 : Int32).toInt + (n_12 : Int)), WG p l e { frames := 24, cells := 0, slots := 0, locals := 588 } s m ([.ref x, .ref a0, .ref a1, .int a2] : List Value).toArray below meth c 6 0 0 (MQ below (Qi_ D cy L κ ln R (fun r I2 J2 => Iv L κ R ow I2 ∧ Fq L κ ow [704, 705, 1007, 1008, 1009, 1011, 1012, 52000, 52100, 52200] I I2 ∧ Fq L κ ow [1010] J J2 ∧ Rg 0 1 r)) ([.ref x, .ref a0, .ref a1, .int a2] : List Value).toArray s 0 0 (Al_ L)) D cy (Al_ L) s.heap L κ ln R I_518814 J_518815 12 [(0, .ref x), (1, .ref a0), (2, .ref a1), (3, .int v_518819), (4, .int v_518820), (5, .int v_518821)] [] := by
    intro n_12
    induction n_12 with
    | zero =>
      intro I_518814 J_518815 hU_518816 hF_518817 hG_518818 v_518819 rv_518819 v_518820 rv_518820 v_518821 rv_518821 hm_518822
      exact ms_0 rv_518821 hm_518822
    | succ n_12 ih_12 =>
      intro I_518814 J_518815 hU_518816 hF_518817 hG_518818 v_518819 rv_518819 v_518820 rv_518820 v_518821 rv_518821 hm_518822
      have j_62 : ∀ (I_518823 : Nat → Nat → Int32) (J_518824 : Nat → Nat → Int64) (hU_518825 : Iv L κ R ow I_518823) (hF_518826 : Fq L κ ow [704, 705, 1007, 1008, 1009, 1011, 1012, 52000, 52100, 52200] I I_518823) (hG_518827 : Fq L κ ow [1010] J J_518824) (v_518828 : Int32) (rv_518828 : Rg 2 2 v_518828) (v_518829 : Int32) (rv_518829 : Rg 1 1 v_518829) (nv_518829_0 : ¬ v_518829 = 0) (v_518830 : Int32) (rv_518830 : Rg 0 19 v_518830) (hm_518831 : 20 < (v_518830 : Int32).toInt + ((n_12 + 1 : Nat) : Int)), WG p l e { frames := 24, cells := 0, slots := 0, locals := 588 } s m ([.ref x, .ref a0, .ref a1, .int a2] : List Value).toArray below meth c 6 0 0 (MQ below (Qi_ D cy L κ ln R (fun r I2 J2 => Iv L κ R ow I2 ∧ Fq L κ ow [704, 705, 1007, 1008, 1009, 1011, 1012, 52000, 52100, 52200] I I2 ∧ Fq L κ ow [1010] J J2 ∧ Rg 0 1 r)) ([.ref x, .ref a0, .ref a1, .int a2] : List Value).toArray s 0 0 (Al_ L)) D cy (Al_ L) s.heap L κ ln R I_518823 J_518824 62 [(0, .ref x), (1, .ref a0), (2, .ref a1), (3, .int v_518828), (4, .int v_518829), (5, .int v_518830)] [] := by
        intro I_518823 J_518824 hU_518825 hF_518826 hG_518827 v_518828 rv_518828 v_518829 rv_518829 nv_518829_0 v_518830 rv_518830 hm_518831
        refine g_iconst C (v := 0) dX7_readCond_62 (by decide) ?_
        refine g_istore C dX7_readCond_63 (by decide) (lo2 := [(4, .int 0), (0, .ref x), (1, .ref a0), (2, .ref a1), (3, .int v_518828), (5, .int v_518830)]) rfl ?_
        obtain ⟨x_518832, hx_518832, rx_518832, tx_518832⟩ := ex_add (y := 1) 1 20 rv_518830 rc_1 (by decide) (by decide) (by decide) (by decide)
        refine g_iinc C dX7_readCond_65 (k := 5) (v := x_518832) rfl hx_518832 (by decide) (lo2 := [(5, .int x_518832), (4, .int 0), (0, .ref x), (1, .ref a0), (2, .ref a1), (3, .int v_518828)]) rfl ?_
        refine g_goto C (tgt := 12) dX7_readCond_68 (by decide) ?_
        refine g_lo (is := [2, 3, 4, 5, 1, 0]) (lo2 := [(0, .ref x), (1, .ref a0), (2, .ref a1), (3, .int v_518828), (4, .int 0), (5, .int x_518832)]) rfl ?_
        exact ih_12 I_518823 J_518824 hU_518825 hF_518826 hG_518827 v_518828 (rv_518828) 0 (rg_w rc_0 (by decide) (by decide)) x_518832 (rg_w rx_518832 (by decide) (by decide)) (ms_1 hm_518831 (ti_k tx_518832 rc_1) (by decide))
      refine g_iload C 5 dX7_readCond_12 rfl ?_
      refine g_bipush C (v := 20) dX7_readCond_14 (by decide) ?_
      refine g_icmp_ge C (tgt := 71) dX7_readCond_16 (by decide) (fun h_518833 => ?_) (fun h_518833 => ?_)
      · skip
        have r_518834 := le_r (h_518833) rc_20 rv_518821
        refine g_iload C 4 dX7_readCond_71 rfl ?_
        exact g_zret (ty := .boolean) (r := v_518820) B K rfl (nar_z (rv_518820)) ⟨hU_518816, hF_518817, hG_518818, rv_518820⟩ dX7_readCond_73
      · skip
        have r_518835 := lt_l (hi := 19) (nle h_518833) rv_518821 rc_20 (by decide)
        refine g_iload C 4 dX7_readCond_19 rfl ?_
        refine g_if_eq C (tgt := 71) dX7_readCond_21 (by decide) (fun h_518836 => ?_) (fun h_518836 => ?_)
        · skip
          have r_518837 := (⟨(rv_518820).1, (eq_rg (h_518836) rc_0).2⟩ : Rg 0 0 v_518820)
          refine g_iload C 4 dX7_readCond_71 rfl ?_
          exact g_zret (ty := .boolean) (r := v_518820) B K rfl (nar_z (rg_w r_518837 (by decide) (by decide))) ⟨hU_518816, hF_518817, hG_518818, rg_w r_518837 (by decide) (by decide)⟩ dX7_readCond_73
        · skip
          have n_518838 : ¬ v_518820 = 0 := h_518836
          have r_518839 := ne_lo (lo := 1) n_518838 rv_518820 rc_0 rfl (by decide)
          refine g_aload_n C 1 dX7_readCond_24 rfl rfl ?_
          obtain ⟨x_518840, hx_518840, rx_518840⟩ := ex_get (I := I_518814) (a := a0) (j := 8) (lo := (-2147483648)) (hi := 2147483647) hU_518816.1 hLa0 (ro_o hka0 (by decide)) rfl
          refine g_getI C K hLa0 hka0 f_7_57 (v := x_518840) hx_518840 dX7_readCond_25 ?_
          refine g_bipush C (v := 17) dX7_readCond_28 (by decide) ?_
          refine g_icmp_ne C (tgt := 71) dX7_readCond_30 (by decide) (fun h_518841 => ?_) (fun h_518841 => ?_)
          · skip
            have n_518842 : ¬ x_518840 = 17 := h_518841
            refine g_iload C 4 dX7_readCond_71 rfl ?_
            exact g_zret (ty := .boolean) (r := v_518820) B K rfl (nar_z (rg_w r_518839 (by decide) (by decide))) ⟨hU_518816, hF_518817, hG_518818, rg_w r_518839 (by decide) (by decide)⟩ dX7_readCond_73
          · skip
            have r_518843 := (⟨(eq_rg (h_518841) rc_17).1, (eq_rg (h_518841) rc_17).2⟩ : Rg 17 17 x_518840)
            refine g_aload_n C 1 dX7_readCond_33 rfl rfl ?_
            refine g_callVV C K (c_X10_advance W9 hLa0 hka0   hU_518816) hLa0 hka0 (by decide) rfl v_7_60 rfl ⟨rfl, rfl⟩ ⟨Nat.le_of_ble_eq_true rfl, Nat.le_of_ble_eq_true rfl⟩ (Nat.le_of_ble_eq_true rfl) ⟨Nat.le_of_ble_eq_true rfl, Nat.le_of_ble_eq_true rfl⟩ dX7_readCond_34 rfl (st := []) (fun I_518845 J_518846 h_518847 => ?_)
            obtain ⟨hUI_518845, hFI_518845, hGJ_518846⟩ := h_518847
            have hF_518848 := fq_tr hF_518817 hFI_518845 (by decide)
            have hG_518849 := fq_tr hG_518818 hGJ_518846 (by decide)
            refine g_aload_n C 0 dX7_readCond_37 rfl rfl ?_
            refine g_aload_n C 1 dX7_readCond_38 rfl rfl ?_
            refine g_aload_n C 2 dX7_readCond_39 rfl rfl ?_
            refine g_iload_n C 3 dX7_readCond_40 rfl rfl ?_
            refine g_callVI C K (c_X7_readAll_2 W9 hLx hkx hLa0 hka0 hLa1 hka1 v_518819 (rv_518819) hUI_518845) hLx hkx (by decide) rfl v_7_54 rfl ⟨rfl, rfl⟩ ⟨Nat.le_of_ble_eq_true rfl, Nat.le_of_ble_eq_true rfl⟩ (Nat.le_of_ble_eq_true rfl) ⟨Nat.le_of_ble_eq_true rfl, Nat.le_of_ble_eq_true rfl⟩ dX7_readCond_41 rfl (st := []) (fun x_518850 I_518851 J_518852 h_518853 => ?_)
            obtain ⟨hUI_518851, hFI_518851, hGJ_518852, rx_518850⟩ := h_518853
            have hF_518854 := fq_tr hF_518848 hFI_518851 (by decide)
            have hG_518855 := fq_tr hG_518849 hGJ_518852 (by decide)
            refine g_if_eq C (tgt := 62) dX7_readCond_44 (by decide) (fun h_518856 => ?_) (fun h_518856 => ?_)
            · skip
              have r_518857 := (⟨(rx_518850).1, (eq_rg (h_518856) rc_0).2⟩ : Rg 0 0 x_518850)
              refine g_lo (is := [0, 1, 2, 3, 4, 5]) (lo2 := [(0, .ref x), (1, .ref a0), (2, .ref a1), (3, .int v_518819), (4, .int v_518820), (5, .int v_518821)]) rfl ?_
              exact j_62 I_518851 J_518852 hUI_518851 hF_518854 hG_518855 v_518819 (rv_518819) v_518820 (r_518839) (n_518838) v_518821 (r_518835) hm_518822
            · skip
              have n_518858 : ¬ x_518850 = 0 := h_518856
              have r_518859 := ne_lo (lo := 1) n_518858 rx_518850 rc_0 rfl (by decide)
              refine g_aload_n C 0 dX7_readCond_47 rfl rfl ?_
              refine g_bipush C (v := 17) dX7_readCond_48 (by decide) ?_
              refine g_iconst C (v := 0) dX7_readCond_50 (by decide) ?_
              refine g_iconst C (v := 0) dX7_readCond_51 (by decide) ?_
              refine g_callVI C K (c_X7_addStep W9 hLx hkx 17 0 0 (rg_w rc_0 (by decide) (by decide)) hUI_518851  (fun q => absurd q (by decide))) hLx hkx (by decide) rfl v_7_63 rfl ⟨rfl, rfl⟩ ⟨Nat.le_of_ble_eq_true rfl, Nat.le_of_ble_eq_true rfl⟩ (Nat.le_of_ble_eq_true rfl) ⟨Nat.le_of_ble_eq_true rfl, Nat.le_of_ble_eq_true rfl⟩ dX7_readCond_52 rfl (st := []) (fun x_518860 I_518861 J_518862 h_518863 => ?_)
              obtain ⟨hUI_518861, hFI_518861, hGJ_518862, rx_518860⟩ := h_518863
              have hF_518864 := fq_tr hF_518854 hFI_518861 (by decide)
              have hG_518865 := fq_tr hG_518855 hGJ_518862 (by decide)
              refine g_if_eq C (tgt := 62) dX7_readCond_55 (by decide) (fun h_518866 => ?_) (fun h_518866 => ?_)
              · skip
                have r_518867 := (⟨(rx_518860).1, (eq_rg (h_518866) rc_0).2⟩ : Rg 0 0 x_518860)
                refine g_lo (is := [0, 1, 2, 3, 4, 5]) (lo2 := [(0, .ref x), (1, .ref a0), (2, .ref a1), (3, .int v_518819), (4, .int v_518820), (5, .int v_518821)]) rfl ?_
                exact j_62 I_518861 J_518862 hUI_518861 hF_518864 hG_518865 v_518819 (rv_518819) v_518820 (r_518839) (n_518838) v_518821 (r_518835) hm_518822
              · skip
                have n_518868 : ¬ x_518860 = 0 := h_518866
                have r_518869 := ne_lo (lo := 1) n_518868 rx_518860 rc_0 rfl (by decide)
                refine g_iconst C (v := 1) dX7_readCond_58 (by decide) ?_
                refine g_goto C (tgt := 63) dX7_readCond_59 (by decide) ?_
                refine g_istore C dX7_readCond_63 (by decide) (lo2 := [(4, .int 1), (0, .ref x), (1, .ref a0), (2, .ref a1), (3, .int v_518819), (5, .int v_518821)]) rfl ?_
                obtain ⟨x_518870, hx_518870, rx_518870, tx_518870⟩ := ex_add (y := 1) 1 20 r_518835 rc_1 (by decide) (by decide) (by decide) (by decide)
                refine g_iinc C dX7_readCond_65 (k := 5) (v := x_518870) rfl hx_518870 (by decide) (lo2 := [(5, .int x_518870), (4, .int 1), (0, .ref x), (1, .ref a0), (2, .ref a1), (3, .int v_518819)]) rfl ?_
                refine g_goto C (tgt := 12) dX7_readCond_68 (by decide) ?_
                refine g_lo (is := [2, 3, 4, 5, 1, 0]) (lo2 := [(0, .ref x), (1, .ref a0), (2, .ref a1), (3, .int v_518819), (4, .int 1), (5, .int x_518870)]) rfl ?_
                exact ih_12 I_518861 J_518862 hUI_518861 hF_518864 hG_518865 v_518819 (rv_518819) 1 (rg_w rc_1 (by decide) (by decide)) x_518870 (rg_w rx_518870 (by decide) (by decide)) (ms_1 hm_518822 (ti_k tx_518870 rc_1) (by decide))
  refine g_aload_n C 0 dX7_readCond_0 rfl rfl ?_
  refine g_aload_n C 1 dX7_readCond_1 rfl rfl ?_
  refine g_aload_n C 2 dX7_readCond_2 rfl rfl ?_
  refine g_iload_n C 3 dX7_readCond_3 rfl rfl ?_
  refine g_callVI C K (c_X7_readAll_2 W9 hLx hkx hLa0 hka0 hLa1 hka1 a2 (ra2) hU) hLx hkx (by decide) rfl v_7_54 rfl ⟨rfl, rfl⟩ ⟨Nat.le_of_ble_eq_true rfl, Nat.le_of_ble_eq_true rfl⟩ (Nat.le_of_ble_eq_true rfl) ⟨Nat.le_of_ble_eq_true rfl, Nat.le_of_ble_eq_true rfl⟩ dX7_readCond_4 rfl (st := []) (fun x_518871 I_518872 J_518873 h_518874 => ?_)
  obtain ⟨hUI_518872, hFI_518872, hGJ_518873, rx_518871⟩ := h_518874
  have hF_518875 := fq_tr hF hFI_518872 (by decide)
  have hG_518876 := fq_tr hG hGJ_518873 (by decide)
  refine g_istore C dX7_readCond_7 (by decide) (lo2 := [(4, .int x_518871), (0, .ref x), (1, .ref a0), (2, .ref a1), (3, .int a2)]) rfl ?_
  refine g_iconst C (v := 0) dX7_readCond_9 (by decide) ?_
  refine g_istore C dX7_readCond_10 (by decide) (lo2 := [(5, .int 0), (4, .int x_518871), (0, .ref x), (1, .ref a0), (2, .ref a1), (3, .int a2)]) rfl ?_
  refine g_lo (is := [2, 3, 4, 5, 1, 0]) (lo2 := [(0, .ref x), (1, .ref a0), (2, .ref a1), (3, .int a2), (4, .int x_518871), (5, .int 0)]) rfl ?_
  exact l_12 21 I_518872 J_518873 hUI_518872 hF_518875 hG_518876 a2 (ra2) x_518871 (rx_518871) 0 (rg_w rc_0 (by decide) (by decide)) (ms_s (a := 0) (b := 20) (N := 21) (rg_w rc_0 (by decide) (by decide)) (by decide))
set_option maxRecDepth 100000 in
set_option maxHeartbeats 8000000 in
theorem c_X7_readOne_1 {l : Launch} {D : va_G} {cy : Nat → ClassId} {L : List Nat} {κ ln : Nat → Nat} {R : Nat → Nat → Option Nat} {I : Nat → Nat → Int32} {J : Nat → Nat → Int64} {ow : Nat → Nat × Nat} (W9 : ∀ a ∈ L, Shp L κ ln R ow a) {x : Nat} (hLx : x ∈ L) (hkx : κ x = 7) {a0 : Nat} (hLa0 : a0 ∈ L) (hka0 : κ a0 = 10) {a1 : Nat} (hLa1 : a1 ∈ L) (hka1 : κ a1 = 8) (a2 : Int32) (ra2 : Rg 1 1 a2) (hU : Iv L κ R ow I) : CtI l yX7_readOne cX7_readOne 5 (some .boolean) { frames := 25, cells := 0, slots := 0, locals := 613 } D cy L κ ln R I J [.ref x, .ref a0, .ref a1, .int a2] (fun r I2 J2 => Iv L κ R ow I2 ∧ Fq L κ ow [704, 705, 1007, 1008, 1009, 1011, 1012, 52000, 52100, 52200] I I2 ∧ Fq L κ ow [1010] J J2 ∧ Rg 0 1 r) := by
  refine CtI.of (by decide +kernel) (Nat.le_of_ble_eq_true rfl) ?_
  intro p e s m below meth c B K
  have C := B.1
  have hF : Fq L κ ow [704, 705, 1007, 1008, 1009, 1011, 1012, 52000, 52100, 52200] I I := fq_rf
  have hG : Fq L κ ow [1010] J J := fq_rf
  refine g_lo (is := [0, 1, 2, 3]) (lo2 := [(0, .ref x), (1, .ref a0), (2, .ref a1), (3, .int a2)]) rfl ?_
  have j_35 : ∀ (I_519059 : Nat → Nat → Int32) (J_519060 : Nat → Nat → Int64) (hU_519061 : Iv L κ R ow I_519059) (hF_519062 : Fq L κ ow [704, 705, 1007, 1008, 1009, 1011, 1012, 52000, 52100, 52200] I I_519059) (hG_519063 : Fq L κ ow [1010] J J_519060) (v_519064 : Int32) (rv_519064 : Rg 1 1 v_519064) (v_519065 : Int32) (v_519066 : Int32) (rv_519066 : Rg 20 2147483647 v_519066) (q_519067 : I_519059 a0 8 = v_519065) (q_519068 : I_519059 x 5 = v_519066), WG p l e { frames := 25, cells := 0, slots := 0, locals := 613 } s m ([.ref x, .ref a0, .ref a1, .int a2] : List Value).toArray below meth c 5 0 0 (MQ below (Qi_ D cy L κ ln R (fun r I2 J2 => Iv L κ R ow I2 ∧ Fq L κ ow [704, 705, 1007, 1008, 1009, 1011, 1012, 52000, 52100, 52200] I I2 ∧ Fq L κ ow [1010] J J2 ∧ Rg 0 1 r)) ([.ref x, .ref a0, .ref a1, .int a2] : List Value).toArray s 0 0 (Al_ L)) D cy (Al_ L) s.heap L κ ln R I_519059 J_519060 35 [(0, .ref x), (1, .ref a0), (2, .ref a1), (3, .int v_519064), (4, .int v_519065)] [] := by
    intro I_519059 J_519060 hU_519061 hF_519062 hG_519063 v_519064 rv_519064 v_519065 v_519066 rv_519066 q_519067 q_519068
    refine g_aload_n C 1 dX7_readOne_35 rfl rfl ?_
    refine g_iconst C (v := 4) dX7_readOne_36 (by decide) ?_
    refine g_callVI C K (c_X10_fail W9 hLa0 hka0 4 (rg_w rc_4 (by decide) (by decide)) hU_519061) hLa0 hka0 (by decide) rfl v_7_73 rfl ⟨rfl, rfl⟩ ⟨Nat.le_of_ble_eq_true rfl, Nat.le_of_ble_eq_true rfl⟩ (Nat.le_of_ble_eq_true rfl) ⟨Nat.le_of_ble_eq_true rfl, Nat.le_of_ble_eq_true rfl⟩ dX7_readOne_37 rfl (st := []) (fun x_519069 I_519070 J_519071 h_519072 => ?_)
    obtain ⟨hUI_519070, hFI_519070, hGJ_519071, rx_519069⟩ := h_519072
    have hF_519073 := fq_tr hF_519062 hFI_519070 (by decide)
    have hG_519074 := fq_tr hG_519063 hGJ_519071 (by decide)
    exact g_zret (ty := .boolean) (r := x_519069) B K rfl (nar_z (rg_w rx_519069 (by decide) (by decide))) ⟨hUI_519070, hF_519073, hG_519074, rg_w rx_519069 (by decide) (by decide)⟩ dX7_readOne_40
  refine g_aload_n C 1 dX7_readOne_0 rfl rfl ?_
  obtain ⟨x_519075, hx_519075, rx_519075⟩ := ex_get (I := I) (a := a0) (j := 8) (lo := (-2147483648)) (hi := 2147483647) hU.1 hLa0 (ro_o hka0 (by decide)) rfl
  refine g_getI C K hLa0 hka0 f_7_57 (v := x_519075) hx_519075 dX7_readOne_1 ?_
  refine g_istore C dX7_readOne_4 (by decide) (lo2 := [(4, .int x_519075), (0, .ref x), (1, .ref a0), (2, .ref a1), (3, .int a2)]) rfl ?_
  refine g_iload C 0 dX7_readOne_6 rfl ?_
  refine g_callSI C K (c_X7_beginsOne W9 x_519075  hU) s_7_70 rfl ⟨rfl, rfl⟩ ⟨Nat.le_of_ble_eq_true rfl, Nat.le_of_ble_eq_true rfl⟩ (Nat.le_of_ble_eq_true rfl) ⟨Nat.le_of_ble_eq_true rfl, Nat.le_of_ble_eq_true rfl⟩ dX7_readOne_8 rfl (st := []) (fun x_519076 I_519077 J_519078 h_519079 => ?_)
  obtain ⟨rfl, rfl, rx_519076⟩ := h_519079
  refine g_if_ne C (tgt := 20) dX7_readOne_11 (by decide) (fun h_519080 => ?_) (fun h_519080 => ?_)
  · skip
    have n_519081 : ¬ x_519076 = 0 := h_519080
    have r_519082 := ne_lo (lo := 1) n_519081 rx_519076 rc_0 rfl (by decide)
    refine g_aload_n C 1 dX7_readOne_20 rfl rfl ?_
    obtain ⟨x_519083, hx_519083, rx_519083⟩ := ex_get (I := I) (a := x) (j := 5) (lo := (-2147483648)) (hi := 2147483647) hU.1 hLx (ro_o hkx (by decide)) rfl
    refine g_getI C K hLx hkx f_7_28 (v := x_519083) hx_519083 dX7_readOne_21 ?_
    refine g_bipush C (v := 20) dX7_readOne_24 (by decide) ?_
    refine g_icmp_ge C (tgt := 35) dX7_readOne_26 (by decide) (fun h_519084 => ?_) (fun h_519084 => ?_)
    · skip
      have r_519085 := le_r (h_519084) rc_20 rx_519083
      refine g_lo (is := [1, 2, 3, 4, 0]) (lo2 := [(0, .ref x), (1, .ref a0), (2, .ref a1), (3, .int a2), (4, .int x_519075)]) rfl ?_
      exact j_35 I J hU hF hG a2 (ra2) x_519075 x_519083 (r_519085) hx_519075 hx_519083
    · skip
      have r_519086 := lt_l (hi := 19) (nle h_519084) rx_519083 rc_20 (by decide)
      refine g_iload_n C 4 dX7_readOne_29 rfl rfl ?_
      refine g_bipush C (v := 8) dX7_readOne_30 (by decide) ?_
      refine g_icmp_le C (tgt := 41) dX7_readOne_32 (by decide) (fun h_519087 => ?_) (fun h_519087 => ?_)
      · skip
        refine g_aload_n C 1 dX7_readOne_41 rfl rfl ?_
        refine g_dup C dX7_readOne_42 rfl ?_
        refine g_getI C K hLx hkx f_7_28 (v := x_519083) hx_519083 dX7_readOne_43 ?_
        refine g_iconst C (v := 1) dX7_readOne_46 (by decide) ?_
        obtain ⟨x_519088, hx_519088, rx_519088, tx_519088⟩ := ex_add (-2147483647) 20 r_519086 rc_1 (by decide) (by decide) (by decide) (by decide)
        refine g_iadd C (v := x_519088) dX7_readOne_47 hx_519088 ?_
        refine h_putI C K hLx hkx f_7_28 p_7_5 dX7_readOne_48 (fun I_519089 hI_519089 => ?_)
        have hU_519090 := iv_put W9 hU hI_519089 (ro_o hkx (by decide)) (lo := (-2147483648)) (hi := 2147483647) (rfl) (rg_all _) rfl
        have hF_519091 := fq_puto hF hI_519089 hkx (by decide) (by decide)
        refine g_aload_n C 2 dX7_readOne_51 rfl rfl ?_
        refine g_callVV C K (c_X10_advance W9 hLa0 hka0   hU_519090) hLa0 hka0 (by decide) rfl v_7_60 rfl ⟨rfl, rfl⟩ ⟨Nat.le_of_ble_eq_true rfl, Nat.le_of_ble_eq_true rfl⟩ (Nat.le_of_ble_eq_true rfl) ⟨Nat.le_of_ble_eq_true rfl, Nat.le_of_ble_eq_true rfl⟩ dX7_readOne_52 rfl (st := []) (fun I_519093 J_519094 h_519095 => ?_)
        obtain ⟨hUI_519093, hFI_519093, hGJ_519094⟩ := h_519095
        have hF_519096 := fq_tr hF_519091 hFI_519093 (by decide)
        have hG_519097 := fq_tr hG hGJ_519094 (by decide)
        refine g_iload C 0 dX7_readOne_55 rfl ?_
        refine g_bipush C (v := 40) dX7_readOne_57 (by decide) ?_
        refine g_icmp_ne C (tgt := 89) dX7_readOne_59 (by decide) (fun h_519098 => ?_) (fun h_519098 => ?_)
        · skip
          have n_519099 : ¬ x_519075 = 40 := h_519098
          refine g_iload C 0 dX7_readOne_89 rfl ?_
          refine g_bipush C (v := 19) dX7_readOne_91 (by decide) ?_
          refine g_icmp_ne C (tgt := 125) dX7_readOne_93 (by decide) (fun h_519100 => ?_) (fun h_519100 => ?_)
          · skip
            have n_519101 : ¬ x_519075 = 19 := h_519100
            refine g_aload_n C 1 dX7_readOne_125 rfl rfl ?_
            refine g_aload_n C 2 dX7_readOne_126 rfl rfl ?_
            refine g_aload_n C 3 dX7_readOne_127 rfl rfl ?_
            refine g_iload C 0 dX7_readOne_128 rfl ?_
            refine g_callVI C K (c_X7_readPlainOne W9 hLx hkx hLa0 hka0 hLa1 hka1 x_519075  hUI_519093) hLx hkx (by decide) rfl v_7_76 rfl ⟨rfl, rfl⟩ ⟨Nat.le_of_ble_eq_true rfl, Nat.le_of_ble_eq_true rfl⟩ (Nat.le_of_ble_eq_true rfl) ⟨Nat.le_of_ble_eq_true rfl, Nat.le_of_ble_eq_true rfl⟩ dX7_readOne_130 rfl (st := []) (fun x_519102 I_519103 J_519104 h_519105 => ?_)
            obtain ⟨hUI_519103, hFI_519103, hGJ_519104, rx_519102⟩ := h_519105
            have hF_519106 := fq_tr hF_519096 hFI_519103 (by decide)
            have hG_519107 := fq_tr hG_519097 hGJ_519104 (by decide)
            exact g_zret (ty := .boolean) (r := x_519102) B K rfl (nar_z (rx_519102)) ⟨hUI_519103, hF_519106, hG_519107, rx_519102⟩ dX7_readOne_133
          · skip
            have r_519108 := (⟨(eq_rg (h_519100) rc_19).1, (eq_rg (h_519100) rc_19).2⟩ : Rg 19 19 x_519075)
            refine g_aload_n C 1 dX7_readOne_96 rfl rfl ?_
            refine g_aload_n C 2 dX7_readOne_97 rfl rfl ?_
            refine g_aload_n C 3 dX7_readOne_98 rfl rfl ?_
            refine g_iload_n C 4 dX7_readOne_99 rfl rfl ?_
            refine g_iconst C (v := 1) dX7_readOne_100 (by decide) ?_
            obtain ⟨x_519109, hx_519109, rx_519109, tx_519109⟩ := ex_add 2 2 ra2 rc_1 (by decide) (by decide) (by decide) (by decide)
            refine g_iadd C (v := x_519109) dX7_readOne_101 hx_519109 ?_
            refine g_callVI C K (c_X7_readOne_2 W9 hLx hkx hLa0 hka0 hLa1 hka1 x_519109 (rx_519109) hUI_519093) hLx hkx (by decide) rfl v_7_67 rfl ⟨rfl, rfl⟩ ⟨Nat.le_of_ble_eq_true rfl, Nat.le_of_ble_eq_true rfl⟩ (Nat.le_of_ble_eq_true rfl) ⟨Nat.le_of_ble_eq_true rfl, Nat.le_of_ble_eq_true rfl⟩ dX7_readOne_102 rfl (st := []) (fun x_519110 I_519111 J_519112 h_519113 => ?_)
            obtain ⟨hUI_519111, hFI_519111, hGJ_519112, rx_519110⟩ := h_519113
            have hF_519114 := fq_tr hF_519096 hFI_519111 (by decide)
            have hG_519115 := fq_tr hG_519097 hGJ_519112 (by decide)
            refine g_if_eq C (tgt := 123) dX7_readOne_105 (by decide) (fun h_519116 => ?_) (fun h_519116 => ?_)
            · skip
              have r_519117 := (⟨(rx_519110).1, (eq_rg (h_519116) rc_0).2⟩ : Rg 0 0 x_519110)
              refine g_iconst C (v := 0) dX7_readOne_123 (by decide) ?_
              exact g_zret (ty := .boolean) (r := 0) B K rfl (rfl) ⟨hUI_519111, hF_519114, hG_519115, rg_w rc_0 (by decide) (by decide)⟩ dX7_readOne_124
            · skip
              have n_519118 : ¬ x_519110 = 0 := h_519116
              have r_519119 := ne_lo (lo := 1) n_519118 rx_519110 rc_0 rfl (by decide)
              refine g_aload_n C 1 dX7_readOne_108 rfl rfl ?_
              refine g_bipush C (v := 19) dX7_readOne_109 (by decide) ?_
              refine g_iconst C (v := 0) dX7_readOne_111 (by decide) ?_
              refine g_iconst C (v := 0) dX7_readOne_112 (by decide) ?_
              refine g_callVI C K (c_X7_addStep W9 hLx hkx 19 0 0 (rg_w rc_0 (by decide) (by decide)) hUI_519111  (fun q => absurd q (by decide))) hLx hkx (by decide) rfl v_7_63 rfl ⟨rfl, rfl⟩ ⟨Nat.le_of_ble_eq_true rfl, Nat.le_of_ble_eq_true rfl⟩ (Nat.le_of_ble_eq_true rfl) ⟨Nat.le_of_ble_eq_true rfl, Nat.le_of_ble_eq_true rfl⟩ dX7_readOne_113 rfl (st := []) (fun x_519120 I_519121 J_519122 h_519123 => ?_)
              obtain ⟨hUI_519121, hFI_519121, hGJ_519122, rx_519120⟩ := h_519123
              have hF_519124 := fq_tr hF_519114 hFI_519121 (by decide)
              have hG_519125 := fq_tr hG_519115 hGJ_519122 (by decide)
              refine g_if_eq C (tgt := 123) dX7_readOne_116 (by decide) (fun h_519126 => ?_) (fun h_519126 => ?_)
              · skip
                have r_519127 := (⟨(rx_519120).1, (eq_rg (h_519126) rc_0).2⟩ : Rg 0 0 x_519120)
                refine g_iconst C (v := 0) dX7_readOne_123 (by decide) ?_
                exact g_zret (ty := .boolean) (r := 0) B K rfl (rfl) ⟨hUI_519121, hF_519124, hG_519125, rg_w rc_0 (by decide) (by decide)⟩ dX7_readOne_124
              · skip
                have n_519128 : ¬ x_519120 = 0 := h_519126
                have r_519129 := ne_lo (lo := 1) n_519128 rx_519120 rc_0 rfl (by decide)
                refine g_iconst C (v := 1) dX7_readOne_119 (by decide) ?_
                refine g_goto C (tgt := 124) dX7_readOne_120 (by decide) ?_
                exact g_zret (ty := .boolean) (r := 1) B K rfl (rfl) ⟨hUI_519121, hF_519124, hG_519125, rg_w rc_1 (by decide) (by decide)⟩ dX7_readOne_124
        · skip
          have r_519130 := (⟨(eq_rg (h_519098) rc_40).1, (eq_rg (h_519098) rc_40).2⟩ : Rg 40 40 x_519075)
          refine g_aload_n C 1 dX7_readOne_62 rfl rfl ?_
          refine g_aload_n C 2 dX7_readOne_63 rfl rfl ?_
          refine g_aload_n C 3 dX7_readOne_64 rfl rfl ?_
          refine g_iload_n C 4 dX7_readOne_65 rfl rfl ?_
          refine g_iconst C (v := 1) dX7_readOne_66 (by decide) ?_
          obtain ⟨x_519131, hx_519131, rx_519131, tx_519131⟩ := ex_add 2 2 ra2 rc_1 (by decide) (by decide) (by decide) (by decide)
          refine g_iadd C (v := x_519131) dX7_readOne_67 hx_519131 ?_
          refine g_callVI C K (c_X7_readCond_2 W9 hLx hkx hLa0 hka0 hLa1 hka1 x_519131 (rx_519131) hUI_519093) hLx hkx (by decide) rfl v_7_46 rfl ⟨rfl, rfl⟩ ⟨Nat.le_of_ble_eq_true rfl, Nat.le_of_ble_eq_true rfl⟩ (Nat.le_of_ble_eq_true rfl) ⟨Nat.le_of_ble_eq_true rfl, Nat.le_of_ble_eq_true rfl⟩ dX7_readOne_68 rfl (st := []) (fun x_519132 I_519133 J_519134 h_519135 => ?_)
          obtain ⟨hUI_519133, hFI_519133, hGJ_519134, rx_519132⟩ := h_519135
          have hF_519136 := fq_tr hF_519096 hFI_519133 (by decide)
          have hG_519137 := fq_tr hG_519097 hGJ_519134 (by decide)
          refine g_if_eq C (tgt := 87) dX7_readOne_71 (by decide) (fun h_519138 => ?_) (fun h_519138 => ?_)
          · skip
            have r_519139 := (⟨(rx_519132).1, (eq_rg (h_519138) rc_0).2⟩ : Rg 0 0 x_519132)
            refine g_iconst C (v := 0) dX7_readOne_87 (by decide) ?_
            exact g_zret (ty := .boolean) (r := 0) B K rfl (rfl) ⟨hUI_519133, hF_519136, hG_519137, rg_w rc_0 (by decide) (by decide)⟩ dX7_readOne_88
          · skip
            have n_519140 : ¬ x_519132 = 0 := h_519138
            have r_519141 := ne_lo (lo := 1) n_519140 rx_519132 rc_0 rfl (by decide)
            refine g_aload_n C 2 dX7_readOne_74 rfl rfl ?_
            refine g_bipush C (v := 41) dX7_readOne_75 (by decide) ?_
            refine g_callVI C K (c_X10_take W9 hLa0 hka0 41 (rg_w rc_41 (by decide) (by decide)) hUI_519133) hLa0 hka0 (by decide) rfl v_7_50 rfl ⟨rfl, rfl⟩ ⟨Nat.le_of_ble_eq_true rfl, Nat.le_of_ble_eq_true rfl⟩ (Nat.le_of_ble_eq_true rfl) ⟨Nat.le_of_ble_eq_true rfl, Nat.le_of_ble_eq_true rfl⟩ dX7_readOne_77 rfl (st := []) (fun x_519142 I_519143 J_519144 h_519145 => ?_)
            obtain ⟨hUI_519143, hFI_519143, hGJ_519144, rx_519142⟩ := h_519145
            have hF_519146 := fq_tr hF_519136 hFI_519143 (by decide)
            have hG_519147 := fq_tr hG_519137 hGJ_519144 (by decide)
            refine g_if_eq C (tgt := 87) dX7_readOne_80 (by decide) (fun h_519148 => ?_) (fun h_519148 => ?_)
            · skip
              have r_519149 := (⟨(rx_519142).1, (eq_rg (h_519148) rc_0).2⟩ : Rg 0 0 x_519142)
              refine g_iconst C (v := 0) dX7_readOne_87 (by decide) ?_
              exact g_zret (ty := .boolean) (r := 0) B K rfl (rfl) ⟨hUI_519143, hF_519146, hG_519147, rg_w rc_0 (by decide) (by decide)⟩ dX7_readOne_88
            · skip
              have n_519150 : ¬ x_519142 = 0 := h_519148
              have r_519151 := ne_lo (lo := 1) n_519150 rx_519142 rc_0 rfl (by decide)
              refine g_iconst C (v := 1) dX7_readOne_83 (by decide) ?_
              refine g_goto C (tgt := 88) dX7_readOne_84 (by decide) ?_
              exact g_zret (ty := .boolean) (r := 1) B K rfl (rfl) ⟨hUI_519143, hF_519146, hG_519147, rg_w rc_1 (by decide) (by decide)⟩ dX7_readOne_88
      · skip
        have r_519152 := lt_r (lo := 9) (nle h_519087) rc_8 ra2 (by decide)
        exact rg_no r_519152 (by decide)
  · skip
    have r_519153 := (⟨(rx_519076).1, (eq_rg (h_519080) rc_0).2⟩ : Rg 0 0 x_519076)
    refine g_aload_n C 2 dX7_readOne_14 rfl rfl ?_
    refine g_iconst C (v := 1) dX7_readOne_15 (by decide) ?_
    refine g_callVI C K (c_X10_fail W9 hLa0 hka0 1 (rg_w rc_1 (by decide) (by decide)) hU) hLa0 hka0 (by decide) rfl v_7_73 rfl ⟨rfl, rfl⟩ ⟨Nat.le_of_ble_eq_true rfl, Nat.le_of_ble_eq_true rfl⟩ (Nat.le_of_ble_eq_true rfl) ⟨Nat.le_of_ble_eq_true rfl, Nat.le_of_ble_eq_true rfl⟩ dX7_readOne_16 rfl (st := []) (fun x_519154 I_519155 J_519156 h_519157 => ?_)
    obtain ⟨hUI_519155, hFI_519155, hGJ_519156, rx_519154⟩ := h_519157
    have hF_519158 := fq_tr hF hFI_519155 (by decide)
    have hG_519159 := fq_tr hG hGJ_519156 (by decide)
    exact g_zret (ty := .boolean) (r := x_519154) B K rfl (nar_z (rg_w rx_519154 (by decide) (by decide))) ⟨hUI_519155, hF_519158, hG_519159, rg_w rx_519154 (by decide) (by decide)⟩ dX7_readOne_19
set_option maxRecDepth 100000 in
set_option maxHeartbeats 8000000 in
theorem c_X7_readAll_1 {l : Launch} {D : va_G} {cy : Nat → ClassId} {L : List Nat} {κ ln : Nat → Nat} {R : Nat → Nat → Option Nat} {I : Nat → Nat → Int32} {J : Nat → Nat → Int64} {ow : Nat → Nat × Nat} (W9 : ∀ a ∈ L, Shp L κ ln R ow a) {x : Nat} (hLx : x ∈ L) (hkx : κ x = 7) {a0 : Nat} (hLa0 : a0 ∈ L) (hka0 : κ a0 = 10) {a1 : Nat} (hLa1 : a1 ∈ L) (hka1 : κ a1 = 8) (a2 : Int32) (ra2 : Rg 1 1 a2) (hU : Iv L κ R ow I) : CtI l yX7_readAll cX7_readAll 6 (some .boolean) { frames := 26, cells := 0, slots := 0, locals := 637 } D cy L κ ln R I J [.ref x, .ref a0, .ref a1, .int a2] (fun r I2 J2 => Iv L κ R ow I2 ∧ Fq L κ ow [704, 705, 1007, 1008, 1009, 1011, 1012, 52000, 52100, 52200] I I2 ∧ Fq L κ ow [1010] J J2 ∧ Rg 0 1 r) := by
  refine CtI.of (by decide +kernel) (Nat.le_of_ble_eq_true rfl) ?_
  intro p e s m below meth c B K
  have C := B.1
  have hF : Fq L κ ow [704, 705, 1007, 1008, 1009, 1011, 1012, 52000, 52100, 52200] I I := fq_rf
  have hG : Fq L κ ow [1010] J J := fq_rf
  refine g_lo (is := [0, 1, 2, 3]) (lo2 := [(0, .ref x), (1, .ref a0), (2, .ref a1), (3, .int a2)]) rfl ?_
  have l_12 : ∀ (n_12 : Nat) (I_519803 : Nat → Nat → Int32) (J_519804 : Nat → Nat → Int64) (hU_519805 : Iv L κ R ow I_519803) (hF_519806 : Fq L κ ow [704, 705, 1007, 1008, 1009, 1011, 1012, 52000, 52100, 52200] I I_519803) (hG_519807 : Fq L κ ow [1010] J J_519804) (v_519808 : Int32) (rv_519808 : Rg 1 1 v_519808) (v_519809 : Int32) (rv_519809 : Rg 0 1 v_519809) (v_519810 : Int32) (rv_519810 : Rg 0 20 v_519810) (hm_519811 : 20 < (v_519810 : Int32).toInt + (n_12 : Int)), WG p l e { frames := 26, cells := 0, slots := 0, locals := 637 } s m ([.ref x, .ref a0, .ref a1, .int a2] : List Value).toArray below meth c 6 0 0 (MQ below (Qi_ D cy L κ ln R (fun r I2 J2 => Iv L κ R ow I2 ∧ Fq L κ ow [704, 705, 1007, 1008, 1009, 1011, 1012, 52000, 52100, 52200] I I2 ∧ Fq L κ ow [1010] J J2 ∧ Rg 0 1 r)) ([.ref x, .ref a0, .ref a1, .int a2] : List Value).toArray s 0 0 (Al_ L)) D cy (Al_ L) s.heap L κ ln R I_519803 J_519804 12 [(0, .ref x), (1, .ref a0), (2, .ref a1), (3, .int v_519808), (4, .int v_519809), (5, .int v_519810)] [] := by
    intro n_12
    induction n_12 with
    | zero =>
      intro I_519803 J_519804 hU_519805 hF_519806 hG_519807 v_519808 rv_519808 v_519809 rv_519809 v_519810 rv_519810 hm_519811
      exact ms_0 rv_519810 hm_519811
    | succ n_12 ih_12 =>
      intro I_519803 J_519804 hU_519805 hF_519806 hG_519807 v_519808 rv_519808 v_519809 rv_519809 v_519810 rv_519810 hm_519811
      have j_62 : ∀ (I_519812 : Nat → Nat → Int32) (J_519813 : Nat → Nat → Int64) (hU_519814 : Iv L κ R ow I_519812) (hF_519815 : Fq L κ ow [704, 705, 1007, 1008, 1009, 1011, 1012, 52000, 52100, 52200] I I_519812) (hG_519816 : Fq L κ ow [1010] J J_519813) (v_519817 : Int32) (rv_519817 : Rg 1 1 v_519817) (v_519818 : Int32) (rv_519818 : Rg 1 1 v_519818) (nv_519818_0 : ¬ v_519818 = 0) (v_519819 : Int32) (rv_519819 : Rg 0 19 v_519819) (hm_519820 : 20 < (v_519819 : Int32).toInt + ((n_12 + 1 : Nat) : Int)), WG p l e { frames := 26, cells := 0, slots := 0, locals := 637 } s m ([.ref x, .ref a0, .ref a1, .int a2] : List Value).toArray below meth c 6 0 0 (MQ below (Qi_ D cy L κ ln R (fun r I2 J2 => Iv L κ R ow I2 ∧ Fq L κ ow [704, 705, 1007, 1008, 1009, 1011, 1012, 52000, 52100, 52200] I I2 ∧ Fq L κ ow [1010] J J2 ∧ Rg 0 1 r)) ([.ref x, .ref a0, .ref a1, .int a2] : List Value).toArray s 0 0 (Al_ L)) D cy (Al_ L) s.heap L κ ln R I_519812 J_519813 62 [(0, .ref x), (1, .ref a0), (2, .ref a1), (3, .int v_519817), (4, .int v_519818), (5, .int v_519819)] [] := by
        intro I_519812 J_519813 hU_519814 hF_519815 hG_519816 v_519817 rv_519817 v_519818 rv_519818 nv_519818_0 v_519819 rv_519819 hm_519820
        refine g_iconst C (v := 0) dX7_readAll_62 (by decide) ?_
        refine g_istore C dX7_readAll_63 (by decide) (lo2 := [(4, .int 0), (0, .ref x), (1, .ref a0), (2, .ref a1), (3, .int v_519817), (5, .int v_519819)]) rfl ?_
        obtain ⟨x_519821, hx_519821, rx_519821, tx_519821⟩ := ex_add (y := 1) 1 20 rv_519819 rc_1 (by decide) (by decide) (by decide) (by decide)
        refine g_iinc C dX7_readAll_65 (k := 5) (v := x_519821) rfl hx_519821 (by decide) (lo2 := [(5, .int x_519821), (4, .int 0), (0, .ref x), (1, .ref a0), (2, .ref a1), (3, .int v_519817)]) rfl ?_
        refine g_goto C (tgt := 12) dX7_readAll_68 (by decide) ?_
        refine g_lo (is := [2, 3, 4, 5, 1, 0]) (lo2 := [(0, .ref x), (1, .ref a0), (2, .ref a1), (3, .int v_519817), (4, .int 0), (5, .int x_519821)]) rfl ?_
        exact ih_12 I_519812 J_519813 hU_519814 hF_519815 hG_519816 v_519817 (rv_519817) 0 (rg_w rc_0 (by decide) (by decide)) x_519821 (rg_w rx_519821 (by decide) (by decide)) (ms_1 hm_519820 (ti_k tx_519821 rc_1) (by decide))
      refine g_iload C 5 dX7_readAll_12 rfl ?_
      refine g_bipush C (v := 20) dX7_readAll_14 (by decide) ?_
      refine g_icmp_ge C (tgt := 71) dX7_readAll_16 (by decide) (fun h_519822 => ?_) (fun h_519822 => ?_)
      · skip
        have r_519823 := le_r (h_519822) rc_20 rv_519810
        refine g_iload C 4 dX7_readAll_71 rfl ?_
        exact g_zret (ty := .boolean) (r := v_519809) B K rfl (nar_z (rv_519809)) ⟨hU_519805, hF_519806, hG_519807, rv_519809⟩ dX7_readAll_73
      · skip
        have r_519824 := lt_l (hi := 19) (nle h_519822) rv_519810 rc_20 (by decide)
        refine g_iload C 4 dX7_readAll_19 rfl ?_
        refine g_if_eq C (tgt := 71) dX7_readAll_21 (by decide) (fun h_519825 => ?_) (fun h_519825 => ?_)
        · skip
          have r_519826 := (⟨(rv_519809).1, (eq_rg (h_519825) rc_0).2⟩ : Rg 0 0 v_519809)
          refine g_iload C 4 dX7_readAll_71 rfl ?_
          exact g_zret (ty := .boolean) (r := v_519809) B K rfl (nar_z (rg_w r_519826 (by decide) (by decide))) ⟨hU_519805, hF_519806, hG_519807, rg_w r_519826 (by decide) (by decide)⟩ dX7_readAll_73
        · skip
          have n_519827 : ¬ v_519809 = 0 := h_519825
          have r_519828 := ne_lo (lo := 1) n_519827 rv_519809 rc_0 rfl (by decide)
          refine g_aload_n C 1 dX7_readAll_24 rfl rfl ?_
          obtain ⟨x_519829, hx_519829, rx_519829⟩ := ex_get (I := I_519803) (a := a0) (j := 8) (lo := (-2147483648)) (hi := 2147483647) hU_519805.1 hLa0 (ro_o hka0 (by decide)) rfl
          refine g_getI C K hLa0 hka0 f_7_57 (v := x_519829) hx_519829 dX7_readAll_25 ?_
          refine g_bipush C (v := 18) dX7_readAll_28 (by decide) ?_
          refine g_icmp_ne C (tgt := 71) dX7_readAll_30 (by decide) (fun h_519830 => ?_) (fun h_519830 => ?_)
          · skip
            have n_519831 : ¬ x_519829 = 18 := h_519830
            refine g_iload C 4 dX7_readAll_71 rfl ?_
            exact g_zret (ty := .boolean) (r := v_519809) B K rfl (nar_z (rg_w r_519828 (by decide) (by decide))) ⟨hU_519805, hF_519806, hG_519807, rg_w r_519828 (by decide) (by decide)⟩ dX7_readAll_73
          · skip
            have r_519832 := (⟨(eq_rg (h_519830) rc_18).1, (eq_rg (h_519830) rc_18).2⟩ : Rg 18 18 x_519829)
            refine g_aload_n C 1 dX7_readAll_33 rfl rfl ?_
            refine g_callVV C K (c_X10_advance W9 hLa0 hka0   hU_519805) hLa0 hka0 (by decide) rfl v_7_60 rfl ⟨rfl, rfl⟩ ⟨Nat.le_of_ble_eq_true rfl, Nat.le_of_ble_eq_true rfl⟩ (Nat.le_of_ble_eq_true rfl) ⟨Nat.le_of_ble_eq_true rfl, Nat.le_of_ble_eq_true rfl⟩ dX7_readAll_34 rfl (st := []) (fun I_519834 J_519835 h_519836 => ?_)
            obtain ⟨hUI_519834, hFI_519834, hGJ_519835⟩ := h_519836
            have hF_519837 := fq_tr hF_519806 hFI_519834 (by decide)
            have hG_519838 := fq_tr hG_519807 hGJ_519835 (by decide)
            refine g_aload_n C 0 dX7_readAll_37 rfl rfl ?_
            refine g_aload_n C 1 dX7_readAll_38 rfl rfl ?_
            refine g_aload_n C 2 dX7_readAll_39 rfl rfl ?_
            refine g_iload_n C 3 dX7_readAll_40 rfl rfl ?_
            refine g_callVI C K (c_X7_readOne_1 W9 hLx hkx hLa0 hka0 hLa1 hka1 v_519808 (rv_519808) hUI_519834) hLx hkx (by decide) rfl v_7_67 rfl ⟨rfl, rfl⟩ ⟨Nat.le_of_ble_eq_true rfl, Nat.le_of_ble_eq_true rfl⟩ (Nat.le_of_ble_eq_true rfl) ⟨Nat.le_of_ble_eq_true rfl, Nat.le_of_ble_eq_true rfl⟩ dX7_readAll_41 rfl (st := []) (fun x_519839 I_519840 J_519841 h_519842 => ?_)
            obtain ⟨hUI_519840, hFI_519840, hGJ_519841, rx_519839⟩ := h_519842
            have hF_519843 := fq_tr hF_519837 hFI_519840 (by decide)
            have hG_519844 := fq_tr hG_519838 hGJ_519841 (by decide)
            refine g_if_eq C (tgt := 62) dX7_readAll_44 (by decide) (fun h_519845 => ?_) (fun h_519845 => ?_)
            · skip
              have r_519846 := (⟨(rx_519839).1, (eq_rg (h_519845) rc_0).2⟩ : Rg 0 0 x_519839)
              refine g_lo (is := [0, 1, 2, 3, 4, 5]) (lo2 := [(0, .ref x), (1, .ref a0), (2, .ref a1), (3, .int v_519808), (4, .int v_519809), (5, .int v_519810)]) rfl ?_
              exact j_62 I_519840 J_519841 hUI_519840 hF_519843 hG_519844 v_519808 (rv_519808) v_519809 (r_519828) (n_519827) v_519810 (r_519824) hm_519811
            · skip
              have n_519847 : ¬ x_519839 = 0 := h_519845
              have r_519848 := ne_lo (lo := 1) n_519847 rx_519839 rc_0 rfl (by decide)
              refine g_aload_n C 0 dX7_readAll_47 rfl rfl ?_
              refine g_bipush C (v := 18) dX7_readAll_48 (by decide) ?_
              refine g_iconst C (v := 0) dX7_readAll_50 (by decide) ?_
              refine g_iconst C (v := 0) dX7_readAll_51 (by decide) ?_
              refine g_callVI C K (c_X7_addStep W9 hLx hkx 18 0 0 (rg_w rc_0 (by decide) (by decide)) hUI_519840  (fun q => absurd q (by decide))) hLx hkx (by decide) rfl v_7_63 rfl ⟨rfl, rfl⟩ ⟨Nat.le_of_ble_eq_true rfl, Nat.le_of_ble_eq_true rfl⟩ (Nat.le_of_ble_eq_true rfl) ⟨Nat.le_of_ble_eq_true rfl, Nat.le_of_ble_eq_true rfl⟩ dX7_readAll_52 rfl (st := []) (fun x_519849 I_519850 J_519851 h_519852 => ?_)
              obtain ⟨hUI_519850, hFI_519850, hGJ_519851, rx_519849⟩ := h_519852
              have hF_519853 := fq_tr hF_519843 hFI_519850 (by decide)
              have hG_519854 := fq_tr hG_519844 hGJ_519851 (by decide)
              refine g_if_eq C (tgt := 62) dX7_readAll_55 (by decide) (fun h_519855 => ?_) (fun h_519855 => ?_)
              · skip
                have r_519856 := (⟨(rx_519849).1, (eq_rg (h_519855) rc_0).2⟩ : Rg 0 0 x_519849)
                refine g_lo (is := [0, 1, 2, 3, 4, 5]) (lo2 := [(0, .ref x), (1, .ref a0), (2, .ref a1), (3, .int v_519808), (4, .int v_519809), (5, .int v_519810)]) rfl ?_
                exact j_62 I_519850 J_519851 hUI_519850 hF_519853 hG_519854 v_519808 (rv_519808) v_519809 (r_519828) (n_519827) v_519810 (r_519824) hm_519811
              · skip
                have n_519857 : ¬ x_519849 = 0 := h_519855
                have r_519858 := ne_lo (lo := 1) n_519857 rx_519849 rc_0 rfl (by decide)
                refine g_iconst C (v := 1) dX7_readAll_58 (by decide) ?_
                refine g_goto C (tgt := 63) dX7_readAll_59 (by decide) ?_
                refine g_istore C dX7_readAll_63 (by decide) (lo2 := [(4, .int 1), (0, .ref x), (1, .ref a0), (2, .ref a1), (3, .int v_519808), (5, .int v_519810)]) rfl ?_
                obtain ⟨x_519859, hx_519859, rx_519859, tx_519859⟩ := ex_add (y := 1) 1 20 r_519824 rc_1 (by decide) (by decide) (by decide) (by decide)
                refine g_iinc C dX7_readAll_65 (k := 5) (v := x_519859) rfl hx_519859 (by decide) (lo2 := [(5, .int x_519859), (4, .int 1), (0, .ref x), (1, .ref a0), (2, .ref a1), (3, .int v_519808)]) rfl ?_
                refine g_goto C (tgt := 12) dX7_readAll_68 (by decide) ?_
                refine g_lo (is := [2, 3, 4, 5, 1, 0]) (lo2 := [(0, .ref x), (1, .ref a0), (2, .ref a1), (3, .int v_519808), (4, .int 1), (5, .int x_519859)]) rfl ?_
                exact ih_12 I_519850 J_519851 hUI_519850 hF_519853 hG_519854 v_519808 (rv_519808) 1 (rg_w rc_1 (by decide) (by decide)) x_519859 (rg_w rx_519859 (by decide) (by decide)) (ms_1 hm_519811 (ti_k tx_519859 rc_1) (by decide))
  refine g_aload_n C 0 dX7_readAll_0 rfl rfl ?_
  refine g_aload_n C 1 dX7_readAll_1 rfl rfl ?_
  refine g_aload_n C 2 dX7_readAll_2 rfl rfl ?_
  refine g_iload_n C 3 dX7_readAll_3 rfl rfl ?_
  refine g_callVI C K (c_X7_readOne_1 W9 hLx hkx hLa0 hka0 hLa1 hka1 a2 (ra2) hU) hLx hkx (by decide) rfl v_7_67 rfl ⟨rfl, rfl⟩ ⟨Nat.le_of_ble_eq_true rfl, Nat.le_of_ble_eq_true rfl⟩ (Nat.le_of_ble_eq_true rfl) ⟨Nat.le_of_ble_eq_true rfl, Nat.le_of_ble_eq_true rfl⟩ dX7_readAll_4 rfl (st := []) (fun x_519860 I_519861 J_519862 h_519863 => ?_)
  obtain ⟨hUI_519861, hFI_519861, hGJ_519862, rx_519860⟩ := h_519863
  have hF_519864 := fq_tr hF hFI_519861 (by decide)
  have hG_519865 := fq_tr hG hGJ_519862 (by decide)
  refine g_istore C dX7_readAll_7 (by decide) (lo2 := [(4, .int x_519860), (0, .ref x), (1, .ref a0), (2, .ref a1), (3, .int a2)]) rfl ?_
  refine g_iconst C (v := 0) dX7_readAll_9 (by decide) ?_
  refine g_istore C dX7_readAll_10 (by decide) (lo2 := [(5, .int 0), (4, .int x_519860), (0, .ref x), (1, .ref a0), (2, .ref a1), (3, .int a2)]) rfl ?_
  refine g_lo (is := [2, 3, 4, 5, 1, 0]) (lo2 := [(0, .ref x), (1, .ref a0), (2, .ref a1), (3, .int a2), (4, .int x_519860), (5, .int 0)]) rfl ?_
  exact l_12 21 I_519861 J_519862 hUI_519861 hF_519864 hG_519865 a2 (ra2) x_519860 (rx_519860) 0 (rg_w rc_0 (by decide) (by decide)) (ms_s (a := 0) (b := 20) (N := 21) (rg_w rc_0 (by decide) (by decide)) (by decide))
set_option maxRecDepth 100000 in
set_option maxHeartbeats 8000000 in
theorem c_X7_readCond_1 {l : Launch} {D : va_G} {cy : Nat → ClassId} {L : List Nat} {κ ln : Nat → Nat} {R : Nat → Nat → Option Nat} {I : Nat → Nat → Int32} {J : Nat → Nat → Int64} {ow : Nat → Nat × Nat} (W9 : ∀ a ∈ L, Shp L κ ln R ow a) {x : Nat} (hLx : x ∈ L) (hkx : κ x = 7) {a0 : Nat} (hLa0 : a0 ∈ L) (hka0 : κ a0 = 10) {a1 : Nat} (hLa1 : a1 ∈ L) (hka1 : κ a1 = 8) (a2 : Int32) (ra2 : Rg 1 1 a2) (hU : Iv L κ R ow I) : CtI l yX7_readCond cX7_readCond 6 (some .boolean) { frames := 27, cells := 0, slots := 0, locals := 662 } D cy L κ ln R I J [.ref x, .ref a0, .ref a1, .int a2] (fun r I2 J2 => Iv L κ R ow I2 ∧ Fq L κ ow [704, 705, 1007, 1008, 1009, 1011, 1012, 52000, 52100, 52200] I I2 ∧ Fq L κ ow [1010] J J2 ∧ Rg 0 1 r) := by
  refine CtI.of (by decide +kernel) (Nat.le_of_ble_eq_true rfl) ?_
  intro p e s m below meth c B K
  have C := B.1
  have hF : Fq L κ ow [704, 705, 1007, 1008, 1009, 1011, 1012, 52000, 52100, 52200] I I := fq_rf
  have hG : Fq L κ ow [1010] J J := fq_rf
  refine g_lo (is := [0, 1, 2, 3]) (lo2 := [(0, .ref x), (1, .ref a0), (2, .ref a1), (3, .int a2)]) rfl ?_
  have l_12 : ∀ (n_12 : Nat) (I_520546 : Nat → Nat → Int32) (J_520547 : Nat → Nat → Int64) (hU_520548 : Iv L κ R ow I_520546) (hF_520549 : Fq L κ ow [704, 705, 1007, 1008, 1009, 1011, 1012, 52000, 52100, 52200] I I_520546) (hG_520550 : Fq L κ ow [1010] J J_520547) (v_520551 : Int32) (rv_520551 : Rg 1 1 v_520551) (v_520552 : Int32) (rv_520552 : Rg 0 1 v_520552) (v_520553 : Int32) (rv_520553 : Rg 0 20 v_520553) (hm_520554 : 20 < (v_520553 : Int32).toInt + (n_12 : Int)), WG p l e { frames := 27, cells := 0, slots := 0, locals := 662 } s m ([.ref x, .ref a0, .ref a1, .int a2] : List Value).toArray below meth c 6 0 0 (MQ below (Qi_ D cy L κ ln R (fun r I2 J2 => Iv L κ R ow I2 ∧ Fq L κ ow [704, 705, 1007, 1008, 1009, 1011, 1012, 52000, 52100, 52200] I I2 ∧ Fq L κ ow [1010] J J2 ∧ Rg 0 1 r)) ([.ref x, .ref a0, .ref a1, .int a2] : List Value).toArray s 0 0 (Al_ L)) D cy (Al_ L) s.heap L κ ln R I_520546 J_520547 12 [(0, .ref x), (1, .ref a0), (2, .ref a1), (3, .int v_520551), (4, .int v_520552), (5, .int v_520553)] [] := by
    intro n_12
    induction n_12 with
    | zero =>
      intro I_520546 J_520547 hU_520548 hF_520549 hG_520550 v_520551 rv_520551 v_520552 rv_520552 v_520553 rv_520553 hm_520554
      exact ms_0 rv_520553 hm_520554
    | succ n_12 ih_12 =>
      intro I_520546 J_520547 hU_520548 hF_520549 hG_520550 v_520551 rv_520551 v_520552 rv_520552 v_520553 rv_520553 hm_520554
      have j_62 : ∀ (I_520555 : Nat → Nat → Int32) (J_520556 : Nat → Nat → Int64) (hU_520557 : Iv L κ R ow I_520555) (hF_520558 : Fq L κ ow [704, 705, 1007, 1008, 1009, 1011, 1012, 52000, 52100, 52200] I I_520555) (hG_520559 : Fq L κ ow [1010] J J_520556) (v_520560 : Int32) (rv_520560 : Rg 1 1 v_520560) (v_520561 : Int32) (rv_520561 : Rg 1 1 v_520561) (nv_520561_0 : ¬ v_520561 = 0) (v_520562 : Int32) (rv_520562 : Rg 0 19 v_520562) (hm_520563 : 20 < (v_520562 : Int32).toInt + ((n_12 + 1 : Nat) : Int)), WG p l e { frames := 27, cells := 0, slots := 0, locals := 662 } s m ([.ref x, .ref a0, .ref a1, .int a2] : List Value).toArray below meth c 6 0 0 (MQ below (Qi_ D cy L κ ln R (fun r I2 J2 => Iv L κ R ow I2 ∧ Fq L κ ow [704, 705, 1007, 1008, 1009, 1011, 1012, 52000, 52100, 52200] I I2 ∧ Fq L κ ow [1010] J J2 ∧ Rg 0 1 r)) ([.ref x, .ref a0, .ref a1, .int a2] : List Value).toArray s 0 0 (Al_ L)) D cy (Al_ L) s.heap L κ ln R I_520555 J_520556 62 [(0, .ref x), (1, .ref a0), (2, .ref a1), (3, .int v_520560), (4, .int v_520561), (5, .int v_520562)] [] := by
        intro I_520555 J_520556 hU_520557 hF_520558 hG_520559 v_520560 rv_520560 v_520561 rv_520561 nv_520561_0 v_520562 rv_520562 hm_520563
        refine g_iconst C (v := 0) dX7_readCond_62 (by decide) ?_
        refine g_istore C dX7_readCond_63 (by decide) (lo2 := [(4, .int 0), (0, .ref x), (1, .ref a0), (2, .ref a1), (3, .int v_520560), (5, .int v_520562)]) rfl ?_
        obtain ⟨x_520564, hx_520564, rx_520564, tx_520564⟩ := ex_add (y := 1) 1 20 rv_520562 rc_1 (by decide) (by decide) (by decide) (by decide)
        refine g_iinc C dX7_readCond_65 (k := 5) (v := x_520564) rfl hx_520564 (by decide) (lo2 := [(5, .int x_520564), (4, .int 0), (0, .ref x), (1, .ref a0), (2, .ref a1), (3, .int v_520560)]) rfl ?_
        refine g_goto C (tgt := 12) dX7_readCond_68 (by decide) ?_
        refine g_lo (is := [2, 3, 4, 5, 1, 0]) (lo2 := [(0, .ref x), (1, .ref a0), (2, .ref a1), (3, .int v_520560), (4, .int 0), (5, .int x_520564)]) rfl ?_
        exact ih_12 I_520555 J_520556 hU_520557 hF_520558 hG_520559 v_520560 (rv_520560) 0 (rg_w rc_0 (by decide) (by decide)) x_520564 (rg_w rx_520564 (by decide) (by decide)) (ms_1 hm_520563 (ti_k tx_520564 rc_1) (by decide))
      refine g_iload C 5 dX7_readCond_12 rfl ?_
      refine g_bipush C (v := 20) dX7_readCond_14 (by decide) ?_
      refine g_icmp_ge C (tgt := 71) dX7_readCond_16 (by decide) (fun h_520565 => ?_) (fun h_520565 => ?_)
      · skip
        have r_520566 := le_r (h_520565) rc_20 rv_520553
        refine g_iload C 4 dX7_readCond_71 rfl ?_
        exact g_zret (ty := .boolean) (r := v_520552) B K rfl (nar_z (rv_520552)) ⟨hU_520548, hF_520549, hG_520550, rv_520552⟩ dX7_readCond_73
      · skip
        have r_520567 := lt_l (hi := 19) (nle h_520565) rv_520553 rc_20 (by decide)
        refine g_iload C 4 dX7_readCond_19 rfl ?_
        refine g_if_eq C (tgt := 71) dX7_readCond_21 (by decide) (fun h_520568 => ?_) (fun h_520568 => ?_)
        · skip
          have r_520569 := (⟨(rv_520552).1, (eq_rg (h_520568) rc_0).2⟩ : Rg 0 0 v_520552)
          refine g_iload C 4 dX7_readCond_71 rfl ?_
          exact g_zret (ty := .boolean) (r := v_520552) B K rfl (nar_z (rg_w r_520569 (by decide) (by decide))) ⟨hU_520548, hF_520549, hG_520550, rg_w r_520569 (by decide) (by decide)⟩ dX7_readCond_73
        · skip
          have n_520570 : ¬ v_520552 = 0 := h_520568
          have r_520571 := ne_lo (lo := 1) n_520570 rv_520552 rc_0 rfl (by decide)
          refine g_aload_n C 1 dX7_readCond_24 rfl rfl ?_
          obtain ⟨x_520572, hx_520572, rx_520572⟩ := ex_get (I := I_520546) (a := a0) (j := 8) (lo := (-2147483648)) (hi := 2147483647) hU_520548.1 hLa0 (ro_o hka0 (by decide)) rfl
          refine g_getI C K hLa0 hka0 f_7_57 (v := x_520572) hx_520572 dX7_readCond_25 ?_
          refine g_bipush C (v := 17) dX7_readCond_28 (by decide) ?_
          refine g_icmp_ne C (tgt := 71) dX7_readCond_30 (by decide) (fun h_520573 => ?_) (fun h_520573 => ?_)
          · skip
            have n_520574 : ¬ x_520572 = 17 := h_520573
            refine g_iload C 4 dX7_readCond_71 rfl ?_
            exact g_zret (ty := .boolean) (r := v_520552) B K rfl (nar_z (rg_w r_520571 (by decide) (by decide))) ⟨hU_520548, hF_520549, hG_520550, rg_w r_520571 (by decide) (by decide)⟩ dX7_readCond_73
          · skip
            have r_520575 := (⟨(eq_rg (h_520573) rc_17).1, (eq_rg (h_520573) rc_17).2⟩ : Rg 17 17 x_520572)
            refine g_aload_n C 1 dX7_readCond_33 rfl rfl ?_
            refine g_callVV C K (c_X10_advance W9 hLa0 hka0   hU_520548) hLa0 hka0 (by decide) rfl v_7_60 rfl ⟨rfl, rfl⟩ ⟨Nat.le_of_ble_eq_true rfl, Nat.le_of_ble_eq_true rfl⟩ (Nat.le_of_ble_eq_true rfl) ⟨Nat.le_of_ble_eq_true rfl, Nat.le_of_ble_eq_true rfl⟩ dX7_readCond_34 rfl (st := []) (fun I_520577 J_520578 h_520579 => ?_)
            obtain ⟨hUI_520577, hFI_520577, hGJ_520578⟩ := h_520579
            have hF_520580 := fq_tr hF_520549 hFI_520577 (by decide)
            have hG_520581 := fq_tr hG_520550 hGJ_520578 (by decide)
            refine g_aload_n C 0 dX7_readCond_37 rfl rfl ?_
            refine g_aload_n C 1 dX7_readCond_38 rfl rfl ?_
            refine g_aload_n C 2 dX7_readCond_39 rfl rfl ?_
            refine g_iload_n C 3 dX7_readCond_40 rfl rfl ?_
            refine g_callVI C K (c_X7_readAll_1 W9 hLx hkx hLa0 hka0 hLa1 hka1 v_520551 (rv_520551) hUI_520577) hLx hkx (by decide) rfl v_7_54 rfl ⟨rfl, rfl⟩ ⟨Nat.le_of_ble_eq_true rfl, Nat.le_of_ble_eq_true rfl⟩ (Nat.le_of_ble_eq_true rfl) ⟨Nat.le_of_ble_eq_true rfl, Nat.le_of_ble_eq_true rfl⟩ dX7_readCond_41 rfl (st := []) (fun x_520582 I_520583 J_520584 h_520585 => ?_)
            obtain ⟨hUI_520583, hFI_520583, hGJ_520584, rx_520582⟩ := h_520585
            have hF_520586 := fq_tr hF_520580 hFI_520583 (by decide)
            have hG_520587 := fq_tr hG_520581 hGJ_520584 (by decide)
            refine g_if_eq C (tgt := 62) dX7_readCond_44 (by decide) (fun h_520588 => ?_) (fun h_520588 => ?_)
            · skip
              have r_520589 := (⟨(rx_520582).1, (eq_rg (h_520588) rc_0).2⟩ : Rg 0 0 x_520582)
              refine g_lo (is := [0, 1, 2, 3, 4, 5]) (lo2 := [(0, .ref x), (1, .ref a0), (2, .ref a1), (3, .int v_520551), (4, .int v_520552), (5, .int v_520553)]) rfl ?_
              exact j_62 I_520583 J_520584 hUI_520583 hF_520586 hG_520587 v_520551 (rv_520551) v_520552 (r_520571) (n_520570) v_520553 (r_520567) hm_520554
            · skip
              have n_520590 : ¬ x_520582 = 0 := h_520588
              have r_520591 := ne_lo (lo := 1) n_520590 rx_520582 rc_0 rfl (by decide)
              refine g_aload_n C 0 dX7_readCond_47 rfl rfl ?_
              refine g_bipush C (v := 17) dX7_readCond_48 (by decide) ?_
              refine g_iconst C (v := 0) dX7_readCond_50 (by decide) ?_
              refine g_iconst C (v := 0) dX7_readCond_51 (by decide) ?_
              refine g_callVI C K (c_X7_addStep W9 hLx hkx 17 0 0 (rg_w rc_0 (by decide) (by decide)) hUI_520583  (fun q => absurd q (by decide))) hLx hkx (by decide) rfl v_7_63 rfl ⟨rfl, rfl⟩ ⟨Nat.le_of_ble_eq_true rfl, Nat.le_of_ble_eq_true rfl⟩ (Nat.le_of_ble_eq_true rfl) ⟨Nat.le_of_ble_eq_true rfl, Nat.le_of_ble_eq_true rfl⟩ dX7_readCond_52 rfl (st := []) (fun x_520592 I_520593 J_520594 h_520595 => ?_)
              obtain ⟨hUI_520593, hFI_520593, hGJ_520594, rx_520592⟩ := h_520595
              have hF_520596 := fq_tr hF_520586 hFI_520593 (by decide)
              have hG_520597 := fq_tr hG_520587 hGJ_520594 (by decide)
              refine g_if_eq C (tgt := 62) dX7_readCond_55 (by decide) (fun h_520598 => ?_) (fun h_520598 => ?_)
              · skip
                have r_520599 := (⟨(rx_520592).1, (eq_rg (h_520598) rc_0).2⟩ : Rg 0 0 x_520592)
                refine g_lo (is := [0, 1, 2, 3, 4, 5]) (lo2 := [(0, .ref x), (1, .ref a0), (2, .ref a1), (3, .int v_520551), (4, .int v_520552), (5, .int v_520553)]) rfl ?_
                exact j_62 I_520593 J_520594 hUI_520593 hF_520596 hG_520597 v_520551 (rv_520551) v_520552 (r_520571) (n_520570) v_520553 (r_520567) hm_520554
              · skip
                have n_520600 : ¬ x_520592 = 0 := h_520598
                have r_520601 := ne_lo (lo := 1) n_520600 rx_520592 rc_0 rfl (by decide)
                refine g_iconst C (v := 1) dX7_readCond_58 (by decide) ?_
                refine g_goto C (tgt := 63) dX7_readCond_59 (by decide) ?_
                refine g_istore C dX7_readCond_63 (by decide) (lo2 := [(4, .int 1), (0, .ref x), (1, .ref a0), (2, .ref a1), (3, .int v_520551), (5, .int v_520553)]) rfl ?_
                obtain ⟨x_520602, hx_520602, rx_520602, tx_520602⟩ := ex_add (y := 1) 1 20 r_520567 rc_1 (by decide) (by decide) (by decide) (by decide)
                refine g_iinc C dX7_readCond_65 (k := 5) (v := x_520602) rfl hx_520602 (by decide) (lo2 := [(5, .int x_520602), (4, .int 1), (0, .ref x), (1, .ref a0), (2, .ref a1), (3, .int v_520551)]) rfl ?_
                refine g_goto C (tgt := 12) dX7_readCond_68 (by decide) ?_
                refine g_lo (is := [2, 3, 4, 5, 1, 0]) (lo2 := [(0, .ref x), (1, .ref a0), (2, .ref a1), (3, .int v_520551), (4, .int 1), (5, .int x_520602)]) rfl ?_
                exact ih_12 I_520593 J_520594 hUI_520593 hF_520596 hG_520597 v_520551 (rv_520551) 1 (rg_w rc_1 (by decide) (by decide)) x_520602 (rg_w rx_520602 (by decide) (by decide)) (ms_1 hm_520554 (ti_k tx_520602 rc_1) (by decide))
  refine g_aload_n C 0 dX7_readCond_0 rfl rfl ?_
  refine g_aload_n C 1 dX7_readCond_1 rfl rfl ?_
  refine g_aload_n C 2 dX7_readCond_2 rfl rfl ?_
  refine g_iload_n C 3 dX7_readCond_3 rfl rfl ?_
  refine g_callVI C K (c_X7_readAll_1 W9 hLx hkx hLa0 hka0 hLa1 hka1 a2 (ra2) hU) hLx hkx (by decide) rfl v_7_54 rfl ⟨rfl, rfl⟩ ⟨Nat.le_of_ble_eq_true rfl, Nat.le_of_ble_eq_true rfl⟩ (Nat.le_of_ble_eq_true rfl) ⟨Nat.le_of_ble_eq_true rfl, Nat.le_of_ble_eq_true rfl⟩ dX7_readCond_4 rfl (st := []) (fun x_520603 I_520604 J_520605 h_520606 => ?_)
  obtain ⟨hUI_520604, hFI_520604, hGJ_520605, rx_520603⟩ := h_520606
  have hF_520607 := fq_tr hF hFI_520604 (by decide)
  have hG_520608 := fq_tr hG hGJ_520605 (by decide)
  refine g_istore C dX7_readCond_7 (by decide) (lo2 := [(4, .int x_520603), (0, .ref x), (1, .ref a0), (2, .ref a1), (3, .int a2)]) rfl ?_
  refine g_iconst C (v := 0) dX7_readCond_9 (by decide) ?_
  refine g_istore C dX7_readCond_10 (by decide) (lo2 := [(5, .int 0), (4, .int x_520603), (0, .ref x), (1, .ref a0), (2, .ref a1), (3, .int a2)]) rfl ?_
  refine g_lo (is := [2, 3, 4, 5, 1, 0]) (lo2 := [(0, .ref x), (1, .ref a0), (2, .ref a1), (3, .int a2), (4, .int x_520603), (5, .int 0)]) rfl ?_
  exact l_12 21 I_520604 J_520605 hUI_520604 hF_520607 hG_520608 a2 (ra2) x_520603 (rx_520603) 0 (rg_w rc_0 (by decide) (by decide)) (ms_s (a := 0) (b := 20) (N := 21) (rg_w rc_0 (by decide) (by decide)) (by decide))
set_option maxRecDepth 100000 in
set_option maxHeartbeats 8000000 in
theorem c_X7_readFrom {l : Launch} {D : va_G} {cy : Nat → ClassId} {L : List Nat} {κ ln : Nat → Nat} {R : Nat → Nat → Option Nat} {I : Nat → Nat → Int32} {J : Nat → Nat → Int64} {ow : Nat → Nat × Nat} (W9 : ∀ a ∈ L, Shp L κ ln R ow a) {x : Nat} (hLx : x ∈ L) (hkx : κ x = 7) {a0 : Nat} (hLa0 : a0 ∈ L) (hka0 : κ a0 = 10) {a1 : Nat} (hLa1 : a1 ∈ L) (hka1 : κ a1 = 8) (hU : Iv L κ R ow I) : CtI l yX7_readFrom cX7_readFrom 3 (some .boolean) { frames := 28, cells := 0, slots := 0, locals := 687 } D cy L κ ln R I J [.ref x, .ref a0, .ref a1] (fun r I2 J2 => Iv L κ R ow I2 ∧ Fq L κ ow [704, 705, 1006, 1007, 1008, 1009, 1011, 1012, 52000, 52100, 52200, 70200, 70300] I I2 ∧ Fq L κ ow [1010, 70400] J J2 ∧ Rg 0 1 r) := by
  refine CtI.of (by decide +kernel) (Nat.le_of_ble_eq_true rfl) ?_
  intro p e s m below meth c B K
  have C := B.1
  have hF : Fq L κ ow [704, 705, 1006, 1007, 1008, 1009, 1011, 1012, 52000, 52100, 52200, 70200, 70300] I I := fq_rf
  have hG : Fq L κ ow [1010, 70400] J J := fq_rf
  refine g_lo (is := [0, 1, 2]) (lo2 := [(0, .ref x), (1, .ref a0), (2, .ref a1)]) rfl ?_
  refine g_aload_n C 0 dX7_readFrom_0 rfl rfl ?_
  refine g_callVV C K (c_X7_forget W9 hLx hkx   hU) hLx hkx (by decide) rfl v_7_37 rfl ⟨rfl, rfl⟩ ⟨Nat.le_of_ble_eq_true rfl, Nat.le_of_ble_eq_true rfl⟩ (Nat.le_of_ble_eq_true rfl) ⟨Nat.le_of_ble_eq_true rfl, Nat.le_of_ble_eq_true rfl⟩ dX7_readFrom_1 rfl (st := []) (fun I_520674 J_520675 h_520676 => ?_)
  obtain ⟨hUI_520674, hFI_520674, hGJ_520675⟩ := h_520676
  have hF_520677 := fq_tr hF hFI_520674 (by decide)
  have hG_520678 := fq_tr hG hGJ_520675 (by decide)
  refine g_aload_n C 1 dX7_readFrom_4 rfl rfl ?_
  refine g_sipush C (v := 200) dX7_readFrom_5 (by decide) ?_
  refine g_callVV C K (c_X10_begin W9 hLa0 hka0 200 (rg_w rc_200 (by decide) (by decide)) hUI_520674) hLa0 hka0 (by decide) rfl v_7_40 rfl ⟨rfl, rfl⟩ ⟨Nat.le_of_ble_eq_true rfl, Nat.le_of_ble_eq_true rfl⟩ (Nat.le_of_ble_eq_true rfl) ⟨Nat.le_of_ble_eq_true rfl, Nat.le_of_ble_eq_true rfl⟩ dX7_readFrom_8 rfl (st := []) (fun I_520680 J_520681 h_520682 => ?_)
  obtain ⟨hUI_520680, hFI_520680, hGJ_520681⟩ := h_520682
  have hF_520683 := fq_tr hF_520677 hFI_520680 (by decide)
  have hG_520684 := fq_tr hG_520678 hGJ_520681 (by decide)
  refine g_aload_n C 0 dX7_readFrom_11 rfl rfl ?_
  refine g_aload_n C 1 dX7_readFrom_12 rfl rfl ?_
  refine g_aload_n C 2 dX7_readFrom_13 rfl rfl ?_
  refine g_iconst C (v := 1) dX7_readFrom_14 (by decide) ?_
  refine g_callVI C K (c_X7_readCond_1 W9 hLx hkx hLa0 hka0 hLa1 hka1 1 (rc_1) hUI_520680) hLx hkx (by decide) rfl v_7_46 rfl ⟨rfl, rfl⟩ ⟨Nat.le_of_ble_eq_true rfl, Nat.le_of_ble_eq_true rfl⟩ (Nat.le_of_ble_eq_true rfl) ⟨Nat.le_of_ble_eq_true rfl, Nat.le_of_ble_eq_true rfl⟩ dX7_readFrom_15 rfl (st := []) (fun x_520685 I_520686 J_520687 h_520688 => ?_)
  obtain ⟨hUI_520686, hFI_520686, hGJ_520687, rx_520685⟩ := h_520688
  have hF_520689 := fq_tr hF_520683 hFI_520686 (by decide)
  have hG_520690 := fq_tr hG_520684 hGJ_520687 (by decide)
  refine g_if_eq C (tgt := 34) dX7_readFrom_18 (by decide) (fun h_520691 => ?_) (fun h_520691 => ?_)
  · skip
    have r_520692 := (⟨(rx_520685).1, (eq_rg (h_520691) rc_0).2⟩ : Rg 0 0 x_520685)
    refine g_iconst C (v := 0) dX7_readFrom_34 (by decide) ?_
    exact g_zret (ty := .boolean) (r := 0) B K rfl (rfl) ⟨hUI_520686, hF_520689, hG_520690, rg_w rc_0 (by decide) (by decide)⟩ dX7_readFrom_35
  · skip
    have n_520693 : ¬ x_520685 = 0 := h_520691
    have r_520694 := ne_lo (lo := 1) n_520693 rx_520685 rc_0 rfl (by decide)
    refine g_aload_n C 1 dX7_readFrom_21 rfl rfl ?_
    refine g_bipush C (v := 102) dX7_readFrom_22 (by decide) ?_
    refine g_callVI C K (c_X10_take W9 hLa0 hka0 102 (rg_w rc_102 (by decide) (by decide)) hUI_520686) hLa0 hka0 (by decide) rfl v_7_50 rfl ⟨rfl, rfl⟩ ⟨Nat.le_of_ble_eq_true rfl, Nat.le_of_ble_eq_true rfl⟩ (Nat.le_of_ble_eq_true rfl) ⟨Nat.le_of_ble_eq_true rfl, Nat.le_of_ble_eq_true rfl⟩ dX7_readFrom_24 rfl (st := []) (fun x_520695 I_520696 J_520697 h_520698 => ?_)
    obtain ⟨hUI_520696, hFI_520696, hGJ_520697, rx_520695⟩ := h_520698
    have hF_520699 := fq_tr hF_520689 hFI_520696 (by decide)
    have hG_520700 := fq_tr hG_520690 hGJ_520697 (by decide)
    refine g_if_eq C (tgt := 34) dX7_readFrom_27 (by decide) (fun h_520701 => ?_) (fun h_520701 => ?_)
    · skip
      have r_520702 := (⟨(rx_520695).1, (eq_rg (h_520701) rc_0).2⟩ : Rg 0 0 x_520695)
      refine g_iconst C (v := 0) dX7_readFrom_34 (by decide) ?_
      exact g_zret (ty := .boolean) (r := 0) B K rfl (rfl) ⟨hUI_520696, hF_520699, hG_520700, rg_w rc_0 (by decide) (by decide)⟩ dX7_readFrom_35
    · skip
      have n_520703 : ¬ x_520695 = 0 := h_520701
      have r_520704 := ne_lo (lo := 1) n_520703 rx_520695 rc_0 rfl (by decide)
      refine g_iconst C (v := 1) dX7_readFrom_30 (by decide) ?_
      refine g_goto C (tgt := 35) dX7_readFrom_31 (by decide) ?_
      exact g_zret (ty := .boolean) (r := 1) B K rfl (rfl) ⟨hUI_520696, hF_520699, hG_520700, rg_w rc_1 (by decide) (by decide)⟩ dX7_readFrom_35
set_option maxRecDepth 100000 in
set_option maxHeartbeats 8000000 in
theorem c_X11_sentence {l : Launch} {D : va_G} {cy : Nat → ClassId} {L : List Nat} {κ ln : Nat → Nat} {R : Nat → Nat → Option Nat} {I : Nat → Nat → Int32} {J : Nat → Nat → Int64} {ow : Nat → Nat × Nat} (W9 : ∀ a ∈ L, Shp L κ ln R ow a) {x : Nat} (hLx : x ∈ L) (hkx : κ x = 11) (hU : Iv L κ R ow I) : CtI l yX11_sentence cX11_sentence 1 (some .int) { frames := 29, cells := 0, slots := 0, locals := 709 } D cy L κ ln R I J [.ref x] (fun r I2 J2 => Iv L κ R ow I2 ∧ Fq L κ ow [704, 705, 1005, 1006, 1007, 1008, 1009, 1011, 1012, 52000, 52100, 52200, 70200, 70300] I I2 ∧ Fq L κ ow [1010, 70400] J J2 ∧ Rg (-2147483648) 2147483647 r) := by
  refine CtI.of (by decide +kernel) (Nat.le_of_ble_eq_true rfl) ?_
  intro p e s m below meth c B K
  have C := B.1
  have hF : Fq L κ ow [704, 705, 1005, 1006, 1007, 1008, 1009, 1011, 1012, 52000, 52100, 52200, 70200, 70300] I I := fq_rf
  have hG : Fq L κ ow [1010, 70400] J J := fq_rf
  obtain ⟨b_520757, hb_520757, hb_520757L, hb_520757k⟩ := shp_o (W9 x hLx) hkx 7 7 rfl (by decide)
  obtain ⟨b_520758, hb_520758, hb_520758L, hb_520758k⟩ := shp_o (W9 x hLx) hkx 8 7 rfl (by decide)
  obtain ⟨b_520759, hb_520759, hb_520759L, hb_520759k⟩ := shp_o (W9 x hLx) hkx 0 10 rfl (by decide)
  obtain ⟨b_520760, hb_520760, hb_520760L, hb_520760k⟩ := shp_o (W9 x hLx) hkx 1 8 rfl (by decide)
  refine g_lo (is := [0]) (lo2 := [(0, .ref x)]) rfl ?_
  refine g_aload_n C 0 dX11_sentence_0 rfl rfl ?_
  refine g_getR C K hLx hkx f_11_63 hb_520758 dX11_sentence_1 ?_
  refine g_aload_n C 0 dX11_sentence_4 rfl rfl ?_
  refine g_getR C K hLx hkx f_11_10 hb_520759 dX11_sentence_5 ?_
  refine g_aload_n C 0 dX11_sentence_8 rfl rfl ?_
  refine g_getR C K hLx hkx f_11_19 hb_520760 dX11_sentence_9 ?_
  refine g_callVI C K (c_X7_readFrom W9 hb_520758L hb_520758k hb_520759L hb_520759k hb_520760L hb_520760k  hU) hb_520758L hb_520758k (by decide) rfl v_11_362 rfl ⟨rfl, rfl⟩ ⟨Nat.le_of_ble_eq_true rfl, Nat.le_of_ble_eq_true rfl⟩ (Nat.le_of_ble_eq_true rfl) ⟨Nat.le_of_ble_eq_true rfl, Nat.le_of_ble_eq_true rfl⟩ dX11_sentence_12 rfl (st := []) (fun x_520761 I_520762 J_520763 h_520764 => ?_)
  obtain ⟨hUI_520762, hFI_520762, hGJ_520763, rx_520761⟩ := h_520764
  have hF_520765 := fq_tr hF hFI_520762 (by decide)
  have hG_520766 := fq_tr hG hGJ_520763 (by decide)
  refine g_pop C dX11_sentence_15 rfl ?_
  refine g_aload_n C 0 dX11_sentence_16 rfl rfl ?_
  refine g_getR C K hLx hkx f_11_10 hb_520759 dX11_sentence_17 ?_
  refine g_iconst C (v := 0) dX11_sentence_20 (by decide) ?_
  refine h_putI C K hb_520759L hb_520759k f_11_102 p_10_5 dX11_sentence_21 (fun I_520767 hI_520767 => ?_)
  have hU_520768 := iv_put W9 hUI_520762 hI_520767 (ro_o hb_520759k (by decide)) (lo := 0) (hi := 940) (rfl) (rg_w rc_0 (by decide) (by decide)) rfl
  have hF_520769 := fq_puto hF_520765 hI_520767 hb_520759k (by decide) (by decide)
  refine g_aload_n C 0 dX11_sentence_24 rfl rfl ?_
  refine g_getR C K hLx hkx f_11_10 hb_520759 dX11_sentence_25 ?_
  obtain ⟨x_520770, hx_520770, rx_520770⟩ := ex_get (I := I_520767) (a := b_520759) (j := 11) (lo := (-2147483648)) (hi := 2147483647) hU_520768.1 hb_520759L (ro_o hb_520759k (by decide)) rfl
  refine g_getI C K hb_520759L hb_520759k f_11_113 (v := x_520770) hx_520770 dX11_sentence_28 ?_
  refine g_if_eq C (tgt := 44) dX11_sentence_31 (by decide) (fun h_520771 => ?_) (fun h_520771 => ?_)
  · skip
    have r_520772 := (⟨(eq_rg (h_520771) rc_0).1, (eq_rg (h_520771) rc_0).2⟩ : Rg 0 0 x_520770)
    refine g_aload_n C 0 dX11_sentence_44 rfl rfl ?_
    refine g_getR C K hLx hkx f_11_59 hb_520757 dX11_sentence_45 ?_
    refine g_aload_n C 0 dX11_sentence_48 rfl rfl ?_
    refine g_getR C K hLx hkx f_11_63 hb_520758 dX11_sentence_49 ?_
    refine g_callVV C K (c_X7_become W9 hb_520757L hb_520757k hb_520758L hb_520758k  hU_520768) hb_520757L hb_520757k (by decide) rfl v_11_365 rfl ⟨rfl, rfl⟩ ⟨Nat.le_of_ble_eq_true rfl, Nat.le_of_ble_eq_true rfl⟩ (Nat.le_of_ble_eq_true rfl) ⟨Nat.le_of_ble_eq_true rfl, Nat.le_of_ble_eq_true rfl⟩ dX11_sentence_52 rfl (st := []) (fun I_520774 J_520775 h_520776 => ?_)
    obtain ⟨hUI_520774, hFI_520774, hGJ_520775⟩ := h_520776
    have hF_520777 := fq_tr hF_520769 hFI_520774 (by decide)
    have hG_520778 := fq_tr hG_520766 hGJ_520775 (by decide)
    refine g_aload_n C 0 dX11_sentence_55 rfl rfl ?_
    refine g_getR C K hLx hkx f_11_59 hb_520757 dX11_sentence_56 ?_
    obtain ⟨x_520779, hx_520779, rx_520779⟩ := ex_get (I := I_520774) (a := b_520757) (j := 5) (lo := (-2147483648)) (hi := 2147483647) hUI_520774.1 hb_520757L (ro_o hb_520757k (by decide)) rfl
    refine g_getI C K hb_520757L hb_520757k f_11_368 (v := x_520779) hx_520779 dX11_sentence_59 ?_
    exact g_zret (ty := .int) (r := x_520779) B K rfl (rfl) ⟨hUI_520774, hF_520777, hG_520778, rx_520779⟩ dX11_sentence_62
  · skip
    have n_520780 : ¬ x_520770 = 0 := h_520771
    refine g_iconst C (v := (-1)) dX11_sentence_34 (by decide) ?_
    refine g_aload_n C 0 dX11_sentence_35 rfl rfl ?_
    refine g_getR C K hLx hkx f_11_10 hb_520759 dX11_sentence_36 ?_
    obtain ⟨x_520781, hx_520781, rx_520781⟩ := ex_get (I := I_520767) (a := b_520759) (j := 12) (lo := (-2147483648)) (hi := 2147483647) hU_520768.1 hb_520759L (ro_o hb_520759k (by decide)) rfl
    refine g_getI C K hb_520759L hb_520759k f_11_116 (v := x_520781) hx_520781 dX11_sentence_39 ?_
    obtain ⟨x_520782, hx_520782, rx_520782, tx_520782⟩ := ex_sub (-2147483648) 2147483647 rc_m1 rx_520781 (by decide) (by decide) (by decide) (by decide)
    refine g_isub C (v := x_520782) dX11_sentence_42 hx_520782 ?_
    exact g_zret (ty := .int) (r := x_520782) B K rfl (rfl) ⟨hU_520768, hF_520769, hG_520766, rx_520782⟩ dX11_sentence_43
set_option maxRecDepth 100000 in
set_option maxHeartbeats 8000000 in
theorem c_X7_compares {l : Launch} {D : va_G} {cy : Nat → ClassId} {L : List Nat} {κ ln : Nat → Nat} {R : Nat → Nat → Option Nat} {I : Nat → Nat → Int32} {J : Nat → Nat → Int64} {ow : Nat → Nat × Nat} (W9 : ∀ a ∈ L, Shp L κ ln R ow a) {x : Nat} (hLx : x ∈ L) (hkx : κ x = 7) (a0 : Int32) (a1 : Int32) (ra1 : Rg 0 39 a1) (hU : Iv L κ R ow I) : CtI l yX7_compares cX7_compares 3 (some .boolean) { frames := 0, cells := 0, slots := 0, locals := 0 } D cy L κ ln R I J [.ref x, .int a0, .int a1] (fun r I2 J2 => I = I2 ∧ J = J2 ∧ Rg 0 1 r) := by
  refine CtI.of (by decide +kernel) (Nat.le_of_ble_eq_true rfl) ?_
  intro p e s m below meth c B K
  have C := B.1
  obtain ⟨b_520823, hb_520823, hb_520823L, hb_520823k, hb_520823n, hb_520823o⟩ := shp_a (W9 x hLx) hkx 1 14 40 rfl (by decide)
  obtain ⟨b_520824, hb_520824, hb_520824L, hb_520824k, hb_520824n, hb_520824o⟩ := shp_a (W9 x hLx) hkx 2 14 40 rfl (by decide)
  refine g_lo (is := [0, 1, 2]) (lo2 := [(0, .ref x), (1, .int a0), (2, .int a1)]) rfl ?_
  refine g_aload_n C 0 dX7_compares_0 rfl rfl ?_
  refine g_getR C K hLx hkx f_7_15 hb_520823 dX7_compares_1 ?_
  refine g_iload_n C 2 dX7_compares_4 rfl rfl ?_
  obtain ⟨x_520825, hx_520825, rx_520825⟩ := ex_get (I := I) (a := b_520823) (j := a1.toNatClampNeg) (lo := (-2147483648)) (hi := 2147483647) hU.1 hb_520823L (ro_a hb_520823k (by decide) hb_520823o hkx rfl) (rfl)
  refine h_iald C K hb_520823L hb_520823k (v := x_520825) (a1.toNatClampNeg) (rfl) (ix_0 ra1 (by decide)) (ix_lt ra1 (by decide) hb_520823n (by decide)) hx_520825 dX7_compares_5 ?_
  by_cases c_520826 : x_520825.toInt = 60
  · skip
    have r_520827 := rg_of (a := 60) (b := 60) 60 c_520826 (by decide) (by decide)
    refine g_lookup C (tgt := 32) (off := 26) dX7_compares_6 (by decide) (by rw [c_520826]; decide) (by decide) ?_
    refine g_iload_n C 1 dX7_compares_32 rfl rfl ?_
    refine g_aload_n C 0 dX7_compares_33 rfl rfl ?_
    refine g_getR C K hLx hkx f_7_18 hb_520824 dX7_compares_34 ?_
    refine g_iload_n C 2 dX7_compares_37 rfl rfl ?_
    obtain ⟨x_520828, hx_520828, rx_520828⟩ := ex_get (I := I) (a := b_520824) (j := a1.toNatClampNeg) (lo := (-2147483648)) (hi := 2147483647) hU.1 hb_520824L (ro_a hb_520824k (by decide) hb_520824o hkx rfl) (rfl)
    refine h_iald C K hb_520824L hb_520824k (v := x_520828) (a1.toNatClampNeg) (rfl) (ix_0 ra1 (by decide)) (ix_lt ra1 (by decide) hb_520824n (by decide)) hx_520828 dX7_compares_38 ?_
    refine g_icmp_ge C (tgt := 46) dX7_compares_39 (by decide) (fun h_520829 => ?_) (fun h_520829 => ?_)
    · skip
      refine g_iconst C (v := 0) dX7_compares_46 (by decide) ?_
      exact g_zret (ty := .boolean) (r := 0) B K rfl (rfl) ⟨rfl, rfl, rg_w rc_0 (by decide) (by decide)⟩ dX7_compares_47
    · skip
      have r_520830 := lt_l (hi := 2147483646) (nle h_520829) (rg_all a0) rx_520828 (by decide)
      have r_520831 := lt_r (lo := (-2147483647)) (nle h_520829) (rg_all a0) rx_520828 (by decide)
      refine g_iconst C (v := 1) dX7_compares_42 (by decide) ?_
      refine g_goto C (tgt := 47) dX7_compares_43 (by decide) ?_
      exact g_zret (ty := .boolean) (r := 1) B K rfl (rfl) ⟨rfl, rfl, rg_w rc_1 (by decide) (by decide)⟩ dX7_compares_47
  by_cases c_520832 : x_520825.toInt = 62
  · skip
    have r_520833 := rg_of (a := 62) (b := 62) 62 c_520832 (by decide) (by decide)
    refine g_lookup C (tgt := 48) (off := 42) dX7_compares_6 (by decide) (by rw [c_520832]; decide) (by decide) ?_
    refine g_iload_n C 1 dX7_compares_48 rfl rfl ?_
    refine g_aload_n C 0 dX7_compares_49 rfl rfl ?_
    refine g_getR C K hLx hkx f_7_18 hb_520824 dX7_compares_50 ?_
    refine g_iload_n C 2 dX7_compares_53 rfl rfl ?_
    obtain ⟨x_520834, hx_520834, rx_520834⟩ := ex_get (I := I) (a := b_520824) (j := a1.toNatClampNeg) (lo := (-2147483648)) (hi := 2147483647) hU.1 hb_520824L (ro_a hb_520824k (by decide) hb_520824o hkx rfl) (rfl)
    refine h_iald C K hb_520824L hb_520824k (v := x_520834) (a1.toNatClampNeg) (rfl) (ix_0 ra1 (by decide)) (ix_lt ra1 (by decide) hb_520824n (by decide)) hx_520834 dX7_compares_54 ?_
    refine g_icmp_le C (tgt := 62) dX7_compares_55 (by decide) (fun h_520835 => ?_) (fun h_520835 => ?_)
    · skip
      refine g_iconst C (v := 0) dX7_compares_62 (by decide) ?_
      exact g_zret (ty := .boolean) (r := 0) B K rfl (rfl) ⟨rfl, rfl, rg_w rc_0 (by decide) (by decide)⟩ dX7_compares_63
    · skip
      have r_520836 := lt_l (hi := 2147483646) (nle h_520835) rx_520834 (rg_all a0) (by decide)
      have r_520837 := lt_r (lo := (-2147483647)) (nle h_520835) rx_520834 (rg_all a0) (by decide)
      refine g_iconst C (v := 1) dX7_compares_58 (by decide) ?_
      refine g_goto C (tgt := 63) dX7_compares_59 (by decide) ?_
      exact g_zret (ty := .boolean) (r := 1) B K rfl (rfl) ⟨rfl, rfl, rg_w rc_1 (by decide) (by decide)⟩ dX7_compares_63
  obtain ⟨q_5208381, q_5208382⟩ := rx_520825
  refine g_lookup C (tgt := 64) (off := 58) dX7_compares_6 (by decide) (by simp [Op.lookupswitch.offset, c_520826, c_520832]) (by decide) ?_
  refine g_iload_n C 1 dX7_compares_64 rfl rfl ?_
  refine g_aload_n C 0 dX7_compares_65 rfl rfl ?_
  refine g_getR C K hLx hkx f_7_18 hb_520824 dX7_compares_66 ?_
  refine g_iload_n C 2 dX7_compares_69 rfl rfl ?_
  obtain ⟨x_520839, hx_520839, rx_520839⟩ := ex_get (I := I) (a := b_520824) (j := a1.toNatClampNeg) (lo := (-2147483648)) (hi := 2147483647) hU.1 hb_520824L (ro_a hb_520824k (by decide) hb_520824o hkx rfl) (rfl)
  refine h_iald C K hb_520824L hb_520824k (v := x_520839) (a1.toNatClampNeg) (rfl) (ix_0 ra1 (by decide)) (ix_lt ra1 (by decide) hb_520824n (by decide)) hx_520839 dX7_compares_70 ?_
  refine g_icmp_ne C (tgt := 78) dX7_compares_71 (by decide) (fun h_520840 => ?_) (fun h_520840 => ?_)
  · skip
    refine g_iconst C (v := 0) dX7_compares_78 (by decide) ?_
    exact g_zret (ty := .boolean) (r := 0) B K rfl (rfl) ⟨rfl, rfl, rg_w rc_0 (by decide) (by decide)⟩ dX7_compares_79
  · skip
    refine g_iconst C (v := 1) dX7_compares_74 (by decide) ?_
    refine g_goto C (tgt := 79) dX7_compares_75 (by decide) ?_
    exact g_zret (ty := .boolean) (r := 1) B K rfl (rfl) ⟨rfl, rfl, rg_w rc_1 (by decide) (by decide)⟩ dX7_compares_79
set_option maxRecDepth 100000 in
set_option maxHeartbeats 8000000 in
theorem c_X7_holds {l : Launch} {D : va_G} {cy : Nat → ClassId} {L : List Nat} {κ ln : Nat → Nat} {R : Nat → Nat → Option Nat} {I : Nat → Nat → Int32} {J : Nat → Nat → Int64} {ow : Nat → Nat × Nat} (W9 : ∀ a ∈ L, Shp L κ ln R ow a) {x : Nat} (hLx : x ∈ L) (hkx : κ x = 7) {a0 : Nat} (hLa0 : a0 ∈ L) (hka0 : κ a0 = 1) (a1 : Int32) (a2 : Int32) (ra1 : Rg 0 39 a1) (ra2 : Rg 0 6 a2) (hU : Iv L κ R ow I) : CtI l yX7_holds cX7_holds 4 (some .boolean) { frames := 1, cells := 0, slots := 0, locals := 22 } D cy L κ ln R I J [.ref x, .ref a0, .int a1, .int a2] (fun r I2 J2 => I = I2 ∧ J = J2 ∧ Rg 0 1 r) := by
  refine CtI.of (by decide +kernel) (Nat.le_of_ble_eq_true rfl) ?_
  intro p e s m below meth c B K
  have C := B.1
  obtain ⟨b_521167, hb_521167, hb_521167L, hb_521167k, hb_521167n, hb_521167o⟩ := shp_a (W9 a0 hLa0) hka0 6 14 7 rfl (by decide)
  obtain ⟨b_521168, hb_521168, hb_521168L, hb_521168k⟩ := shp_o (W9 a0 hLa0) hka0 0 8 rfl (by decide)
  obtain ⟨b_521169, hb_521169, hb_521169L, hb_521169k, hb_521169n, hb_521169o⟩ := shp_a (W9 a0 hLa0) hka0 3 14 7 rfl (by decide)
  obtain ⟨b_521170, hb_521170, hb_521170L, hb_521170k, hb_521170n, hb_521170o⟩ := shp_a (W9 x hLx) hkx 2 14 40 rfl (by decide)
  obtain ⟨b_521171, hb_521171, hb_521171L, hb_521171k, hb_521171n, hb_521171o⟩ := shp_a (W9 x hLx) hkx 0 14 40 rfl (by decide)
  obtain ⟨b_521172, hb_521172, hb_521172L, hb_521172k, hb_521172n, hb_521172o⟩ := shp_a (W9 a0 hLa0) hka0 4 14 7 rfl (by decide)
  obtain ⟨b_521173, hb_521173, hb_521173L, hb_521173k, hb_521173n, hb_521173o⟩ := shp_a (W9 b_521168 hb_521168L) hb_521168k 1 14 7 rfl (by decide)
  obtain ⟨b_521174, hb_521174, hb_521174L, hb_521174k, hb_521174n, hb_521174o⟩ := shp_a (W9 b_521168 hb_521168L) hb_521168k 2 14 7 rfl (by decide)
  refine g_lo (is := [0, 1, 2, 3]) (lo2 := [(0, .ref x), (1, .ref a0), (2, .int a1), (3, .int a2)]) rfl ?_
  refine g_aload_n C 0 dX7_holds_0 rfl rfl ?_
  refine g_getR C K hLx hkx f_7_11 hb_521171 dX7_holds_1 ?_
  refine g_iload_n C 2 dX7_holds_4 rfl rfl ?_
  obtain ⟨x_521175, hx_521175, rx_521175⟩ := ex_get (I := I) (a := b_521171) (j := a1.toNatClampNeg) (lo := (-2147483648)) (hi := 2147483647) hU.1 hb_521171L (ro_a hb_521171k (by decide) hb_521171o hkx rfl) (rfl)
  refine h_iald C K hb_521171L hb_521171k (v := x_521175) (a1.toNatClampNeg) (rfl) (ix_0 ra1 (by decide)) (ix_lt ra1 (by decide) hb_521171n (by decide)) hx_521175 dX7_holds_5 ?_
  by_cases c_521176 : x_521175.toInt = 5
  · skip
    have r_521177 := rg_of (a := 5) (b := 5) 5 c_521176 (by decide) (by decide)
    refine g_tableIn C (tgt := 154) dX7_holds_6 (by omega) (by omega) (off := 148) (by rw [c_521176]; rfl) (by decide) ?_
    refine g_aload_n C 1 dX7_holds_154 rfl rfl ?_
    refine g_getR C K hLa0 hka0 f_7_100 hb_521168 dX7_holds_155 ?_
    refine g_getR C K hb_521168L hb_521168k f_7_130 hb_521174 dX7_holds_158 ?_
    refine g_iload_n C 3 dX7_holds_161 rfl rfl ?_
    obtain ⟨x_521178, hx_521178, rx_521178⟩ := ex_get (I := I) (a := b_521174) (j := a2.toNatClampNeg) (lo := (-1)) (hi := 6) hU.1 hb_521174L (ro_a hb_521174k (by decide) hb_521174o hb_521168k rfl) (rfl)
    refine h_iald C K hb_521174L hb_521174k (v := x_521178) (a2.toNatClampNeg) (rfl) (ix_0 ra2 (by decide)) (ix_lt ra2 (by decide) hb_521174n (by decide)) hx_521178 dX7_holds_162 ?_
    refine g_aload_n C 0 dX7_holds_163 rfl rfl ?_
    refine g_getR C K hLx hkx f_7_18 hb_521170 dX7_holds_164 ?_
    refine g_iload_n C 2 dX7_holds_167 rfl rfl ?_
    obtain ⟨x_521179, hx_521179, rx_521179⟩ := ex_get (I := I) (a := b_521170) (j := a1.toNatClampNeg) (lo := (-2147483648)) (hi := 2147483647) hU.1 hb_521170L (ro_a hb_521170k (by decide) hb_521170o hkx rfl) (rfl)
    refine h_iald C K hb_521170L hb_521170k (v := x_521179) (a1.toNatClampNeg) (rfl) (ix_0 ra1 (by decide)) (ix_lt ra1 (by decide) hb_521170n (by decide)) hx_521179 dX7_holds_168 ?_
    refine g_icmp_ne C (tgt := 176) dX7_holds_169 (by decide) (fun h_521180 => ?_) (fun h_521180 => ?_)
    · skip
      refine g_iconst C (v := 0) dX7_holds_176 (by decide) ?_
      exact g_zret (ty := .boolean) (r := 0) B K rfl (rfl) ⟨rfl, rfl, rg_w rc_0 (by decide) (by decide)⟩ dX7_holds_177
    · skip
      have r_521181 := (⟨(eq_rg (Eq.symm (h_521180)) rx_521178).1, (eq_rg (Eq.symm (h_521180)) rx_521178).2⟩ : Rg (-1) 6 x_521179)
      refine g_iconst C (v := 1) dX7_holds_172 (by decide) ?_
      refine g_goto C (tgt := 177) dX7_holds_173 (by decide) ?_
      exact g_zret (ty := .boolean) (r := 1) B K rfl (rfl) ⟨rfl, rfl, rg_w rc_1 (by decide) (by decide)⟩ dX7_holds_177
  by_cases c_521182 : x_521175.toInt = 6
  · skip
    have r_521183 := rg_of (a := 6) (b := 6) 6 c_521182 (by decide) (by decide)
    refine g_tableIn C (tgt := 237) dX7_holds_6 (by omega) (by omega) (off := 231) (by rw [c_521182]; rfl) (by decide) ?_
    refine g_aload_n C 0 dX7_holds_237 rfl rfl ?_
    refine g_iload_n C 3 dX7_holds_238 rfl rfl ?_
    refine g_iload_n C 2 dX7_holds_239 rfl rfl ?_
    refine g_callVI C K (c_X7_compares W9 hLx hkx a2 a1 (ra1) hU) hLx hkx (by decide) rfl v_7_139 rfl ⟨rfl, rfl⟩ ⟨Nat.le_of_ble_eq_true rfl, Nat.le_of_ble_eq_true rfl⟩ (Nat.le_of_ble_eq_true rfl) ⟨Nat.le_of_ble_eq_true rfl, Nat.le_of_ble_eq_true rfl⟩ dX7_holds_240 rfl (st := []) (fun x_521184 I_521185 J_521186 h_521187 => ?_)
    obtain ⟨rfl, rfl, rx_521184⟩ := h_521187
    exact g_zret (ty := .boolean) (r := x_521184) B K rfl (nar_z (rx_521184)) ⟨rfl, rfl, rx_521184⟩ dX7_holds_243
  by_cases c_521188 : x_521175.toInt = 7
  · skip
    have r_521189 := rg_of (a := 7) (b := 7) 7 c_521188 (by decide) (by decide)
    refine g_tableIn C (tgt := 237) dX7_holds_6 (by omega) (by omega) (off := 231) (by rw [c_521188]; rfl) (by decide) ?_
    refine g_aload_n C 0 dX7_holds_237 rfl rfl ?_
    refine g_iload_n C 3 dX7_holds_238 rfl rfl ?_
    refine g_iload_n C 2 dX7_holds_239 rfl rfl ?_
    refine g_callVI C K (c_X7_compares W9 hLx hkx a2 a1 (ra1) hU) hLx hkx (by decide) rfl v_7_139 rfl ⟨rfl, rfl⟩ ⟨Nat.le_of_ble_eq_true rfl, Nat.le_of_ble_eq_true rfl⟩ (Nat.le_of_ble_eq_true rfl) ⟨Nat.le_of_ble_eq_true rfl, Nat.le_of_ble_eq_true rfl⟩ dX7_holds_240 rfl (st := []) (fun x_521190 I_521191 J_521192 h_521193 => ?_)
    obtain ⟨rfl, rfl, rx_521190⟩ := h_521193
    exact g_zret (ty := .boolean) (r := x_521190) B K rfl (nar_z (rx_521190)) ⟨rfl, rfl, rx_521190⟩ dX7_holds_243
  by_cases c_521194 : x_521175.toInt = 8
  · skip
    have r_521195 := rg_of (a := 8) (b := 8) 8 c_521194 (by decide) (by decide)
    refine g_tableIn C (tgt := 237) dX7_holds_6 (by omega) (by omega) (off := 231) (by rw [c_521194]; rfl) (by decide) ?_
    refine g_aload_n C 0 dX7_holds_237 rfl rfl ?_
    refine g_iload_n C 3 dX7_holds_238 rfl rfl ?_
    refine g_iload_n C 2 dX7_holds_239 rfl rfl ?_
    refine g_callVI C K (c_X7_compares W9 hLx hkx a2 a1 (ra1) hU) hLx hkx (by decide) rfl v_7_139 rfl ⟨rfl, rfl⟩ ⟨Nat.le_of_ble_eq_true rfl, Nat.le_of_ble_eq_true rfl⟩ (Nat.le_of_ble_eq_true rfl) ⟨Nat.le_of_ble_eq_true rfl, Nat.le_of_ble_eq_true rfl⟩ dX7_holds_240 rfl (st := []) (fun x_521196 I_521197 J_521198 h_521199 => ?_)
    obtain ⟨rfl, rfl, rx_521196⟩ := h_521199
    exact g_zret (ty := .boolean) (r := x_521196) B K rfl (nar_z (rx_521196)) ⟨rfl, rfl, rx_521196⟩ dX7_holds_243
  by_cases c_521200 : x_521175.toInt = 9
  · skip
    have r_521201 := rg_of (a := 9) (b := 9) 9 c_521200 (by decide) (by decide)
    refine g_tableIn C (tgt := 237) dX7_holds_6 (by omega) (by omega) (off := 231) (by rw [c_521200]; rfl) (by decide) ?_
    refine g_aload_n C 0 dX7_holds_237 rfl rfl ?_
    refine g_iload_n C 3 dX7_holds_238 rfl rfl ?_
    refine g_iload_n C 2 dX7_holds_239 rfl rfl ?_
    refine g_callVI C K (c_X7_compares W9 hLx hkx a2 a1 (ra1) hU) hLx hkx (by decide) rfl v_7_139 rfl ⟨rfl, rfl⟩ ⟨Nat.le_of_ble_eq_true rfl, Nat.le_of_ble_eq_true rfl⟩ (Nat.le_of_ble_eq_true rfl) ⟨Nat.le_of_ble_eq_true rfl, Nat.le_of_ble_eq_true rfl⟩ dX7_holds_240 rfl (st := []) (fun x_521202 I_521203 J_521204 h_521205 => ?_)
    obtain ⟨rfl, rfl, rx_521202⟩ := h_521205
    exact g_zret (ty := .boolean) (r := x_521202) B K rfl (nar_z (rx_521202)) ⟨rfl, rfl, rx_521202⟩ dX7_holds_243
  by_cases c_521206 : x_521175.toInt = 10
  · skip
    have r_521207 := rg_of (a := 10) (b := 10) 10 c_521206 (by decide) (by decide)
    refine g_tableIn C (tgt := 237) dX7_holds_6 (by omega) (by omega) (off := 231) (by rw [c_521206]; rfl) (by decide) ?_
    refine g_aload_n C 0 dX7_holds_237 rfl rfl ?_
    refine g_iload_n C 3 dX7_holds_238 rfl rfl ?_
    refine g_iload_n C 2 dX7_holds_239 rfl rfl ?_
    refine g_callVI C K (c_X7_compares W9 hLx hkx a2 a1 (ra1) hU) hLx hkx (by decide) rfl v_7_139 rfl ⟨rfl, rfl⟩ ⟨Nat.le_of_ble_eq_true rfl, Nat.le_of_ble_eq_true rfl⟩ (Nat.le_of_ble_eq_true rfl) ⟨Nat.le_of_ble_eq_true rfl, Nat.le_of_ble_eq_true rfl⟩ dX7_holds_240 rfl (st := []) (fun x_521208 I_521209 J_521210 h_521211 => ?_)
    obtain ⟨rfl, rfl, rx_521208⟩ := h_521211
    exact g_zret (ty := .boolean) (r := x_521208) B K rfl (nar_z (rx_521208)) ⟨rfl, rfl, rx_521208⟩ dX7_holds_243
  by_cases c_521212 : x_521175.toInt = 11
  · skip
    have r_521213 := rg_of (a := 11) (b := 11) 11 c_521212 (by decide) (by decide)
    refine g_tableIn C (tgt := 237) dX7_holds_6 (by omega) (by omega) (off := 231) (by rw [c_521212]; rfl) (by decide) ?_
    refine g_aload_n C 0 dX7_holds_237 rfl rfl ?_
    refine g_iload_n C 3 dX7_holds_238 rfl rfl ?_
    refine g_iload_n C 2 dX7_holds_239 rfl rfl ?_
    refine g_callVI C K (c_X7_compares W9 hLx hkx a2 a1 (ra1) hU) hLx hkx (by decide) rfl v_7_139 rfl ⟨rfl, rfl⟩ ⟨Nat.le_of_ble_eq_true rfl, Nat.le_of_ble_eq_true rfl⟩ (Nat.le_of_ble_eq_true rfl) ⟨Nat.le_of_ble_eq_true rfl, Nat.le_of_ble_eq_true rfl⟩ dX7_holds_240 rfl (st := []) (fun x_521214 I_521215 J_521216 h_521217 => ?_)
    obtain ⟨rfl, rfl, rx_521214⟩ := h_521217
    exact g_zret (ty := .boolean) (r := x_521214) B K rfl (nar_z (rx_521214)) ⟨rfl, rfl, rx_521214⟩ dX7_holds_243
  by_cases c_521218 : x_521175.toInt = 12
  · skip
    have r_521219 := rg_of (a := 12) (b := 12) 12 c_521218 (by decide) (by decide)
    refine g_tableIn C (tgt := 237) dX7_holds_6 (by omega) (by omega) (off := 231) (by rw [c_521218]; rfl) (by decide) ?_
    refine g_aload_n C 0 dX7_holds_237 rfl rfl ?_
    refine g_iload_n C 3 dX7_holds_238 rfl rfl ?_
    refine g_iload_n C 2 dX7_holds_239 rfl rfl ?_
    refine g_callVI C K (c_X7_compares W9 hLx hkx a2 a1 (ra1) hU) hLx hkx (by decide) rfl v_7_139 rfl ⟨rfl, rfl⟩ ⟨Nat.le_of_ble_eq_true rfl, Nat.le_of_ble_eq_true rfl⟩ (Nat.le_of_ble_eq_true rfl) ⟨Nat.le_of_ble_eq_true rfl, Nat.le_of_ble_eq_true rfl⟩ dX7_holds_240 rfl (st := []) (fun x_521220 I_521221 J_521222 h_521223 => ?_)
    obtain ⟨rfl, rfl, rx_521220⟩ := h_521223
    exact g_zret (ty := .boolean) (r := x_521220) B K rfl (nar_z (rx_521220)) ⟨rfl, rfl, rx_521220⟩ dX7_holds_243
  by_cases c_521224 : x_521175.toInt = 13
  · skip
    have r_521225 := rg_of (a := 13) (b := 13) 13 c_521224 (by decide) (by decide)
    refine g_tableIn C (tgt := 237) dX7_holds_6 (by omega) (by omega) (off := 231) (by rw [c_521224]; rfl) (by decide) ?_
    refine g_aload_n C 0 dX7_holds_237 rfl rfl ?_
    refine g_iload_n C 3 dX7_holds_238 rfl rfl ?_
    refine g_iload_n C 2 dX7_holds_239 rfl rfl ?_
    refine g_callVI C K (c_X7_compares W9 hLx hkx a2 a1 (ra1) hU) hLx hkx (by decide) rfl v_7_139 rfl ⟨rfl, rfl⟩ ⟨Nat.le_of_ble_eq_true rfl, Nat.le_of_ble_eq_true rfl⟩ (Nat.le_of_ble_eq_true rfl) ⟨Nat.le_of_ble_eq_true rfl, Nat.le_of_ble_eq_true rfl⟩ dX7_holds_240 rfl (st := []) (fun x_521226 I_521227 J_521228 h_521229 => ?_)
    obtain ⟨rfl, rfl, rx_521226⟩ := h_521229
    exact g_zret (ty := .boolean) (r := x_521226) B K rfl (nar_z (rx_521226)) ⟨rfl, rfl, rx_521226⟩ dX7_holds_243
  by_cases c_521230 : x_521175.toInt = 14
  · skip
    have r_521231 := rg_of (a := 14) (b := 14) 14 c_521230 (by decide) (by decide)
    refine g_tableIn C (tgt := 237) dX7_holds_6 (by omega) (by omega) (off := 231) (by rw [c_521230]; rfl) (by decide) ?_
    refine g_aload_n C 0 dX7_holds_237 rfl rfl ?_
    refine g_iload_n C 3 dX7_holds_238 rfl rfl ?_
    refine g_iload_n C 2 dX7_holds_239 rfl rfl ?_
    refine g_callVI C K (c_X7_compares W9 hLx hkx a2 a1 (ra1) hU) hLx hkx (by decide) rfl v_7_139 rfl ⟨rfl, rfl⟩ ⟨Nat.le_of_ble_eq_true rfl, Nat.le_of_ble_eq_true rfl⟩ (Nat.le_of_ble_eq_true rfl) ⟨Nat.le_of_ble_eq_true rfl, Nat.le_of_ble_eq_true rfl⟩ dX7_holds_240 rfl (st := []) (fun x_521232 I_521233 J_521234 h_521235 => ?_)
    obtain ⟨rfl, rfl, rx_521232⟩ := h_521235
    exact g_zret (ty := .boolean) (r := x_521232) B K rfl (nar_z (rx_521232)) ⟨rfl, rfl, rx_521232⟩ dX7_holds_243
  by_cases c_521236 : x_521175.toInt = 15
  · skip
    have r_521237 := rg_of (a := 15) (b := 15) 15 c_521236 (by decide) (by decide)
    refine g_tableIn C (tgt := 237) dX7_holds_6 (by omega) (by omega) (off := 231) (by rw [c_521236]; rfl) (by decide) ?_
    refine g_aload_n C 0 dX7_holds_237 rfl rfl ?_
    refine g_iload_n C 3 dX7_holds_238 rfl rfl ?_
    refine g_iload_n C 2 dX7_holds_239 rfl rfl ?_
    refine g_callVI C K (c_X7_compares W9 hLx hkx a2 a1 (ra1) hU) hLx hkx (by decide) rfl v_7_139 rfl ⟨rfl, rfl⟩ ⟨Nat.le_of_ble_eq_true rfl, Nat.le_of_ble_eq_true rfl⟩ (Nat.le_of_ble_eq_true rfl) ⟨Nat.le_of_ble_eq_true rfl, Nat.le_of_ble_eq_true rfl⟩ dX7_holds_240 rfl (st := []) (fun x_521238 I_521239 J_521240 h_521241 => ?_)
    obtain ⟨rfl, rfl, rx_521238⟩ := h_521241
    exact g_zret (ty := .boolean) (r := x_521238) B K rfl (nar_z (rx_521238)) ⟨rfl, rfl, rx_521238⟩ dX7_holds_243
  by_cases c_521242 : x_521175.toInt = 16
  · skip
    have r_521243 := rg_of (a := 16) (b := 16) 16 c_521242 (by decide) (by decide)
    refine g_tableIn C (tgt := 237) dX7_holds_6 (by omega) (by omega) (off := 231) (by rw [c_521242]; rfl) (by decide) ?_
    refine g_aload_n C 0 dX7_holds_237 rfl rfl ?_
    refine g_iload_n C 3 dX7_holds_238 rfl rfl ?_
    refine g_iload_n C 2 dX7_holds_239 rfl rfl ?_
    refine g_callVI C K (c_X7_compares W9 hLx hkx a2 a1 (ra1) hU) hLx hkx (by decide) rfl v_7_139 rfl ⟨rfl, rfl⟩ ⟨Nat.le_of_ble_eq_true rfl, Nat.le_of_ble_eq_true rfl⟩ (Nat.le_of_ble_eq_true rfl) ⟨Nat.le_of_ble_eq_true rfl, Nat.le_of_ble_eq_true rfl⟩ dX7_holds_240 rfl (st := []) (fun x_521244 I_521245 J_521246 h_521247 => ?_)
    obtain ⟨rfl, rfl, rx_521244⟩ := h_521247
    exact g_zret (ty := .boolean) (r := x_521244) B K rfl (nar_z (rx_521244)) ⟨rfl, rfl, rx_521244⟩ dX7_holds_243
  by_cases c_521248 : x_521175.toInt = 17
  · skip
    have r_521249 := rg_of (a := 17) (b := 17) 17 c_521248 (by decide) (by decide)
    refine g_tableIn C (tgt := 237) dX7_holds_6 (by omega) (by omega) (off := 231) (by rw [c_521248]; rfl) (by decide) ?_
    refine g_aload_n C 0 dX7_holds_237 rfl rfl ?_
    refine g_iload_n C 3 dX7_holds_238 rfl rfl ?_
    refine g_iload_n C 2 dX7_holds_239 rfl rfl ?_
    refine g_callVI C K (c_X7_compares W9 hLx hkx a2 a1 (ra1) hU) hLx hkx (by decide) rfl v_7_139 rfl ⟨rfl, rfl⟩ ⟨Nat.le_of_ble_eq_true rfl, Nat.le_of_ble_eq_true rfl⟩ (Nat.le_of_ble_eq_true rfl) ⟨Nat.le_of_ble_eq_true rfl, Nat.le_of_ble_eq_true rfl⟩ dX7_holds_240 rfl (st := []) (fun x_521250 I_521251 J_521252 h_521253 => ?_)
    obtain ⟨rfl, rfl, rx_521250⟩ := h_521253
    exact g_zret (ty := .boolean) (r := x_521250) B K rfl (nar_z (rx_521250)) ⟨rfl, rfl, rx_521250⟩ dX7_holds_243
  by_cases c_521254 : x_521175.toInt = 18
  · skip
    have r_521255 := rg_of (a := 18) (b := 18) 18 c_521254 (by decide) (by decide)
    refine g_tableIn C (tgt := 237) dX7_holds_6 (by omega) (by omega) (off := 231) (by rw [c_521254]; rfl) (by decide) ?_
    refine g_aload_n C 0 dX7_holds_237 rfl rfl ?_
    refine g_iload_n C 3 dX7_holds_238 rfl rfl ?_
    refine g_iload_n C 2 dX7_holds_239 rfl rfl ?_
    refine g_callVI C K (c_X7_compares W9 hLx hkx a2 a1 (ra1) hU) hLx hkx (by decide) rfl v_7_139 rfl ⟨rfl, rfl⟩ ⟨Nat.le_of_ble_eq_true rfl, Nat.le_of_ble_eq_true rfl⟩ (Nat.le_of_ble_eq_true rfl) ⟨Nat.le_of_ble_eq_true rfl, Nat.le_of_ble_eq_true rfl⟩ dX7_holds_240 rfl (st := []) (fun x_521256 I_521257 J_521258 h_521259 => ?_)
    obtain ⟨rfl, rfl, rx_521256⟩ := h_521259
    exact g_zret (ty := .boolean) (r := x_521256) B K rfl (nar_z (rx_521256)) ⟨rfl, rfl, rx_521256⟩ dX7_holds_243
  by_cases c_521260 : x_521175.toInt = 19
  · skip
    have r_521261 := rg_of (a := 19) (b := 19) 19 c_521260 (by decide) (by decide)
    refine g_tableIn C (tgt := 237) dX7_holds_6 (by omega) (by omega) (off := 231) (by rw [c_521260]; rfl) (by decide) ?_
    refine g_aload_n C 0 dX7_holds_237 rfl rfl ?_
    refine g_iload_n C 3 dX7_holds_238 rfl rfl ?_
    refine g_iload_n C 2 dX7_holds_239 rfl rfl ?_
    refine g_callVI C K (c_X7_compares W9 hLx hkx a2 a1 (ra1) hU) hLx hkx (by decide) rfl v_7_139 rfl ⟨rfl, rfl⟩ ⟨Nat.le_of_ble_eq_true rfl, Nat.le_of_ble_eq_true rfl⟩ (Nat.le_of_ble_eq_true rfl) ⟨Nat.le_of_ble_eq_true rfl, Nat.le_of_ble_eq_true rfl⟩ dX7_holds_240 rfl (st := []) (fun x_521262 I_521263 J_521264 h_521265 => ?_)
    obtain ⟨rfl, rfl, rx_521262⟩ := h_521265
    exact g_zret (ty := .boolean) (r := x_521262) B K rfl (nar_z (rx_521262)) ⟨rfl, rfl, rx_521262⟩ dX7_holds_243
  by_cases c_521266 : x_521175.toInt = 20
  · skip
    have r_521267 := rg_of (a := 20) (b := 20) 20 c_521266 (by decide) (by decide)
    refine g_tableIn C (tgt := 108) dX7_holds_6 (by omega) (by omega) (off := 102) (by rw [c_521266]; rfl) (by decide) ?_
    refine g_aload_n C 1 dX7_holds_108 rfl rfl ?_
    refine g_iload_n C 3 dX7_holds_109 rfl rfl ?_
    refine g_callVI C K (c_X1_lives W9 hLa0 hka0 a2 (ra2) hU) hLa0 hka0 (by decide) rfl v_7_121 rfl ⟨rfl, rfl⟩ ⟨Nat.le_of_ble_eq_true rfl, Nat.le_of_ble_eq_true rfl⟩ (Nat.le_of_ble_eq_true rfl) ⟨Nat.le_of_ble_eq_true rfl, Nat.le_of_ble_eq_true rfl⟩ dX7_holds_110 rfl (st := []) (fun x_521268 I_521269 J_521270 h_521271 => ?_)
    obtain ⟨rfl, rfl, rx_521268⟩ := h_521271
    refine g_if_ne C (tgt := 120) dX7_holds_113 (by decide) (fun h_521272 => ?_) (fun h_521272 => ?_)
    · skip
      have n_521273 : ¬ x_521268 = 0 := h_521272
      have r_521274 := ne_lo (lo := 1) n_521273 rx_521268 rc_0 rfl (by decide)
      refine g_iconst C (v := 0) dX7_holds_120 (by decide) ?_
      exact g_zret (ty := .boolean) (r := 0) B K rfl (rfl) ⟨rfl, rfl, rg_w rc_0 (by decide) (by decide)⟩ dX7_holds_121
    · skip
      have r_521275 := (⟨(rx_521268).1, (eq_rg (h_521272) rc_0).2⟩ : Rg 0 0 x_521268)
      refine g_iconst C (v := 1) dX7_holds_116 (by decide) ?_
      refine g_goto C (tgt := 121) dX7_holds_117 (by decide) ?_
      exact g_zret (ty := .boolean) (r := 1) B K rfl (rfl) ⟨rfl, rfl, rg_w rc_1 (by decide) (by decide)⟩ dX7_holds_121
  by_cases c_521276 : x_521175.toInt = 21
  · skip
    have r_521277 := rg_of (a := 21) (b := 21) 21 c_521276 (by decide) (by decide)
    refine g_tableIn C (tgt := 122) dX7_holds_6 (by omega) (by omega) (off := 116) (by rw [c_521276]; rfl) (by decide) ?_
    refine g_aload_n C 1 dX7_holds_122 rfl rfl ?_
    obtain ⟨x_521278, hx_521278, rx_521278⟩ := ex_get (I := I) (a := a0) (j := 8) (lo := (-2147483648)) (hi := 2147483647) hU.1 hLa0 (ro_o hka0 (by decide)) rfl
    refine g_getI C K hLa0 hka0 f_7_124 (v := x_521278) hx_521278 dX7_holds_123 ?_
    refine g_iload_n C 3 dX7_holds_126 rfl rfl ?_
    obtain ⟨x_521279, hx_521279, rx_521279⟩ := ex_any (z0 := x_521278 >>> (a2 &&& 31))
    refine g_ishr C (v := x_521279) dX7_holds_127 hx_521279 ?_
    refine g_iconst C (v := 1) dX7_holds_128 (by decide) ?_
    obtain ⟨x_521280, hx_521280, rx_521280⟩ := ex_andr (x := x_521279) (y := 1) (b := 1) (rg_w rc_1 (by decide) (by decide))
    refine g_iand C (v := x_521280) dX7_holds_129 hx_521280 ?_
    refine g_if_eq C (tgt := 137) dX7_holds_130 (by decide) (fun h_521281 => ?_) (fun h_521281 => ?_)
    · skip
      have r_521282 := (⟨(rx_521280).1, (eq_rg (h_521281) rc_0).2⟩ : Rg 0 0 x_521280)
      refine g_iconst C (v := 0) dX7_holds_137 (by decide) ?_
      exact g_zret (ty := .boolean) (r := 0) B K rfl (rfl) ⟨rfl, rfl, rg_w rc_0 (by decide) (by decide)⟩ dX7_holds_138
    · skip
      have n_521283 : ¬ x_521280 = 0 := h_521281
      have r_521284 := ne_lo (lo := 1) n_521283 rx_521280 rc_0 rfl (by decide)
      refine g_iconst C (v := 1) dX7_holds_133 (by decide) ?_
      refine g_goto C (tgt := 138) dX7_holds_134 (by decide) ?_
      exact g_zret (ty := .boolean) (r := 1) B K rfl (rfl) ⟨rfl, rfl, rg_w rc_1 (by decide) (by decide)⟩ dX7_holds_138
  by_cases c_521285 : x_521175.toInt = 22
  · skip
    have r_521286 := rg_of (a := 22) (b := 22) 22 c_521285 (by decide) (by decide)
    refine g_tableIn C (tgt := 139) dX7_holds_6 (by omega) (by omega) (off := 133) (by rw [c_521285]; rfl) (by decide) ?_
    refine g_aload_n C 1 dX7_holds_139 rfl rfl ?_
    refine g_getR C K hLa0 hka0 f_7_127 hb_521169 dX7_holds_140 ?_
    refine g_iload_n C 3 dX7_holds_143 rfl rfl ?_
    obtain ⟨x_521287, hx_521287, rx_521287⟩ := ex_get (I := I) (a := b_521169) (j := a2.toNatClampNeg) (lo := (-2147483648)) (hi := 2147483647) hU.1 hb_521169L (ro_a hb_521169k (by decide) hb_521169o hka0 rfl) (rfl)
    refine h_iald C K hb_521169L hb_521169k (v := x_521287) (a2.toNatClampNeg) (rfl) (ix_0 ra2 (by decide)) (ix_lt ra2 (by decide) hb_521169n (by decide)) hx_521287 dX7_holds_144 ?_
    refine g_if_ne C (tgt := 152) dX7_holds_145 (by decide) (fun h_521288 => ?_) (fun h_521288 => ?_)
    · skip
      have n_521289 : ¬ x_521287 = 0 := h_521288
      refine g_iconst C (v := 0) dX7_holds_152 (by decide) ?_
      exact g_zret (ty := .boolean) (r := 0) B K rfl (rfl) ⟨rfl, rfl, rg_w rc_0 (by decide) (by decide)⟩ dX7_holds_153
    · skip
      have r_521290 := (⟨(eq_rg (h_521288) rc_0).1, (eq_rg (h_521288) rc_0).2⟩ : Rg 0 0 x_521287)
      refine g_iconst C (v := 1) dX7_holds_148 (by decide) ?_
      refine g_goto C (tgt := 153) dX7_holds_149 (by decide) ?_
      exact g_zret (ty := .boolean) (r := 1) B K rfl (rfl) ⟨rfl, rfl, rg_w rc_1 (by decide) (by decide)⟩ dX7_holds_153
  by_cases c_521291 : x_521175.toInt = 23
  · skip
    have r_521292 := rg_of (a := 23) (b := 23) 23 c_521291 (by decide) (by decide)
    refine g_tableIn C (tgt := 178) dX7_holds_6 (by omega) (by omega) (off := 172) (by rw [c_521291]; rfl) (by decide) ?_
    refine g_aload_n C 1 dX7_holds_178 rfl rfl ?_
    refine g_iload_n C 3 dX7_holds_179 rfl rfl ?_
    refine g_aload_n C 0 dX7_holds_180 rfl rfl ?_
    refine g_getR C K hLx hkx f_7_18 hb_521170 dX7_holds_181 ?_
    refine g_iload_n C 2 dX7_holds_184 rfl rfl ?_
    obtain ⟨x_521293, hx_521293, rx_521293⟩ := ex_get (I := I) (a := b_521170) (j := a1.toNatClampNeg) (lo := (-2147483648)) (hi := 2147483647) hU.1 hb_521170L (ro_a hb_521170k (by decide) hb_521170o hkx rfl) (rfl)
    refine h_iald C K hb_521170L hb_521170k (v := x_521293) (a1.toNatClampNeg) (rfl) (ix_0 ra1 (by decide)) (ix_lt ra1 (by decide) hb_521170n (by decide)) hx_521293 dX7_holds_185 ?_
    have r_521294 := eq_rg (Eq.symm hx_521293) (hU.2.1 x hLx hkx _ _ hb_521171 hb_521170 _ (Eq.trans hx_521175 (rg_1k r_521292 rc_23)))
    refine g_callVI C K (c_X1_onPlate W9 hLa0 hka0 a2 x_521293 (ra2) (r_521294) hU) hLa0 hka0 (by decide) rfl v_7_133 rfl ⟨rfl, rfl⟩ ⟨Nat.le_of_ble_eq_true rfl, Nat.le_of_ble_eq_true rfl⟩ (Nat.le_of_ble_eq_true rfl) ⟨Nat.le_of_ble_eq_true rfl, Nat.le_of_ble_eq_true rfl⟩ dX7_holds_186 rfl (st := []) (fun x_521295 I_521296 J_521297 h_521298 => ?_)
    obtain ⟨rfl, rfl, rx_521295⟩ := h_521298
    refine g_if_le C (tgt := 196) dX7_holds_189 (by decide) (fun h_521299 => ?_) (fun h_521299 => ?_)
    · skip
      have r_521300 := le_l (h_521299) rx_521295 rc_0
      refine g_iconst C (v := 0) dX7_holds_196 (by decide) ?_
      exact g_zret (ty := .boolean) (r := 0) B K rfl (rfl) ⟨rfl, rfl, rg_w rc_0 (by decide) (by decide)⟩ dX7_holds_197
    · skip
      have r_521301 := lt_r (lo := 1) (nle h_521299) rc_0 rx_521295 (by decide)
      refine g_iconst C (v := 1) dX7_holds_192 (by decide) ?_
      refine g_goto C (tgt := 197) dX7_holds_193 (by decide) ?_
      exact g_zret (ty := .boolean) (r := 1) B K rfl (rfl) ⟨rfl, rfl, rg_w rc_1 (by decide) (by decide)⟩ dX7_holds_197
  by_cases c_521302 : x_521175.toInt = 24
  · skip
    have r_521303 := rg_of (a := 24) (b := 24) 24 c_521302 (by decide) (by decide)
    refine g_tableIn C (tgt := 198) dX7_holds_6 (by omega) (by omega) (off := 192) (by rw [c_521302]; rfl) (by decide) ?_
    refine g_aload_n C 0 dX7_holds_198 rfl rfl ?_
    refine g_aload_n C 1 dX7_holds_199 rfl rfl ?_
    refine g_getR C K hLa0 hka0 f_7_100 hb_521168 dX7_holds_200 ?_
    refine g_getR C K hb_521168L hb_521168k f_7_136 hb_521173 dX7_holds_203 ?_
    refine g_iload_n C 3 dX7_holds_206 rfl rfl ?_
    obtain ⟨x_521304, hx_521304, rx_521304⟩ := ex_get (I := I) (a := b_521173) (j := a2.toNatClampNeg) (lo := (-2147483648)) (hi := 2147483647) hU.1 hb_521173L (ro_a hb_521173k (by decide) hb_521173o hb_521168k rfl) (rfl)
    refine h_iald C K hb_521173L hb_521173k (v := x_521304) (a2.toNatClampNeg) (rfl) (ix_0 ra2 (by decide)) (ix_lt ra2 (by decide) hb_521173n (by decide)) hx_521304 dX7_holds_207 ?_
    refine g_iload_n C 2 dX7_holds_208 rfl rfl ?_
    refine g_callVI C K (c_X7_compares W9 hLx hkx x_521304 a1 (ra1) hU) hLx hkx (by decide) rfl v_7_139 rfl ⟨rfl, rfl⟩ ⟨Nat.le_of_ble_eq_true rfl, Nat.le_of_ble_eq_true rfl⟩ (Nat.le_of_ble_eq_true rfl) ⟨Nat.le_of_ble_eq_true rfl, Nat.le_of_ble_eq_true rfl⟩ dX7_holds_209 rfl (st := []) (fun x_521305 I_521306 J_521307 h_521308 => ?_)
    obtain ⟨rfl, rfl, rx_521305⟩ := h_521308
    exact g_zret (ty := .boolean) (r := x_521305) B K rfl (nar_z (rx_521305)) ⟨rfl, rfl, rx_521305⟩ dX7_holds_212
  by_cases c_521309 : x_521175.toInt = 25
  · skip
    have r_521310 := rg_of (a := 25) (b := 25) 25 c_521309 (by decide) (by decide)
    refine g_tableIn C (tgt := 213) dX7_holds_6 (by omega) (by omega) (off := 207) (by rw [c_521309]; rfl) (by decide) ?_
    refine g_aload_n C 0 dX7_holds_213 rfl rfl ?_
    refine g_aload_n C 1 dX7_holds_214 rfl rfl ?_
    refine g_getR C K hLa0 hka0 f_7_143 hb_521172 dX7_holds_215 ?_
    refine g_iload_n C 3 dX7_holds_218 rfl rfl ?_
    obtain ⟨x_521311, hx_521311, rx_521311⟩ := ex_get (I := I) (a := b_521172) (j := a2.toNatClampNeg) (lo := (-2147483648)) (hi := 2147483647) hU.1 hb_521172L (ro_a hb_521172k (by decide) hb_521172o hka0 rfl) (rfl)
    refine h_iald C K hb_521172L hb_521172k (v := x_521311) (a2.toNatClampNeg) (rfl) (ix_0 ra2 (by decide)) (ix_lt ra2 (by decide) hb_521172n (by decide)) hx_521311 dX7_holds_219 ?_
    refine g_iload_n C 2 dX7_holds_220 rfl rfl ?_
    refine g_callVI C K (c_X7_compares W9 hLx hkx x_521311 a1 (ra1) hU) hLx hkx (by decide) rfl v_7_139 rfl ⟨rfl, rfl⟩ ⟨Nat.le_of_ble_eq_true rfl, Nat.le_of_ble_eq_true rfl⟩ (Nat.le_of_ble_eq_true rfl) ⟨Nat.le_of_ble_eq_true rfl, Nat.le_of_ble_eq_true rfl⟩ dX7_holds_221 rfl (st := []) (fun x_521312 I_521313 J_521314 h_521315 => ?_)
    obtain ⟨rfl, rfl, rx_521312⟩ := h_521315
    exact g_zret (ty := .boolean) (r := x_521312) B K rfl (nar_z (rx_521312)) ⟨rfl, rfl, rx_521312⟩ dX7_holds_224
  by_cases c_521316 : x_521175.toInt = 26
  · skip
    have r_521317 := rg_of (a := 26) (b := 26) 26 c_521316 (by decide) (by decide)
    refine g_tableIn C (tgt := 225) dX7_holds_6 (by omega) (by omega) (off := 219) (by rw [c_521316]; rfl) (by decide) ?_
    refine g_aload_n C 0 dX7_holds_225 rfl rfl ?_
    refine g_aload_n C 1 dX7_holds_226 rfl rfl ?_
    refine g_getR C K hLa0 hka0 f_7_146 hb_521167 dX7_holds_227 ?_
    refine g_iload_n C 3 dX7_holds_230 rfl rfl ?_
    obtain ⟨x_521318, hx_521318, rx_521318⟩ := ex_get (I := I) (a := b_521167) (j := a2.toNatClampNeg) (lo := (-2147483648)) (hi := 2147483647) hU.1 hb_521167L (ro_a hb_521167k (by decide) hb_521167o hka0 rfl) (rfl)
    refine h_iald C K hb_521167L hb_521167k (v := x_521318) (a2.toNatClampNeg) (rfl) (ix_0 ra2 (by decide)) (ix_lt ra2 (by decide) hb_521167n (by decide)) hx_521318 dX7_holds_231 ?_
    refine g_iload_n C 2 dX7_holds_232 rfl rfl ?_
    refine g_callVI C K (c_X7_compares W9 hLx hkx x_521318 a1 (ra1) hU) hLx hkx (by decide) rfl v_7_139 rfl ⟨rfl, rfl⟩ ⟨Nat.le_of_ble_eq_true rfl, Nat.le_of_ble_eq_true rfl⟩ (Nat.le_of_ble_eq_true rfl) ⟨Nat.le_of_ble_eq_true rfl, Nat.le_of_ble_eq_true rfl⟩ dX7_holds_233 rfl (st := []) (fun x_521319 I_521320 J_521321 h_521322 => ?_)
    obtain ⟨rfl, rfl, rx_521319⟩ := h_521322
    exact g_zret (ty := .boolean) (r := x_521319) B K rfl (nar_z (rx_521319)) ⟨rfl, rfl, rx_521319⟩ dX7_holds_236
  obtain ⟨q_5213231, q_5213232⟩ := rx_521175
  refine g_tableOut C (tgt := 237) dX7_holds_6 (by omega) (by decide) ?_
  refine g_aload_n C 0 dX7_holds_237 rfl rfl ?_
  refine g_iload_n C 3 dX7_holds_238 rfl rfl ?_
  refine g_iload_n C 2 dX7_holds_239 rfl rfl ?_
  refine g_callVI C K (c_X7_compares W9 hLx hkx a2 a1 (ra1) hU) hLx hkx (by decide) rfl v_7_139 rfl ⟨rfl, rfl⟩ ⟨Nat.le_of_ble_eq_true rfl, Nat.le_of_ble_eq_true rfl⟩ (Nat.le_of_ble_eq_true rfl) ⟨Nat.le_of_ble_eq_true rfl, Nat.le_of_ble_eq_true rfl⟩ dX7_holds_240 rfl (st := []) (fun x_521324 I_521325 J_521326 h_521327 => ?_)
  obtain ⟨rfl, rfl, rx_521324⟩ := h_521327
  exact g_zret (ty := .boolean) (r := x_521324) B K rfl (nar_z (rx_521324)) ⟨rfl, rfl, rx_521324⟩ dX7_holds_243
set_option maxRecDepth 100000 in
set_option maxHeartbeats 8000000 in
theorem c_X7_thoseOf {l : Launch} {D : va_G} {cy : Nat → ClassId} {L : List Nat} {κ ln : Nat → Nat} {R : Nat → Nat → Option Nat} {I : Nat → Nat → Int32} {J : Nat → Nat → Int64} {ow : Nat → Nat × Nat} (W9 : ∀ a ∈ L, Shp L κ ln R ow a) {x : Nat} (hLx : x ∈ L) (hkx : κ x = 7) {a0 : Nat} (hLa0 : a0 ∈ L) (hka0 : κ a0 = 1) (a1 : Int32) (ra1 : Rg 0 39 a1) (hU : Iv L κ R ow I) : CtI l yX7_thoseOf cX7_thoseOf 5 (some .int) { frames := 2, cells := 0, slots := 0, locals := 45 } D cy L κ ln R I J [.ref x, .ref a0, .int a1] (fun r I2 J2 => I = I2 ∧ J = J2 ∧ Rg 0 127 r) := by
  refine CtI.of (by decide +kernel) (Nat.le_of_ble_eq_true rfl) ?_
  intro p e s m below meth c B K
  have C := B.1
  obtain ⟨b_521460, hb_521460, hb_521460L, hb_521460k⟩ := shp_o (W9 a0 hLa0) hka0 0 8 rfl (by decide)
  refine g_lo (is := [0, 1, 2]) (lo2 := [(0, .ref x), (1, .ref a0), (2, .int a1)]) rfl ?_
  have l_5 : ∀ (n_5 : Nat) (v_521461 : Int32) (rv_521461 : Rg 0 39 v_521461) (v_521462 : Int32) (rv_521462 : Rg 0 127 v_521462) (v_521463 : Int32) (rv_521463 : Rg 0 7 v_521463) (hm_521464 : 7 < (v_521463 : Int32).toInt + (n_5 : Int)), WG p l e { frames := 2, cells := 0, slots := 0, locals := 45 } s m ([.ref x, .ref a0, .int a1] : List Value).toArray below meth c 5 0 0 (MQ below (Qi_ D cy L κ ln R (fun r I2 J2 => I = I2 ∧ J = J2 ∧ Rg 0 127 r)) ([.ref x, .ref a0, .int a1] : List Value).toArray s 0 0 (Al_ L)) D cy (Al_ L) s.heap L κ ln R I J 5 [(0, .ref x), (1, .ref a0), (2, .int v_521461), (3, .int v_521462), (4, .int v_521463)] [] := by
    intro n_5
    induction n_5 with
    | zero =>
      intro v_521461 rv_521461 v_521462 rv_521462 v_521463 rv_521463 hm_521464
      exact ms_0 rv_521463 hm_521464
    | succ n_5 ih_5 =>
      intro v_521461 rv_521461 v_521462 rv_521462 v_521463 rv_521463 hm_521464
      have j_35 : ∀ (v_521465 : Int32) (rv_521465 : Rg 0 39 v_521465) (v_521466 : Int32) (rv_521466 : Rg 0 127 v_521466) (v_521467 : Int32) (rv_521467 : Rg 0 6 v_521467) (v_521468 : Int32) (rv_521468 : Rg 1 7 v_521468) (q_521469 : I b_521460 5 = v_521468) (hm_521470 : 7 < (v_521467 : Int32).toInt + ((n_5 + 1 : Nat) : Int)), WG p l e { frames := 2, cells := 0, slots := 0, locals := 45 } s m ([.ref x, .ref a0, .int a1] : List Value).toArray below meth c 5 0 0 (MQ below (Qi_ D cy L κ ln R (fun r I2 J2 => I = I2 ∧ J = J2 ∧ Rg 0 127 r)) ([.ref x, .ref a0, .int a1] : List Value).toArray s 0 0 (Al_ L)) D cy (Al_ L) s.heap L κ ln R I J 35 [(0, .ref x), (1, .ref a0), (2, .int v_521465), (3, .int v_521466), (4, .int v_521467)] [] := by
        intro v_521465 rv_521465 v_521466 rv_521466 v_521467 rv_521467 v_521468 rv_521468 q_521469 hm_521470
        obtain ⟨x_521471, hx_521471, rx_521471, tx_521471⟩ := ex_add (y := 1) 1 7 rv_521467 rc_1 (by decide) (by decide) (by decide) (by decide)
        refine g_iinc C dX7_thoseOf_35 (k := 4) (v := x_521471) rfl hx_521471 (by decide) (lo2 := [(4, .int x_521471), (0, .ref x), (1, .ref a0), (2, .int v_521465), (3, .int v_521466)]) rfl ?_
        refine g_goto C (tgt := 5) dX7_thoseOf_38 (by decide) ?_
        refine g_lo (is := [1, 2, 3, 4, 0]) (lo2 := [(0, .ref x), (1, .ref a0), (2, .int v_521465), (3, .int v_521466), (4, .int x_521471)]) rfl ?_
        exact ih_5 v_521465 (rv_521465) v_521466 (rv_521466) x_521471 (rg_w rx_521471 (by decide) (by decide)) (ms_1 hm_521470 (ti_k tx_521471 rc_1) (by decide))
      refine g_iload C 4 dX7_thoseOf_5 rfl ?_
      refine g_aload_n C 1 dX7_thoseOf_7 rfl rfl ?_
      refine g_getR C K hLa0 hka0 f_7_100 hb_521460 dX7_thoseOf_8 ?_
      obtain ⟨x_521472, hx_521472, rx_521472⟩ := ex_get (I := I) (a := b_521460) (j := 5) (lo := 0) (hi := 7) hU.1 hb_521460L (ro_o hb_521460k (by decide)) rfl
      refine g_getI C K hb_521460L hb_521460k f_7_114 (v := x_521472) hx_521472 dX7_thoseOf_11 ?_
      refine g_icmp_ge C (tgt := 41) dX7_thoseOf_14 (by decide) (fun h_521473 => ?_) (fun h_521473 => ?_)
      · skip
        refine g_iload_n C 3 dX7_thoseOf_41 rfl rfl ?_
        exact g_zret (ty := .int) (r := v_521462) B K rfl (rfl) ⟨rfl, rfl, rv_521462⟩ dX7_thoseOf_42
      · skip
        have r_521474 := lt_l (hi := 6) (nle h_521473) rv_521463 rx_521472 (by decide)
        have r_521475 := lt_r (lo := 1) (nle h_521473) rv_521463 rx_521472 (by decide)
        refine g_aload_n C 0 dX7_thoseOf_17 rfl rfl ?_
        refine g_aload_n C 1 dX7_thoseOf_18 rfl rfl ?_
        refine g_iload_n C 2 dX7_thoseOf_19 rfl rfl ?_
        refine g_iload C 4 dX7_thoseOf_20 rfl ?_
        refine g_callVI C K (c_X7_holds W9 hLx hkx hLa0 hka0 v_521461 v_521463 (rv_521461) (r_521474) hU) hLx hkx (by decide) rfl v_7_117 rfl ⟨rfl, rfl⟩ ⟨Nat.le_of_ble_eq_true rfl, Nat.le_of_ble_eq_true rfl⟩ (Nat.le_of_ble_eq_true rfl) ⟨Nat.le_of_ble_eq_true rfl, Nat.le_of_ble_eq_true rfl⟩ dX7_thoseOf_22 rfl (st := []) (fun x_521476 I_521477 J_521478 h_521479 => ?_)
        obtain ⟨rfl, rfl, rx_521476⟩ := h_521479
        refine g_if_eq C (tgt := 35) dX7_thoseOf_25 (by decide) (fun h_521480 => ?_) (fun h_521480 => ?_)
        · skip
          have r_521481 := (⟨(rx_521476).1, (eq_rg (h_521480) rc_0).2⟩ : Rg 0 0 x_521476)
          refine g_lo (is := [0, 1, 2, 3, 4]) (lo2 := [(0, .ref x), (1, .ref a0), (2, .int v_521461), (3, .int v_521462), (4, .int v_521463)]) rfl ?_
          exact j_35 v_521461 (rv_521461) v_521462 (rv_521462) v_521463 (r_521474) x_521472 (r_521475) hx_521472 hm_521464
        · skip
          have n_521482 : ¬ x_521476 = 0 := h_521480
          have r_521483 := ne_lo (lo := 1) n_521482 rx_521476 rc_0 rfl (by decide)
          refine g_iload_n C 3 dX7_thoseOf_28 rfl rfl ?_
          refine g_iconst C (v := 1) dX7_thoseOf_29 (by decide) ?_
          refine g_iload C 4 dX7_thoseOf_30 rfl ?_
          obtain ⟨x_521484, hx_521484, rx_521484⟩ := ex_shl (x := 1) (y := v_521463) 6 64 rfl (r_521474) (by decide)
          refine g_ishl C (v := x_521484) dX7_thoseOf_32 hx_521484 ?_
          obtain ⟨x_521485, hx_521485, rx_521485⟩ := ex_or 7 (x := v_521462) (y := x_521484) (b := 127) (c := 64) (rv_521462) (rg_w rx_521484 (by decide) (by decide)) (by decide) (by decide) (by decide) 127 (by decide)
          refine g_ior C (v := x_521485) dX7_thoseOf_33 hx_521485 ?_
          refine g_istore_n C dX7_thoseOf_34 rfl (by decide) (lo2 := [(3, .int x_521485), (0, .ref x), (1, .ref a0), (2, .int v_521461), (4, .int v_521463)]) rfl ?_
          refine g_lo (is := [1, 2, 3, 0, 4]) (lo2 := [(0, .ref x), (1, .ref a0), (2, .int v_521461), (3, .int x_521485), (4, .int v_521463)]) rfl ?_
          exact j_35 v_521461 (rv_521461) x_521485 (rx_521485) v_521463 (r_521474) x_521472 (r_521475) hx_521472 hm_521464
  refine g_iconst C (v := 0) dX7_thoseOf_0 (by decide) ?_
  refine g_istore_n C dX7_thoseOf_1 rfl (by decide) (lo2 := [(3, .int 0), (0, .ref x), (1, .ref a0), (2, .int a1)]) rfl ?_
  refine g_iconst C (v := 0) dX7_thoseOf_2 (by decide) ?_
  refine g_istore C dX7_thoseOf_3 (by decide) (lo2 := [(4, .int 0), (3, .int 0), (0, .ref x), (1, .ref a0), (2, .int a1)]) rfl ?_
  refine g_lo (is := [2, 3, 4, 1, 0]) (lo2 := [(0, .ref x), (1, .ref a0), (2, .int a1), (3, .int 0), (4, .int 0)]) rfl ?_
  exact l_5 8 a1 (ra1) 0 (rg_w rc_0 (by decide) (by decide)) 0 (rg_w rc_0 (by decide) (by decide)) (ms_s (a := 0) (b := 7) (N := 8) (rg_w rc_0 (by decide) (by decide)) (by decide))
set_option maxRecDepth 100000 in
set_option maxHeartbeats 8000000 in
theorem c_X7_personsIn {l : Launch} {D : va_G} {cy : Nat → ClassId} {L : List Nat} {κ ln : Nat → Nat} {R : Nat → Nat → Option Nat} {I : Nat → Nat → Int32} {J : Nat → Nat → Int64} {ow : Nat → Nat × Nat} (W9 : ∀ a ∈ L, Shp L κ ln R ow a) {x : Nat} (hLx : x ∈ L) (hkx : κ x = 7) {a0 : Nat} (hLa0 : a0 ∈ L) (hka0 : κ a0 = 1) (hU : Iv L κ R ow I) : CtI l yX7_personsIn cX7_personsIn 6 (some .int) { frames := 3, cells := 0, slots := 0, locals := 69 } D cy L κ ln R I J [.ref x, .ref a0] (fun r I2 J2 => Iv L κ R ow I2 ∧ Fq L κ ow [52300] I I2 ∧ Fq L κ ow [] J J2 ∧ Rg (-2147483648) 2147483647 r) := by
  refine CtI.of (by decide +kernel) (Nat.le_of_ble_eq_true rfl) ?_
  intro p e s m below meth c B K
  have C := B.1
  have hF : Fq L κ ow [52300] I I := fq_rf
  have hG : Fq L κ ow [] J J := fq_rf
  obtain ⟨b_522888, hb_522888, hb_522888L, hb_522888k⟩ := shp_o (W9 a0 hLa0) hka0 0 8 rfl (by decide)
  obtain ⟨b_522889, hb_522889, hb_522889L, hb_522889k, hb_522889n, hb_522889o⟩ := shp_a (W9 x hLx) hkx 0 14 40 rfl (by decide)
  obtain ⟨b_522890, hb_522890, hb_522890L, hb_522890k, hb_522890n, hb_522890o⟩ := shp_a (W9 x hLx) hkx 3 14 40 rfl (by decide)
  refine g_lo (is := [0, 1]) (lo2 := [(0, .ref x), (1, .ref a0)]) rfl ?_
  have l_13 : ∀ (n_13 : Nat) (I_522891 : Nat → Nat → Int32) (J_522892 : Nat → Nat → Int64) (hU_522893 : Iv L κ R ow I_522891) (hF_522894 : Fq L κ ow [52300] I I_522891) (hG_522895 : Fq L κ ow [] J J_522892) (v_522896 : Int32) (rv_522896 : Rg 0 127 v_522896) (v_522897 : Int32) (rv_522897 : Rg (-1) 39 v_522897) (v_522898 : Int32) (rv_522898 : Rg 0 40 v_522898) (hm_522899 : 40 < (v_522898 : Int32).toInt + (n_13 : Int)), WG p l e { frames := 3, cells := 0, slots := 0, locals := 69 } s m ([.ref x, .ref a0] : List Value).toArray below meth c 6 0 0 (MQ below (Qi_ D cy L κ ln R (fun r I2 J2 => Iv L κ R ow I2 ∧ Fq L κ ow [52300] I I2 ∧ Fq L κ ow [] J J2 ∧ Rg (-2147483648) 2147483647 r)) ([.ref x, .ref a0] : List Value).toArray s 0 0 (Al_ L)) D cy (Al_ L) s.heap L κ ln R I_522891 J_522892 13 [(0, .ref x), (1, .ref a0), (2, .int v_522896), (3, .int v_522897), (4, .int v_522898)] [] := by
    intro n_13
    induction n_13 with
    | zero =>
      intro I_522891 J_522892 hU_522893 hF_522894 hG_522895 v_522896 rv_522896 v_522897 rv_522897 v_522898 rv_522898 hm_522899
      exact ms_0 rv_522898 hm_522899
    | succ n_13 ih_13 =>
      intro I_522891 J_522892 hU_522893 hF_522894 hG_522895 v_522896 rv_522896 v_522897 rv_522897 v_522898 rv_522898 hm_522899
      have j_155 : ∀ (I_522900 : Nat → Nat → Int32) (J_522901 : Nat → Nat → Int64) (hU_522902 : Iv L κ R ow I_522900) (hF_522903 : Fq L κ ow [52300] I I_522900) (hG_522904 : Fq L κ ow [] J J_522901) (v_522905 : Int32) (rv_522905 : Rg 0 127 v_522905) (v_522906 : Int32) (rv_522906 : Rg (-1) 39 v_522906) (v_522907 : Int32) (rv_522907 : Rg 0 39 v_522907) (v_522908 : Int32) (v_522909 : Int32) (rv_522909 : Rg 1 40 v_522909) (q_522910 : I_522900 x 4 = v_522909) (hm_522911 : 40 < (v_522907 : Int32).toInt + ((n_13 + 1 : Nat) : Int)), WG p l e { frames := 3, cells := 0, slots := 0, locals := 69 } s m ([.ref x, .ref a0] : List Value).toArray below meth c 6 0 0 (MQ below (Qi_ D cy L κ ln R (fun r I2 J2 => Iv L κ R ow I2 ∧ Fq L κ ow [52300] I I2 ∧ Fq L κ ow [] J J2 ∧ Rg (-2147483648) 2147483647 r)) ([.ref x, .ref a0] : List Value).toArray s 0 0 (Al_ L)) D cy (Al_ L) s.heap L κ ln R I_522900 J_522901 155 [(0, .ref x), (1, .ref a0), (2, .int v_522905), (3, .int v_522906), (4, .int v_522907), (5, .int v_522908)] [] := by
        intro I_522900 J_522901 hU_522902 hF_522903 hG_522904 v_522905 rv_522905 v_522906 rv_522906 v_522907 rv_522907 v_522908 v_522909 rv_522909 q_522910 hm_522911
        obtain ⟨x_522912, hx_522912, rx_522912, tx_522912⟩ := ex_add (y := 1) 1 40 rv_522907 rc_1 (by decide) (by decide) (by decide) (by decide)
        refine g_iinc C dX7_personsIn_155 (k := 4) (v := x_522912) rfl hx_522912 (by decide) (lo2 := [(4, .int x_522912), (0, .ref x), (1, .ref a0), (2, .int v_522905), (3, .int v_522906), (5, .int v_522908)]) rfl ?_
        refine g_goto C (tgt := 13) dX7_personsIn_158 (by decide) ?_
        refine g_lo (is := [1, 2, 3, 4, 0]) (lo2 := [(0, .ref x), (1, .ref a0), (2, .int v_522905), (3, .int v_522906), (4, .int x_522912)]) rfl ?_
        exact ih_13 I_522900 J_522901 hU_522902 hF_522903 hG_522904 v_522905 (rv_522905) v_522906 (rv_522906) x_522912 (rg_w rx_522912 (by decide) (by decide)) (ms_1 hm_522911 (ti_k tx_522912 rc_1) (by decide))
      have j_131 : ∀ (I_522913 : Nat → Nat → Int32) (J_522914 : Nat → Nat → Int64) (hU_522915 : Iv L κ R ow I_522913) (hF_522916 : Fq L κ ow [52300] I I_522913) (hG_522917 : Fq L κ ow [] J J_522914) (v_522918 : Int32) (rv_522918 : Rg 0 127 v_522918) (v_522919 : Int32) (rv_522919 : Rg (-1) 39 v_522919) (v_522920 : Int32) (rv_522920 : Rg 0 39 v_522920) (v_522921 : Int32) (v_522922 : Int32) (rv_522922 : Rg 1 40 v_522922) (q_522923 : I_522913 x 4 = v_522922) (hm_522924 : 40 < (v_522920 : Int32).toInt + ((n_13 + 1 : Nat) : Int)), WG p l e { frames := 3, cells := 0, slots := 0, locals := 69 } s m ([.ref x, .ref a0] : List Value).toArray below meth c 6 0 0 (MQ below (Qi_ D cy L κ ln R (fun r I2 J2 => Iv L κ R ow I2 ∧ Fq L κ ow [52300] I I2 ∧ Fq L κ ow [] J J2 ∧ Rg (-2147483648) 2147483647 r)) ([.ref x, .ref a0] : List Value).toArray s 0 0 (Al_ L)) D cy (Al_ L) s.heap L κ ln R I_522913 J_522914 131 [(0, .ref x), (1, .ref a0), (2, .int v_522918), (3, .int v_522919), (4, .int v_522920), (5, .int v_522921)] [] := by
        intro I_522913 J_522914 hU_522915 hF_522916 hG_522917 v_522918 rv_522918 v_522919 rv_522919 v_522920 rv_522920 v_522921 v_522922 rv_522922 q_522923 hm_522924
        refine g_iload_n C 3 dX7_personsIn_131 rfl rfl ?_
        refine g_iconst C (v := 1) dX7_personsIn_132 (by decide) ?_
        obtain ⟨x_522925, hx_522925, rx_522925, tx_522925⟩ := ex_add 0 40 rv_522919 rc_1 (by decide) (by decide) (by decide) (by decide)
        refine g_iadd C (v := x_522925) dX7_personsIn_133 hx_522925 ?_
        refine g_bipush C (v := 40) dX7_personsIn_134 (by decide) ?_
        refine g_icmp_ge C (tgt := 155) dX7_personsIn_136 (by decide) (fun h_522926 => ?_) (fun h_522926 => ?_)
        · skip
          have r_522927 := le_r (h_522926) rc_40 rx_522925
          refine g_lo (is := [0, 1, 2, 3, 4, 5]) (lo2 := [(0, .ref x), (1, .ref a0), (2, .int v_522918), (3, .int v_522919), (4, .int v_522920), (5, .int v_522921)]) rfl ?_
          exact j_155 I_522913 J_522914 hU_522915 hF_522916 hG_522917 v_522918 (rv_522918) v_522919 (rv_522919) v_522920 (rv_522920) v_522921 v_522922 (rv_522922) q_522923 hm_522924
        · skip
          have r_522928 := lt_l (hi := 39) (nle h_522926) rx_522925 rc_40 (by decide)
          refine g_iinc C dX7_personsIn_139 (k := 3) (v := x_522925) rfl hx_522925 (by decide) (lo2 := [(3, .int x_522925), (0, .ref x), (1, .ref a0), (2, .int v_522918), (4, .int v_522920), (5, .int v_522921)]) rfl ?_
          refine g_aload_n C 1 dX7_personsIn_142 rfl rfl ?_
          refine g_getR C K hLx hkx f_7_21 hb_522890 dX7_personsIn_143 ?_
          refine g_iload_n C 0 dX7_personsIn_146 rfl rfl ?_
          refine g_aload_n C 1 dX7_personsIn_147 rfl rfl ?_
          refine g_aload_n C 2 dX7_personsIn_148 rfl rfl ?_
          refine g_iload C 4 dX7_personsIn_149 rfl ?_
          refine g_callVI C K (c_X7_thoseOf W9 hLx hkx hLa0 hka0 v_522920 (rv_522920) hU_522915) hLx hkx (by decide) rfl v_7_110 rfl ⟨rfl, rfl⟩ ⟨Nat.le_of_ble_eq_true rfl, Nat.le_of_ble_eq_true rfl⟩ (Nat.le_of_ble_eq_true rfl) ⟨Nat.le_of_ble_eq_true rfl, Nat.le_of_ble_eq_true rfl⟩ dX7_personsIn_151 rfl (st := [.int x_522925, .ref b_522890]) (fun x_522929 I_522930 J_522931 h_522932 => ?_)
          obtain ⟨rfl, rfl, rx_522929⟩ := h_522932
          refine h_iast C K hb_522890L hb_522890k (x_522925.toNatClampNeg) (rfl) (ix_0 r_522928 (by decide)) (ix_lt r_522928 (by decide) hb_522890n (by decide)) dX7_personsIn_154 (fun I_522933 hI_522933 => ?_)
          have hU_522934 := iv_put W9 hU_522915 hI_522933 (ro_a hb_522890k (by decide) hb_522890o hkx rfl) (lo := (-2147483648)) (hi := 2147483647) (rfl) (rg_all _) rfl
          have hF_522935 := fq_puta hF_522916 hI_522933 (ro_a hb_522890k (by decide) hb_522890o hkx rfl) (by decide) (by decide)
          refine g_lo (is := [1, 2, 3, 0, 4, 5]) (lo2 := [(0, .ref x), (1, .ref a0), (2, .int v_522918), (3, .int x_522925), (4, .int v_522920), (5, .int v_522921)]) rfl ?_
          exact j_155 I_522933 J_522914 hU_522934 hF_522935 hG_522917 v_522918 (rv_522918) x_522925 (rg_w r_522928 (by decide) (by decide)) v_522920 (rv_522920) v_522921 v_522922 (rv_522922) (kp_k (κ := κ) hI_522933 (by rw [hkx, hb_522890k]; decide) q_522923) hm_522924
      have j_96 : ∀ (I_522936 : Nat → Nat → Int32) (J_522937 : Nat → Nat → Int64) (hU_522938 : Iv L κ R ow I_522936) (hF_522939 : Fq L κ ow [52300] I I_522936) (hG_522940 : Fq L κ ow [] J J_522937) (v_522941 : Int32) (rv_522941 : Rg 0 127 v_522941) (v_522942 : Int32) (rv_522942 : Rg (-1) 39 v_522942) (v_522943 : Int32) (rv_522943 : Rg 0 39 v_522943) (v_522944 : Int32) (v_522945 : Int32) (rv_522945 : Rg 1 40 v_522945) (q_522946 : I_522936 x 4 = v_522945) (hm_522947 : 40 < (v_522943 : Int32).toInt + ((n_13 + 1 : Nat) : Int)), WG p l e { frames := 3, cells := 0, slots := 0, locals := 69 } s m ([.ref x, .ref a0] : List Value).toArray below meth c 6 0 0 (MQ below (Qi_ D cy L κ ln R (fun r I2 J2 => Iv L κ R ow I2 ∧ Fq L κ ow [52300] I I2 ∧ Fq L κ ow [] J J2 ∧ Rg (-2147483648) 2147483647 r)) ([.ref x, .ref a0] : List Value).toArray s 0 0 (Al_ L)) D cy (Al_ L) s.heap L κ ln R I_522936 J_522937 96 [(0, .ref x), (1, .ref a0), (2, .int v_522941), (3, .int v_522942), (4, .int v_522943), (5, .int v_522944)] [] := by
        intro I_522936 J_522937 hU_522938 hF_522939 hG_522940 v_522941 rv_522941 v_522942 rv_522942 v_522943 rv_522943 v_522944 v_522945 rv_522945 q_522946 hm_522947
        refine g_iload C 5 dX7_personsIn_96 rfl ?_
        refine g_bipush C (v := 18) dX7_personsIn_98 (by decide) ?_
        refine g_icmp_ne C (tgt := 131) dX7_personsIn_100 (by decide) (fun h_522948 => ?_) (fun h_522948 => ?_)
        · skip
          have n_522949 : ¬ v_522944 = 18 := h_522948
          refine g_lo (is := [0, 1, 2, 3, 4, 5]) (lo2 := [(0, .ref x), (1, .ref a0), (2, .int v_522941), (3, .int v_522942), (4, .int v_522943), (5, .int v_522944)]) rfl ?_
          exact j_131 I_522936 J_522937 hU_522938 hF_522939 hG_522940 v_522941 (rv_522941) v_522942 (rv_522942) v_522943 (rv_522943) v_522944 v_522945 (rv_522945) q_522946 hm_522947
        · skip
          have r_522950 := (⟨(eq_rg (h_522948) rc_18).1, (eq_rg (h_522948) rc_18).2⟩ : Rg 18 18 v_522944)
          refine g_iload_n C 3 dX7_personsIn_103 rfl rfl ?_
          refine g_iconst C (v := 1) dX7_personsIn_104 (by decide) ?_
          refine g_icmp_lt C (tgt := 131) dX7_personsIn_105 (by decide) (fun h_522951 => ?_) (fun h_522951 => ?_)
          · skip
            have r_522952 := lt_l (hi := 0) (h_522951) rv_522942 rc_1 (by decide)
            refine g_lo (is := [0, 1, 2, 3, 4, 5]) (lo2 := [(0, .ref x), (1, .ref a0), (2, .int v_522941), (3, .int v_522942), (4, .int v_522943), (5, .int v_522944)]) rfl ?_
            exact j_131 I_522936 J_522937 hU_522938 hF_522939 hG_522940 v_522941 (rv_522941) v_522942 (rg_w r_522952 (by decide) (by decide)) v_522943 (rv_522943) v_522944 v_522945 (rv_522945) q_522946 hm_522947
          · skip
            have r_522953 := le_r (nlt h_522951) rc_1 rv_522942
            obtain ⟨x_522954, hx_522954, rx_522954, tx_522954⟩ := ex_add (y := (-1)) 0 38 r_522953 rc_m1 (by decide) (by decide) (by decide) (by decide)
            refine g_iinc C dX7_personsIn_108 (k := 3) (v := x_522954) rfl hx_522954 (by decide) (lo2 := [(3, .int x_522954), (0, .ref x), (1, .ref a0), (2, .int v_522941), (4, .int v_522943), (5, .int v_522944)]) rfl ?_
            refine g_aload_n C 1 dX7_personsIn_111 rfl rfl ?_
            refine g_getR C K hLx hkx f_7_21 hb_522890 dX7_personsIn_112 ?_
            refine g_iload_n C 0 dX7_personsIn_115 rfl rfl ?_
            refine g_dup2 C dX7_personsIn_116 rfl rfl ?_
            obtain ⟨x_522955, hx_522955, rx_522955⟩ := ex_get (I := I_522936) (a := b_522890) (j := x_522954.toNatClampNeg) (lo := (-2147483648)) (hi := 2147483647) hU_522938.1 hb_522890L (ro_a hb_522890k (by decide) hb_522890o hkx rfl) (rfl)
            refine h_iald C K hb_522890L hb_522890k (v := x_522955) (x_522954.toNatClampNeg) (rfl) (ix_0 rx_522954 (by decide)) (ix_lt rx_522954 (by decide) hb_522890n (by decide)) hx_522955 dX7_personsIn_117 ?_
            refine g_aload_n C 1 dX7_personsIn_118 rfl rfl ?_
            refine g_getR C K hLx hkx f_7_21 hb_522890 dX7_personsIn_119 ?_
            refine g_iload_n C 0 dX7_personsIn_122 rfl rfl ?_
            refine g_iconst C (v := 1) dX7_personsIn_123 (by decide) ?_
            obtain ⟨x_522956, hx_522956, rx_522956, tx_522956⟩ := ex_add 1 39 rx_522954 rc_1 (by decide) (by decide) (by decide) (by decide)
            refine g_iadd C (v := x_522956) dX7_personsIn_124 hx_522956 ?_
            obtain ⟨x_522957, hx_522957, rx_522957⟩ := ex_get (I := I_522936) (a := b_522890) (j := x_522956.toNatClampNeg) (lo := (-2147483648)) (hi := 2147483647) hU_522938.1 hb_522890L (ro_a hb_522890k (by decide) hb_522890o hkx rfl) (rfl)
            refine h_iald C K hb_522890L hb_522890k (v := x_522957) (x_522956.toNatClampNeg) (rfl) (ix_0 rx_522956 (by decide)) (ix_lt rx_522956 (by decide) hb_522890n (by decide)) hx_522957 dX7_personsIn_125 ?_
            obtain ⟨x_522958, hx_522958, rx_522958⟩ := ex_any (z0 := x_522955 &&& x_522957)
            refine g_iand C (v := x_522958) dX7_personsIn_126 hx_522958 ?_
            refine h_iast C K hb_522890L hb_522890k (x_522954.toNatClampNeg) (rfl) (ix_0 rx_522954 (by decide)) (ix_lt rx_522954 (by decide) hb_522890n (by decide)) dX7_personsIn_127 (fun I_522959 hI_522959 => ?_)
            have hU_522960 := iv_put W9 hU_522938 hI_522959 (ro_a hb_522890k (by decide) hb_522890o hkx rfl) (lo := (-2147483648)) (hi := 2147483647) (rfl) (rx_522958) rfl
            have hF_522961 := fq_puta hF_522939 hI_522959 (ro_a hb_522890k (by decide) hb_522890o hkx rfl) (by decide) (by decide)
            refine g_goto C (tgt := 155) dX7_personsIn_128 (by decide) ?_
            refine g_lo (is := [1, 2, 3, 0, 4, 5]) (lo2 := [(0, .ref x), (1, .ref a0), (2, .int v_522941), (3, .int x_522954), (4, .int v_522943), (5, .int v_522944)]) rfl ?_
            exact j_155 I_522959 J_522937 hU_522960 hF_522961 hG_522940 v_522941 (rv_522941) x_522954 (rg_w rx_522954 (by decide) (by decide)) v_522943 (rv_522943) v_522944 v_522945 (rv_522945) (kp_k (κ := κ) hI_522959 (by rw [hkx, hb_522890k]; decide) q_522946) hm_522947
      have j_61 : ∀ (I_522962 : Nat → Nat → Int32) (J_522963 : Nat → Nat → Int64) (hU_522964 : Iv L κ R ow I_522962) (hF_522965 : Fq L κ ow [52300] I I_522962) (hG_522966 : Fq L κ ow [] J J_522963) (v_522967 : Int32) (rv_522967 : Rg 0 127 v_522967) (v_522968 : Int32) (rv_522968 : Rg (-1) 39 v_522968) (v_522969 : Int32) (rv_522969 : Rg 0 39 v_522969) (v_522970 : Int32) (v_522971 : Int32) (rv_522971 : Rg 1 40 v_522971) (q_522972 : I_522962 x 4 = v_522971) (hm_522973 : 40 < (v_522969 : Int32).toInt + ((n_13 + 1 : Nat) : Int)), WG p l e { frames := 3, cells := 0, slots := 0, locals := 69 } s m ([.ref x, .ref a0] : List Value).toArray below meth c 6 0 0 (MQ below (Qi_ D cy L κ ln R (fun r I2 J2 => Iv L κ R ow I2 ∧ Fq L κ ow [52300] I I2 ∧ Fq L κ ow [] J J2 ∧ Rg (-2147483648) 2147483647 r)) ([.ref x, .ref a0] : List Value).toArray s 0 0 (Al_ L)) D cy (Al_ L) s.heap L κ ln R I_522962 J_522963 61 [(0, .ref x), (1, .ref a0), (2, .int v_522967), (3, .int v_522968), (4, .int v_522969), (5, .int v_522970)] [] := by
        intro I_522962 J_522963 hU_522964 hF_522965 hG_522966 v_522967 rv_522967 v_522968 rv_522968 v_522969 rv_522969 v_522970 v_522971 rv_522971 q_522972 hm_522973
        refine g_iload C 5 dX7_personsIn_61 rfl ?_
        refine g_bipush C (v := 17) dX7_personsIn_63 (by decide) ?_
        refine g_icmp_ne C (tgt := 96) dX7_personsIn_65 (by decide) (fun h_522974 => ?_) (fun h_522974 => ?_)
        · skip
          have n_522975 : ¬ v_522970 = 17 := h_522974
          refine g_lo (is := [0, 1, 2, 3, 4, 5]) (lo2 := [(0, .ref x), (1, .ref a0), (2, .int v_522967), (3, .int v_522968), (4, .int v_522969), (5, .int v_522970)]) rfl ?_
          exact j_96 I_522962 J_522963 hU_522964 hF_522965 hG_522966 v_522967 (rv_522967) v_522968 (rv_522968) v_522969 (rv_522969) v_522970 v_522971 (rv_522971) q_522972 hm_522973
        · skip
          have r_522976 := (⟨(eq_rg (h_522974) rc_17).1, (eq_rg (h_522974) rc_17).2⟩ : Rg 17 17 v_522970)
          refine g_iload_n C 3 dX7_personsIn_68 rfl rfl ?_
          refine g_iconst C (v := 1) dX7_personsIn_69 (by decide) ?_
          refine g_icmp_lt C (tgt := 96) dX7_personsIn_70 (by decide) (fun h_522977 => ?_) (fun h_522977 => ?_)
          · skip
            have r_522978 := lt_l (hi := 0) (h_522977) rv_522968 rc_1 (by decide)
            refine g_lo (is := [0, 1, 2, 3, 4, 5]) (lo2 := [(0, .ref x), (1, .ref a0), (2, .int v_522967), (3, .int v_522968), (4, .int v_522969), (5, .int v_522970)]) rfl ?_
            exact j_96 I_522962 J_522963 hU_522964 hF_522965 hG_522966 v_522967 (rv_522967) v_522968 (rg_w r_522978 (by decide) (by decide)) v_522969 (rv_522969) v_522970 v_522971 (rv_522971) q_522972 hm_522973
          · skip
            have r_522979 := le_r (nlt h_522977) rc_1 rv_522968
            obtain ⟨x_522980, hx_522980, rx_522980, tx_522980⟩ := ex_add (y := (-1)) 0 38 r_522979 rc_m1 (by decide) (by decide) (by decide) (by decide)
            refine g_iinc C dX7_personsIn_73 (k := 3) (v := x_522980) rfl hx_522980 (by decide) (lo2 := [(3, .int x_522980), (0, .ref x), (1, .ref a0), (2, .int v_522967), (4, .int v_522969), (5, .int v_522970)]) rfl ?_
            refine g_aload_n C 1 dX7_personsIn_76 rfl rfl ?_
            refine g_getR C K hLx hkx f_7_21 hb_522890 dX7_personsIn_77 ?_
            refine g_iload_n C 0 dX7_personsIn_80 rfl rfl ?_
            refine g_dup2 C dX7_personsIn_81 rfl rfl ?_
            obtain ⟨x_522981, hx_522981, rx_522981⟩ := ex_get (I := I_522962) (a := b_522890) (j := x_522980.toNatClampNeg) (lo := (-2147483648)) (hi := 2147483647) hU_522964.1 hb_522890L (ro_a hb_522890k (by decide) hb_522890o hkx rfl) (rfl)
            refine h_iald C K hb_522890L hb_522890k (v := x_522981) (x_522980.toNatClampNeg) (rfl) (ix_0 rx_522980 (by decide)) (ix_lt rx_522980 (by decide) hb_522890n (by decide)) hx_522981 dX7_personsIn_82 ?_
            refine g_aload_n C 1 dX7_personsIn_83 rfl rfl ?_
            refine g_getR C K hLx hkx f_7_21 hb_522890 dX7_personsIn_84 ?_
            refine g_iload_n C 0 dX7_personsIn_87 rfl rfl ?_
            refine g_iconst C (v := 1) dX7_personsIn_88 (by decide) ?_
            obtain ⟨x_522982, hx_522982, rx_522982, tx_522982⟩ := ex_add 1 39 rx_522980 rc_1 (by decide) (by decide) (by decide) (by decide)
            refine g_iadd C (v := x_522982) dX7_personsIn_89 hx_522982 ?_
            obtain ⟨x_522983, hx_522983, rx_522983⟩ := ex_get (I := I_522962) (a := b_522890) (j := x_522982.toNatClampNeg) (lo := (-2147483648)) (hi := 2147483647) hU_522964.1 hb_522890L (ro_a hb_522890k (by decide) hb_522890o hkx rfl) (rfl)
            refine h_iald C K hb_522890L hb_522890k (v := x_522983) (x_522982.toNatClampNeg) (rfl) (ix_0 rx_522982 (by decide)) (ix_lt rx_522982 (by decide) hb_522890n (by decide)) hx_522983 dX7_personsIn_90 ?_
            obtain ⟨x_522984, hx_522984, rx_522984⟩ := ex_any (z0 := x_522981 ||| x_522983)
            refine g_ior C (v := x_522984) dX7_personsIn_91 hx_522984 ?_
            refine h_iast C K hb_522890L hb_522890k (x_522980.toNatClampNeg) (rfl) (ix_0 rx_522980 (by decide)) (ix_lt rx_522980 (by decide) hb_522890n (by decide)) dX7_personsIn_92 (fun I_522985 hI_522985 => ?_)
            have hU_522986 := iv_put W9 hU_522964 hI_522985 (ro_a hb_522890k (by decide) hb_522890o hkx rfl) (lo := (-2147483648)) (hi := 2147483647) (rfl) (rx_522984) rfl
            have hF_522987 := fq_puta hF_522965 hI_522985 (ro_a hb_522890k (by decide) hb_522890o hkx rfl) (by decide) (by decide)
            refine g_goto C (tgt := 155) dX7_personsIn_93 (by decide) ?_
            refine g_lo (is := [1, 2, 3, 0, 4, 5]) (lo2 := [(0, .ref x), (1, .ref a0), (2, .int v_522967), (3, .int x_522980), (4, .int v_522969), (5, .int v_522970)]) rfl ?_
            exact j_155 I_522985 J_522963 hU_522986 hF_522987 hG_522966 v_522967 (rv_522967) x_522980 (rg_w rx_522980 (by decide) (by decide)) v_522969 (rv_522969) v_522970 v_522971 (rv_522971) (kp_k (κ := κ) hI_522985 (by rw [hkx, hb_522890k]; decide) q_522972) hm_522973
      refine g_iload C 4 dX7_personsIn_13 rfl ?_
      refine g_aload_n C 0 dX7_personsIn_15 rfl rfl ?_
      obtain ⟨x_522988, hx_522988, rx_522988⟩ := ex_get (I := I_522891) (a := x) (j := 4) (lo := 0) (hi := 40) hU_522893.1 hLx (ro_o hkx (by decide)) rfl
      refine g_getI C K hLx hkx f_7_24 (v := x_522988) hx_522988 dX7_personsIn_16 ?_
      refine g_icmp_ge C (tgt := 161) dX7_personsIn_19 (by decide) (fun h_522989 => ?_) (fun h_522989 => ?_)
      · skip
        refine g_iload_n C 3 dX7_personsIn_161 rfl rfl ?_
        refine g_if_lt C (tgt := 174) dX7_personsIn_162 (by decide) (fun h_522990 => ?_) (fun h_522990 => ?_)
        · skip
          have r_522991 := lt_l (hi := (-1)) (h_522990) rv_522897 rc_0 (by decide)
          refine g_iconst C (v := 0) dX7_personsIn_174 (by decide) ?_
          exact g_zret (ty := .int) (r := 0) B K rfl (rfl) ⟨hU_522893, hF_522894, hG_522895, rg_all _⟩ dX7_personsIn_175
        · skip
          have r_522992 := le_r (nlt h_522990) rc_0 rv_522897
          refine g_aload_n C 0 dX7_personsIn_165 rfl rfl ?_
          refine g_getR C K hLx hkx f_7_21 hb_522890 dX7_personsIn_166 ?_
          refine g_iload_n C 3 dX7_personsIn_169 rfl rfl ?_
          obtain ⟨x_522993, hx_522993, rx_522993⟩ := ex_get (I := I_522891) (a := b_522890) (j := v_522897.toNatClampNeg) (lo := (-2147483648)) (hi := 2147483647) hU_522893.1 hb_522890L (ro_a hb_522890k (by decide) hb_522890o hkx rfl) (rfl)
          refine h_iald C K hb_522890L hb_522890k (v := x_522993) (v_522897.toNatClampNeg) (rfl) (ix_0 r_522992 (by decide)) (ix_lt r_522992 (by decide) hb_522890n (by decide)) hx_522993 dX7_personsIn_170 ?_
          refine g_goto C (tgt := 175) dX7_personsIn_171 (by decide) ?_
          exact g_zret (ty := .int) (r := x_522993) B K rfl (rfl) ⟨hU_522893, hF_522894, hG_522895, rx_522993⟩ dX7_personsIn_175
      · skip
        have r_522994 := lt_l (hi := 39) (nle h_522989) rv_522898 rx_522988 (by decide)
        have r_522995 := lt_r (lo := 1) (nle h_522989) rv_522898 rx_522988 (by decide)
        refine g_aload_n C 0 dX7_personsIn_22 rfl rfl ?_
        refine g_getR C K hLx hkx f_7_11 hb_522889 dX7_personsIn_23 ?_
        refine g_iload C 4 dX7_personsIn_26 rfl ?_
        obtain ⟨x_522996, hx_522996, rx_522996⟩ := ex_get (I := I_522891) (a := b_522889) (j := v_522898.toNatClampNeg) (lo := (-2147483648)) (hi := 2147483647) hU_522893.1 hb_522889L (ro_a hb_522889k (by decide) hb_522889o hkx rfl) (rfl)
        refine h_iald C K hb_522889L hb_522889k (v := x_522996) (v_522898.toNatClampNeg) (rfl) (ix_0 r_522994 (by decide)) (ix_lt r_522994 (by decide) hb_522889n (by decide)) hx_522996 dX7_personsIn_28 ?_
        refine g_istore C dX7_personsIn_29 (by decide) (lo2 := [(5, .int x_522996), (0, .ref x), (1, .ref a0), (2, .int v_522896), (3, .int v_522897), (4, .int v_522898)]) rfl ?_
        refine g_iload C 0 dX7_personsIn_31 rfl ?_
        refine g_bipush C (v := 19) dX7_personsIn_33 (by decide) ?_
        refine g_icmp_ne C (tgt := 61) dX7_personsIn_35 (by decide) (fun h_522997 => ?_) (fun h_522997 => ?_)
        · skip
          have n_522998 : ¬ x_522996 = 19 := h_522997
          refine g_lo (is := [1, 2, 3, 4, 5, 0]) (lo2 := [(0, .ref x), (1, .ref a0), (2, .int v_522896), (3, .int v_522897), (4, .int v_522898), (5, .int x_522996)]) rfl ?_
          exact j_61 I_522891 J_522892 hU_522893 hF_522894 hG_522895 v_522896 (rv_522896) v_522897 (rv_522897) v_522898 (r_522994) x_522996 x_522988 (r_522995) hx_522988 hm_522899
        · skip
          have r_522999 := (⟨(eq_rg (h_522997) rc_19).1, (eq_rg (h_522997) rc_19).2⟩ : Rg 19 19 x_522996)
          refine g_iload_n C 4 dX7_personsIn_38 rfl rfl ?_
          refine g_if_lt C (tgt := 61) dX7_personsIn_39 (by decide) (fun h_523000 => ?_) (fun h_523000 => ?_)
          · skip
            have r_523001 := lt_l (hi := (-1)) (h_523000) rv_522897 rc_0 (by decide)
            refine g_lo (is := [1, 2, 3, 4, 5, 0]) (lo2 := [(0, .ref x), (1, .ref a0), (2, .int v_522896), (3, .int v_522897), (4, .int v_522898), (5, .int x_522996)]) rfl ?_
            exact j_61 I_522891 J_522892 hU_522893 hF_522894 hG_522895 v_522896 (rv_522896) v_522897 (rg_w r_523001 (by decide) (by decide)) v_522898 (r_522994) x_522996 x_522988 (r_522995) hx_522988 hm_522899
          · skip
            have r_523002 := le_r (nlt h_523000) rc_0 rv_522897
            refine g_aload_n C 1 dX7_personsIn_42 rfl rfl ?_
            refine g_getR C K hLx hkx f_7_21 hb_522890 dX7_personsIn_43 ?_
            refine g_iload_n C 4 dX7_personsIn_46 rfl rfl ?_
            refine g_iload_n C 3 dX7_personsIn_47 rfl rfl ?_
            refine g_aload_n C 1 dX7_personsIn_48 rfl rfl ?_
            refine g_getR C K hLx hkx f_7_21 hb_522890 dX7_personsIn_49 ?_
            refine g_iload_n C 4 dX7_personsIn_52 rfl rfl ?_
            obtain ⟨x_523003, hx_523003, rx_523003⟩ := ex_get (I := I_522891) (a := b_522890) (j := v_522897.toNatClampNeg) (lo := (-2147483648)) (hi := 2147483647) hU_522893.1 hb_522890L (ro_a hb_522890k (by decide) hb_522890o hkx rfl) (rfl)
            refine h_iald C K hb_522890L hb_522890k (v := x_523003) (v_522897.toNatClampNeg) (rfl) (ix_0 r_523002 (by decide)) (ix_lt r_523002 (by decide) hb_522890n (by decide)) hx_523003 dX7_personsIn_53 ?_
            refine g_iconst C (v := (-1)) dX7_personsIn_54 (by decide) ?_
            obtain ⟨x_523004, hx_523004, rx_523004⟩ := ex_any (z0 := x_523003 ^^^ (-1))
            refine g_ixor C (v := x_523004) dX7_personsIn_55 hx_523004 ?_
            obtain ⟨x_523005, hx_523005, rx_523005⟩ := ex_andl (x := v_522896) (y := x_523004) (b := 127) (rv_522896)
            refine g_iand C (v := x_523005) dX7_personsIn_56 hx_523005 ?_
            refine h_iast C K hb_522890L hb_522890k (v_522897.toNatClampNeg) (rfl) (ix_0 r_523002 (by decide)) (ix_lt r_523002 (by decide) hb_522890n (by decide)) dX7_personsIn_57 (fun I_523006 hI_523006 => ?_)
            have hU_523007 := iv_put W9 hU_522893 hI_523006 (ro_a hb_522890k (by decide) hb_522890o hkx rfl) (lo := (-2147483648)) (hi := 2147483647) (rfl) (rg_all _) rfl
            have hF_523008 := fq_puta hF_522894 hI_523006 (ro_a hb_522890k (by decide) hb_522890o hkx rfl) (by decide) (by decide)
            refine g_goto C (tgt := 155) dX7_personsIn_58 (by decide) ?_
            refine g_lo (is := [1, 2, 3, 4, 5, 0]) (lo2 := [(0, .ref x), (1, .ref a0), (2, .int v_522896), (3, .int v_522897), (4, .int v_522898), (5, .int x_522996)]) rfl ?_
            exact j_155 I_523006 J_522892 hU_523007 hF_523008 hG_522895 v_522896 (rv_522896) v_522897 (rg_w r_523002 (by decide) (by decide)) v_522898 (r_522994) x_522996 x_522988 (r_522995) (kp_k (κ := κ) hI_523006 (by rw [hkx, hb_522890k]; decide) hx_522988) hm_522899
  refine g_aload_n C 1 dX7_personsIn_0 rfl rfl ?_
  refine g_getR C K hLa0 hka0 f_7_100 hb_522888 dX7_personsIn_1 ?_
  refine g_callVI C K (c_X8_everybody W9 hb_522888L hb_522888k   hU) hb_522888L hb_522888k (by decide) rfl v_7_106 rfl ⟨rfl, rfl⟩ ⟨Nat.le_of_ble_eq_true rfl, Nat.le_of_ble_eq_true rfl⟩ (Nat.le_of_ble_eq_true rfl) ⟨Nat.le_of_ble_eq_true rfl, Nat.le_of_ble_eq_true rfl⟩ dX7_personsIn_4 rfl (st := []) (fun x_523009 I_523010 J_523011 h_523012 => ?_)
  obtain ⟨rfl, rfl, rx_523009⟩ := h_523012
  refine g_istore_n C dX7_personsIn_7 rfl (by decide) (lo2 := [(2, .int x_523009), (0, .ref x), (1, .ref a0)]) rfl ?_
  refine g_iconst C (v := (-1)) dX7_personsIn_8 (by decide) ?_
  refine g_istore_n C dX7_personsIn_9 rfl (by decide) (lo2 := [(3, .int (-1)), (2, .int x_523009), (0, .ref x), (1, .ref a0)]) rfl ?_
  refine g_iconst C (v := 0) dX7_personsIn_10 (by decide) ?_
  refine g_istore C dX7_personsIn_11 (by decide) (lo2 := [(4, .int 0), (3, .int (-1)), (2, .int x_523009), (0, .ref x), (1, .ref a0)]) rfl ?_
  refine g_lo (is := [3, 4, 2, 1, 0]) (lo2 := [(0, .ref x), (1, .ref a0), (2, .int x_523009), (3, .int (-1)), (4, .int 0)]) rfl ?_
  exact l_13 41 I J hU hF hG x_523009 (rx_523009) (-1) (rg_w rc_m1 (by decide) (by decide)) 0 (rg_w rc_0 (by decide) (by decide)) (ms_s (a := 0) (b := 40) (N := 41) (rg_w rc_0 (by decide) (by decide)) (by decide))
set_option maxRecDepth 100000 in
set_option maxHeartbeats 8000000 in
theorem c_X11_said {l : Launch} {D : va_G} {cy : Nat → ClassId} {L : List Nat} {κ ln : Nat → Nat} {R : Nat → Nat → Option Nat} {I : Nat → Nat → Int32} {J : Nat → Nat → Int64} {ow : Nat → Nat × Nat} (W9 : ∀ a ∈ L, Shp L κ ln R ow a) {x : Nat} (hLx : x ∈ L) (hkx : κ x = 11) (a0 : Int32) (hU : Iv L κ R ow I) : CtI l yX11_said cX11_said 5 (some .int) { frames := 4, cells := 0, slots := 0, locals := 94 } D cy L κ ln R I J [.ref x, .int a0] (fun r I2 J2 => Iv L κ R ow I2 ∧ Fq L κ ow [52300] I I2 ∧ Fq L κ ow [] J J2 ∧ Rg (-1) 63 r) := by
  refine CtI.of (by decide +kernel) (Nat.le_of_ble_eq_true rfl) ?_
  intro p e s m below meth c B K
  have C := B.1
  have hF : Fq L κ ow [52300] I I := fq_rf
  have hG : Fq L κ ow [] J J := fq_rf
  obtain ⟨b_523762, hb_523762, hb_523762L, hb_523762k⟩ := shp_o (W9 x hLx) hkx 7 7 rfl (by decide)
  obtain ⟨b_523763, hb_523763, hb_523763L, hb_523763k⟩ := shp_o (W9 x hLx) hkx 1 8 rfl (by decide)
  obtain ⟨b_523764, hb_523764, hb_523764L, hb_523764k⟩ := shp_o (W9 x hLx) hkx 2 1 rfl (by decide)
  refine g_lo (is := [0, 1]) (lo2 := [(0, .ref x), (1, .int a0)]) rfl ?_
  have l_39 : ∀ (n_39 : Nat) (I_523765 : Nat → Nat → Int32) (J_523766 : Nat → Nat → Int64) (hU_523767 : Iv L κ R ow I_523765) (hF_523768 : Fq L κ ow [52300] I I_523765) (hG_523769 : Fq L κ ow [] J J_523766) (v_523770 : Int32) (nv_523770_m1 : ¬ v_523770 = (-1)) (v_523771 : Int32) (v_523772 : Int32) (v_523773 : Int32) (rv_523773 : Rg 0 7 v_523773) (v_523774 : Int32) (nv_523774_0 : ¬ v_523774 = 0) (q_523775 : I_523765 b_523762 5 = v_523774) (hm_523776 : 7 < (v_523773 : Int32).toInt + (n_39 : Int)), WG p l e { frames := 4, cells := 0, slots := 0, locals := 94 } s m ([.ref x, .int a0] : List Value).toArray below meth c 5 0 0 (MQ below (Qi_ D cy L κ ln R (fun r I2 J2 => Iv L κ R ow I2 ∧ Fq L κ ow [52300] I I2 ∧ Fq L κ ow [] J J2 ∧ Rg (-1) 63 r)) ([.ref x, .int a0] : List Value).toArray s 0 0 (Al_ L)) D cy (Al_ L) s.heap L κ ln R I_523765 J_523766 39 [(0, .ref x), (1, .int v_523770), (2, .int v_523771), (3, .int v_523772), (4, .int v_523773)] [] := by
    intro n_39
    induction n_39 with
    | zero =>
      intro I_523765 J_523766 hU_523767 hF_523768 hG_523769 v_523770 nv_523770_m1 v_523771 v_523772 v_523773 rv_523773 v_523774 nv_523774_0 q_523775 hm_523776
      exact ms_0 rv_523773 hm_523776
    | succ n_39 ih_39 =>
      intro I_523765 J_523766 hU_523767 hF_523768 hG_523769 v_523770 nv_523770_m1 v_523771 v_523772 v_523773 rv_523773 v_523774 nv_523774_0 q_523775 hm_523776
      have j_71 : ∀ (I_523777 : Nat → Nat → Int32) (J_523778 : Nat → Nat → Int64) (hU_523779 : Iv L κ R ow I_523777) (hF_523780 : Fq L κ ow [52300] I I_523777) (hG_523781 : Fq L κ ow [] J J_523778) (v_523782 : Int32) (nv_523782_m1 : ¬ v_523782 = (-1)) (v_523783 : Int32) (v_523784 : Int32) (v_523785 : Int32) (rv_523785 : Rg 0 6 v_523785) (v_523786 : Int32) (rv_523786 : Rg 1 7 v_523786) (v_523787 : Int32) (nv_523787_0 : ¬ v_523787 = 0) (q_523788 : I_523777 b_523763 5 = v_523786) (q_523789 : I_523777 b_523762 5 = v_523787) (hm_523790 : 7 < (v_523785 : Int32).toInt + ((n_39 + 1 : Nat) : Int)), WG p l e { frames := 4, cells := 0, slots := 0, locals := 94 } s m ([.ref x, .int a0] : List Value).toArray below meth c 5 0 0 (MQ below (Qi_ D cy L κ ln R (fun r I2 J2 => Iv L κ R ow I2 ∧ Fq L κ ow [52300] I I2 ∧ Fq L κ ow [] J J2 ∧ Rg (-1) 63 r)) ([.ref x, .int a0] : List Value).toArray s 0 0 (Al_ L)) D cy (Al_ L) s.heap L κ ln R I_523777 J_523778 71 [(0, .ref x), (1, .int v_523782), (2, .int v_523783), (3, .int v_523784), (4, .int v_523785)] [] := by
        intro I_523777 J_523778 hU_523779 hF_523780 hG_523781 v_523782 nv_523782_m1 v_523783 v_523784 v_523785 rv_523785 v_523786 rv_523786 v_523787 nv_523787_0 q_523788 q_523789 hm_523790
        obtain ⟨x_523791, hx_523791, rx_523791, tx_523791⟩ := ex_add (y := 1) 1 7 rv_523785 rc_1 (by decide) (by decide) (by decide) (by decide)
        refine g_iinc C dX11_said_71 (k := 4) (v := x_523791) rfl hx_523791 (by decide) (lo2 := [(4, .int x_523791), (0, .ref x), (1, .int v_523782), (2, .int v_523783), (3, .int v_523784)]) rfl ?_
        refine g_goto C (tgt := 39) dX11_said_74 (by decide) ?_
        refine g_lo (is := [1, 2, 3, 4, 0]) (lo2 := [(0, .ref x), (1, .int v_523782), (2, .int v_523783), (3, .int v_523784), (4, .int x_523791)]) rfl ?_
        exact ih_39 I_523777 J_523778 hU_523779 hF_523780 hG_523781 v_523782 (nv_523782_m1) v_523783 v_523784 x_523791 (rg_w rx_523791 (by decide) (by decide)) v_523787 (nv_523787_0) q_523789 (ms_1 hm_523790 (ti_k tx_523791 rc_1) (by decide))
      refine g_iload C 4 dX11_said_39 rfl ?_
      refine g_aload_n C 0 dX11_said_41 rfl rfl ?_
      refine g_getR C K hLx hkx f_11_19 hb_523763 dX11_said_42 ?_
      obtain ⟨x_523792, hx_523792, rx_523792⟩ := ex_get (I := I_523765) (a := b_523763) (j := 5) (lo := 0) (hi := 7) hU_523767.1 hb_523763L (ro_o hb_523763k (by decide)) rfl
      refine g_getI C K hb_523763L hb_523763k f_11_213 (v := x_523792) hx_523792 dX11_said_45 ?_
      refine g_icmp_ge C (tgt := 77) dX11_said_48 (by decide) (fun h_523793 => ?_) (fun h_523793 => ?_)
      · skip
        refine g_iconst C (v := (-1)) dX11_said_77 (by decide) ?_
        exact g_zret (ty := .int) (r := (-1)) B K rfl (rfl) ⟨hU_523767, hF_523768, hG_523769, rg_w rc_m1 (by decide) (by decide)⟩ dX11_said_78
      · skip
        have r_523794 := lt_l (hi := 6) (nle h_523793) rv_523773 rx_523792 (by decide)
        have r_523795 := lt_r (lo := 1) (nle h_523793) rv_523773 rx_523792 (by decide)
        refine g_iload_n C 2 dX11_said_51 rfl rfl ?_
        refine g_iload C 4 dX11_said_52 rfl ?_
        obtain ⟨x_523796, hx_523796, rx_523796⟩ := ex_any (z0 := v_523771 >>> (v_523773 &&& 31))
        refine g_ishr C (v := x_523796) dX11_said_54 hx_523796 ?_
        refine g_iconst C (v := 1) dX11_said_55 (by decide) ?_
        obtain ⟨x_523797, hx_523797, rx_523797⟩ := ex_andr (x := x_523796) (y := 1) (b := 1) (rg_w rc_1 (by decide) (by decide))
        refine g_iand C (v := x_523797) dX11_said_56 hx_523797 ?_
        refine g_if_eq C (tgt := 71) dX11_said_57 (by decide) (fun h_523798 => ?_) (fun h_523798 => ?_)
        · skip
          have r_523799 := (⟨(rx_523797).1, (eq_rg (h_523798) rc_0).2⟩ : Rg 0 0 x_523797)
          refine g_lo (is := [0, 1, 2, 3, 4]) (lo2 := [(0, .ref x), (1, .int v_523770), (2, .int v_523771), (3, .int v_523772), (4, .int v_523773)]) rfl ?_
          exact j_71 I_523765 J_523766 hU_523767 hF_523768 hG_523769 v_523770 (nv_523770_m1) v_523771 v_523772 v_523773 (r_523794) x_523792 (r_523795) v_523774 (nv_523774_0) hx_523792 q_523775 hm_523776
        · skip
          have n_523800 : ¬ x_523797 = 0 := h_523798
          have r_523801 := ne_lo (lo := 1) n_523800 rx_523797 rc_0 rfl (by decide)
          refine g_iload_n C 3 dX11_said_60 rfl rfl ?_
          refine g_iload_n C 1 dX11_said_61 rfl rfl ?_
          refine g_icmp_ne C (tgt := 68) dX11_said_62 (by decide) (fun h_523802 => ?_) (fun h_523802 => ?_)
          · skip
            obtain ⟨x_523803, hx_523803, rx_523803⟩ := ex_any (z0 := v_523772 + 1)
            refine g_iinc C dX11_said_68 (k := 3) (v := x_523803) rfl hx_523803 (by decide) (lo2 := [(3, .int x_523803), (0, .ref x), (1, .int v_523770), (2, .int v_523771), (4, .int v_523773)]) rfl ?_
            refine g_lo (is := [1, 2, 3, 0, 4]) (lo2 := [(0, .ref x), (1, .int v_523770), (2, .int v_523771), (3, .int x_523803), (4, .int v_523773)]) rfl ?_
            exact j_71 I_523765 J_523766 hU_523767 hF_523768 hG_523769 v_523770 (nv_523770_m1) v_523771 x_523803 v_523773 (r_523794) x_523792 (r_523795) v_523774 (nv_523774_0) hx_523792 q_523775 hm_523776
          · skip
            refine g_iload C 4 dX11_said_65 rfl ?_
            exact g_zret (ty := .int) (r := v_523773) B K rfl (rfl) ⟨hU_523767, hF_523768, hG_523769, rg_w r_523794 (by decide) (by decide)⟩ dX11_said_67
  refine g_aload_n C 0 dX11_said_0 rfl rfl ?_
  refine g_getR C K hLx hkx f_11_59 hb_523762 dX11_said_1 ?_
  obtain ⟨x_523804, hx_523804, rx_523804⟩ := ex_get (I := I) (a := b_523762) (j := 5) (lo := (-2147483648)) (hi := 2147483647) hU.1 hb_523762L (ro_o hb_523762k (by decide)) rfl
  refine g_getI C K hb_523762L hb_523762k f_11_368 (v := x_523804) hx_523804 dX11_said_4 ?_
  refine g_if_ne C (tgt := 12) dX11_said_7 (by decide) (fun h_523805 => ?_) (fun h_523805 => ?_)
  · skip
    have n_523806 : ¬ x_523804 = 0 := h_523805
    refine g_aload_n C 0 dX11_said_12 rfl rfl ?_
    refine g_getR C K hLx hkx f_11_59 hb_523762 dX11_said_13 ?_
    refine g_aload_n C 0 dX11_said_16 rfl rfl ?_
    refine g_getR C K hLx hkx f_11_28 hb_523764 dX11_said_17 ?_
    refine g_callVI C K (c_X7_personsIn W9 hb_523762L hb_523762k hb_523764L hb_523764k  hU) hb_523762L hb_523762k (by decide) rfl v_11_371 rfl ⟨rfl, rfl⟩ ⟨Nat.le_of_ble_eq_true rfl, Nat.le_of_ble_eq_true rfl⟩ (Nat.le_of_ble_eq_true rfl) ⟨Nat.le_of_ble_eq_true rfl, Nat.le_of_ble_eq_true rfl⟩ dX11_said_20 rfl (st := []) (fun x_523807 I_523808 J_523809 h_523810 => ?_)
    obtain ⟨hUI_523808, hFI_523808, hGJ_523809, rx_523807⟩ := h_523810
    have hF_523811 := fq_tr hF hFI_523808 (by decide)
    have hG_523812 := fq_tr hG hGJ_523809 (by decide)
    refine g_istore_n C dX11_said_23 rfl (by decide) (lo2 := [(2, .int x_523807), (0, .ref x), (1, .int a0)]) rfl ?_
    refine g_iload_n C 2 dX11_said_24 rfl rfl ?_
    refine g_iconst C (v := (-1)) dX11_said_25 (by decide) ?_
    refine g_icmp_ne C (tgt := 34) dX11_said_26 (by decide) (fun h_523813 => ?_) (fun h_523813 => ?_)
    · skip
      have n_523814 : ¬ a0 = (-1) := h_523813
      refine g_iconst C (v := 0) dX11_said_34 (by decide) ?_
      refine g_istore_n C dX11_said_35 rfl (by decide) (lo2 := [(3, .int 0), (2, .int x_523807), (0, .ref x), (1, .int a0)]) rfl ?_
      refine g_iconst C (v := 0) dX11_said_36 (by decide) ?_
      refine g_istore C dX11_said_37 (by decide) (lo2 := [(4, .int 0), (3, .int 0), (2, .int x_523807), (0, .ref x), (1, .int a0)]) rfl ?_
      refine g_lo (is := [3, 4, 2, 1, 0]) (lo2 := [(0, .ref x), (1, .int a0), (2, .int x_523807), (3, .int 0), (4, .int 0)]) rfl ?_
      exact l_39 8 I_523808 J_523809 hUI_523808 hF_523811 hG_523812 a0 (n_523814) x_523807 0 0 (rg_w rc_0 (by decide) (by decide)) x_523804 (n_523806) (fq_at hFI_523808 hb_523762L hb_523762k (by decide) (by decide) hx_523804) (ms_s (a := 0) (b := 7) (N := 8) (rg_w rc_0 (by decide) (by decide)) (by decide))
    · skip
      have r_523815 := (⟨(eq_rg (h_523813) rc_m1).1, (eq_rg (h_523813) rc_m1).2⟩ : Rg (-1) (-1) a0)
      refine g_iload_n C 0 dX11_said_29 rfl rfl ?_
      refine g_callSI C K (c_J6_bitCount_0f7a4 W9 x_523807  hUI_523808) s_11_374 rfl ⟨rfl, rfl⟩ ⟨Nat.le_of_ble_eq_true rfl, Nat.le_of_ble_eq_true rfl⟩ (Nat.le_of_ble_eq_true rfl) ⟨Nat.le_of_ble_eq_true rfl, Nat.le_of_ble_eq_true rfl⟩ dX11_said_30 rfl (st := []) (fun x_523816 I_523817 J_523818 h_523819 => ?_)
      obtain ⟨rfl, rfl, rx_523816, ex_523816⟩ := h_523819
      exact g_zret (ty := .int) (r := x_523816) B K rfl (rfl) ⟨hUI_523808, hF_523811, hG_523812, rg_w rx_523816 (by decide) (by decide)⟩ dX11_said_33
  · skip
    have r_523820 := (⟨(eq_rg (h_523805) rc_0).1, (eq_rg (h_523805) rc_0).2⟩ : Rg 0 0 x_523804)
    refine g_iconst C (v := (-1)) dX11_said_10 (by decide) ?_
    exact g_zret (ty := .int) (r := (-1)) B K rfl (rfl) ⟨hU, hF, hG, rg_w rc_m1 (by decide) (by decide)⟩ dX11_said_11
