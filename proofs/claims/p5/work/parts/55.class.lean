theorem dX11_said_0 : decode cX11_said 0 = .ok (.aload_n 0, 1) := by decide +kernel
theorem dX11_said_1 : decode cX11_said 1 = .ok (.getfield 59, 3) := by decide +kernel
theorem dX11_said_4 : decode cX11_said 4 = .ok (.getfield 368, 3) := by decide +kernel
theorem dX11_said_7 : decode cX11_said 7 = .ok (.ifCond .ne 5, 3) := by decide +kernel
theorem dX11_said_10 : decode cX11_said 10 = .ok (.iconst (-1), 1) := by decide +kernel
theorem dX11_said_11 : decode cX11_said 11 = .ok (.ireturn, 1) := by decide +kernel
theorem dX11_said_12 : decode cX11_said 12 = .ok (.aload_n 0, 1) := by decide +kernel
theorem dX11_said_13 : decode cX11_said 13 = .ok (.getfield 59, 3) := by decide +kernel
theorem dX11_said_16 : decode cX11_said 16 = .ok (.aload_n 0, 1) := by decide +kernel
theorem dX11_said_17 : decode cX11_said 17 = .ok (.getfield 28, 3) := by decide +kernel
theorem dX11_said_20 : decode cX11_said 20 = .ok (.invokevirtual 371, 3) := by decide +kernel
theorem dX11_said_23 : decode cX11_said 23 = .ok (.istore_n 2, 1) := by decide +kernel
theorem dX11_said_24 : decode cX11_said 24 = .ok (.iload_n 1, 1) := by decide +kernel
theorem dX11_said_25 : decode cX11_said 25 = .ok (.iconst (-1), 1) := by decide +kernel
theorem dX11_said_26 : decode cX11_said 26 = .ok (.if_icmp .ne 8, 3) := by decide +kernel
theorem dX11_said_29 : decode cX11_said 29 = .ok (.iload_n 2, 1) := by decide +kernel
theorem dX11_said_30 : decode cX11_said 30 = .ok (.invokestatic 374, 3) := by decide +kernel
theorem dX11_said_33 : decode cX11_said 33 = .ok (.ireturn, 1) := by decide +kernel
theorem dX11_said_34 : decode cX11_said 34 = .ok (.iconst 0, 1) := by decide +kernel
theorem dX11_said_35 : decode cX11_said 35 = .ok (.istore_n 3, 1) := by decide +kernel
theorem dX11_said_36 : decode cX11_said 36 = .ok (.iconst 0, 1) := by decide +kernel
theorem dX11_said_37 : decode cX11_said 37 = .ok (.istore 4, 2) := by decide +kernel
theorem dX11_said_39 : decode cX11_said 39 = .ok (.iload 4, 2) := by decide +kernel
theorem dX11_said_41 : decode cX11_said 41 = .ok (.aload_n 0, 1) := by decide +kernel
theorem dX11_said_42 : decode cX11_said 42 = .ok (.getfield 19, 3) := by decide +kernel
theorem dX11_said_45 : decode cX11_said 45 = .ok (.getfield 213, 3) := by decide +kernel
theorem dX11_said_48 : decode cX11_said 48 = .ok (.if_icmp .ge 29, 3) := by decide +kernel
theorem dX11_said_51 : decode cX11_said 51 = .ok (.iload_n 2, 1) := by decide +kernel
theorem dX11_said_52 : decode cX11_said 52 = .ok (.iload 4, 2) := by decide +kernel
theorem dX11_said_54 : decode cX11_said 54 = .ok (.ishr, 1) := by decide +kernel
theorem dX11_said_55 : decode cX11_said 55 = .ok (.iconst 1, 1) := by decide +kernel
theorem dX11_said_56 : decode cX11_said 56 = .ok (.iand, 1) := by decide +kernel
theorem dX11_said_57 : decode cX11_said 57 = .ok (.ifCond .eq 14, 3) := by decide +kernel
theorem dX11_said_60 : decode cX11_said 60 = .ok (.iload_n 3, 1) := by decide +kernel
theorem dX11_said_61 : decode cX11_said 61 = .ok (.iload_n 1, 1) := by decide +kernel
theorem dX11_said_62 : decode cX11_said 62 = .ok (.if_icmp .ne 6, 3) := by decide +kernel
theorem dX11_said_65 : decode cX11_said 65 = .ok (.iload 4, 2) := by decide +kernel
theorem dX11_said_67 : decode cX11_said 67 = .ok (.ireturn, 1) := by decide +kernel
theorem dX11_said_68 : decode cX11_said 68 = .ok (.iinc 3 1, 3) := by decide +kernel
theorem dX11_said_71 : decode cX11_said 71 = .ok (.iinc 4 1, 3) := by decide +kernel
theorem dX11_said_74 : decode cX11_said 74 = .ok (.goto (-35), 3) := by decide +kernel
theorem dX11_said_77 : decode cX11_said 77 = .ok (.iconst (-1), 1) := by decide +kernel
theorem dX11_said_78 : decode cX11_said 78 = .ok (.ireturn, 1) := by decide +kernel
theorem dX11_sentence_0 : decode cX11_sentence 0 = .ok (.aload_n 0, 1) := by decide +kernel
theorem dX11_sentence_1 : decode cX11_sentence 1 = .ok (.getfield 63, 3) := by decide +kernel
theorem dX11_sentence_4 : decode cX11_sentence 4 = .ok (.aload_n 0, 1) := by decide +kernel
theorem dX11_sentence_5 : decode cX11_sentence 5 = .ok (.getfield 10, 3) := by decide +kernel
theorem dX11_sentence_8 : decode cX11_sentence 8 = .ok (.aload_n 0, 1) := by decide +kernel
theorem dX11_sentence_9 : decode cX11_sentence 9 = .ok (.getfield 19, 3) := by decide +kernel
theorem dX11_sentence_12 : decode cX11_sentence 12 = .ok (.invokevirtual 362, 3) := by decide +kernel
theorem dX11_sentence_15 : decode cX11_sentence 15 = .ok (.pop, 1) := by decide +kernel
theorem dX11_sentence_16 : decode cX11_sentence 16 = .ok (.aload_n 0, 1) := by decide +kernel
theorem dX11_sentence_17 : decode cX11_sentence 17 = .ok (.getfield 10, 3) := by decide +kernel
theorem dX11_sentence_20 : decode cX11_sentence 20 = .ok (.iconst 0, 1) := by decide +kernel
theorem dX11_sentence_21 : decode cX11_sentence 21 = .ok (.putfield 102, 3) := by decide +kernel
theorem dX11_sentence_24 : decode cX11_sentence 24 = .ok (.aload_n 0, 1) := by decide +kernel
theorem dX11_sentence_25 : decode cX11_sentence 25 = .ok (.getfield 10, 3) := by decide +kernel
theorem dX11_sentence_28 : decode cX11_sentence 28 = .ok (.getfield 113, 3) := by decide +kernel
theorem dX11_sentence_31 : decode cX11_sentence 31 = .ok (.ifCond .eq 13, 3) := by decide +kernel
theorem dX11_sentence_34 : decode cX11_sentence 34 = .ok (.iconst (-1), 1) := by decide +kernel
theorem dX11_sentence_35 : decode cX11_sentence 35 = .ok (.aload_n 0, 1) := by decide +kernel
theorem dX11_sentence_36 : decode cX11_sentence 36 = .ok (.getfield 10, 3) := by decide +kernel
theorem dX11_sentence_39 : decode cX11_sentence 39 = .ok (.getfield 116, 3) := by decide +kernel
theorem dX11_sentence_42 : decode cX11_sentence 42 = .ok (.isub, 1) := by decide +kernel
theorem dX11_sentence_43 : decode cX11_sentence 43 = .ok (.ireturn, 1) := by decide +kernel
theorem dX11_sentence_44 : decode cX11_sentence 44 = .ok (.aload_n 0, 1) := by decide +kernel
theorem dX11_sentence_45 : decode cX11_sentence 45 = .ok (.getfield 59, 3) := by decide +kernel
theorem dX11_sentence_48 : decode cX11_sentence 48 = .ok (.aload_n 0, 1) := by decide +kernel
theorem dX11_sentence_49 : decode cX11_sentence 49 = .ok (.getfield 63, 3) := by decide +kernel
theorem dX11_sentence_52 : decode cX11_sentence 52 = .ok (.invokevirtual 365, 3) := by decide +kernel
theorem dX11_sentence_55 : decode cX11_sentence 55 = .ok (.aload_n 0, 1) := by decide +kernel
theorem dX11_sentence_56 : decode cX11_sentence 56 = .ok (.getfield 59, 3) := by decide +kernel
theorem dX11_sentence_59 : decode cX11_sentence 59 = .ok (.getfield 368, 3) := by decide +kernel
theorem dX11_sentence_62 : decode cX11_sentence 62 = .ok (.ireturn, 1) := by decide +kernel
theorem dX7_compares_0 : decode cX7_compares 0 = .ok (.aload_n 0, 1) := by decide +kernel
theorem dX7_compares_1 : decode cX7_compares 1 = .ok (.getfield 15, 3) := by decide +kernel
theorem dX7_compares_4 : decode cX7_compares 4 = .ok (.iload_n 2, 1) := by decide +kernel
theorem dX7_compares_5 : decode cX7_compares 5 = .ok (.iaload, 1) := by decide +kernel
theorem dX7_compares_6 : decode cX7_compares 6 = .ok (.lookupswitch 58 #[(60, 26), (62, 42)], 26) := by decide +kernel
theorem dX7_compares_32 : decode cX7_compares 32 = .ok (.iload_n 1, 1) := by decide +kernel
theorem dX7_compares_33 : decode cX7_compares 33 = .ok (.aload_n 0, 1) := by decide +kernel
theorem dX7_compares_34 : decode cX7_compares 34 = .ok (.getfield 18, 3) := by decide +kernel
theorem dX7_compares_37 : decode cX7_compares 37 = .ok (.iload_n 2, 1) := by decide +kernel
theorem dX7_compares_38 : decode cX7_compares 38 = .ok (.iaload, 1) := by decide +kernel
theorem dX7_compares_39 : decode cX7_compares 39 = .ok (.if_icmp .ge 7, 3) := by decide +kernel
theorem dX7_compares_42 : decode cX7_compares 42 = .ok (.iconst 1, 1) := by decide +kernel
theorem dX7_compares_43 : decode cX7_compares 43 = .ok (.goto 4, 3) := by decide +kernel
theorem dX7_compares_46 : decode cX7_compares 46 = .ok (.iconst 0, 1) := by decide +kernel
theorem dX7_compares_47 : decode cX7_compares 47 = .ok (.ireturn, 1) := by decide +kernel
theorem dX7_compares_48 : decode cX7_compares 48 = .ok (.iload_n 1, 1) := by decide +kernel
theorem dX7_compares_49 : decode cX7_compares 49 = .ok (.aload_n 0, 1) := by decide +kernel
theorem dX7_compares_50 : decode cX7_compares 50 = .ok (.getfield 18, 3) := by decide +kernel
theorem dX7_compares_53 : decode cX7_compares 53 = .ok (.iload_n 2, 1) := by decide +kernel
theorem dX7_compares_54 : decode cX7_compares 54 = .ok (.iaload, 1) := by decide +kernel
theorem dX7_compares_55 : decode cX7_compares 55 = .ok (.if_icmp .le 7, 3) := by decide +kernel
theorem dX7_compares_58 : decode cX7_compares 58 = .ok (.iconst 1, 1) := by decide +kernel
theorem dX7_compares_59 : decode cX7_compares 59 = .ok (.goto 4, 3) := by decide +kernel
theorem dX7_compares_62 : decode cX7_compares 62 = .ok (.iconst 0, 1) := by decide +kernel
theorem dX7_compares_63 : decode cX7_compares 63 = .ok (.ireturn, 1) := by decide +kernel
theorem dX7_compares_64 : decode cX7_compares 64 = .ok (.iload_n 1, 1) := by decide +kernel
theorem dX7_compares_65 : decode cX7_compares 65 = .ok (.aload_n 0, 1) := by decide +kernel
theorem dX7_compares_66 : decode cX7_compares 66 = .ok (.getfield 18, 3) := by decide +kernel
theorem dX7_compares_69 : decode cX7_compares 69 = .ok (.iload_n 2, 1) := by decide +kernel
theorem dX7_compares_70 : decode cX7_compares 70 = .ok (.iaload, 1) := by decide +kernel
theorem dX7_compares_71 : decode cX7_compares 71 = .ok (.if_icmp .ne 7, 3) := by decide +kernel
theorem dX7_compares_74 : decode cX7_compares 74 = .ok (.iconst 1, 1) := by decide +kernel
theorem dX7_compares_75 : decode cX7_compares 75 = .ok (.goto 4, 3) := by decide +kernel
theorem dX7_compares_78 : decode cX7_compares 78 = .ok (.iconst 0, 1) := by decide +kernel
theorem dX7_compares_79 : decode cX7_compares 79 = .ok (.ireturn, 1) := by decide +kernel
theorem dX7_holds_0 : decode cX7_holds 0 = .ok (.aload_n 0, 1) := by decide +kernel
theorem dX7_holds_1 : decode cX7_holds 1 = .ok (.getfield 11, 3) := by decide +kernel
theorem dX7_holds_4 : decode cX7_holds 4 = .ok (.iload_n 2, 1) := by decide +kernel
theorem dX7_holds_5 : decode cX7_holds 5 = .ok (.iaload, 1) := by decide +kernel
theorem dX7_holds_6 : decode cX7_holds 6 = .ok (.tableswitch 231 5 26 #[148, 231, 231, 231, 231, 231, 231, 231, 231, 231, 231, 231, 231, 231, 231, 102, 116, 133, 172, 192, 207, 219], 102) := by decide +kernel
theorem dX7_holds_108 : decode cX7_holds 108 = .ok (.aload_n 1, 1) := by decide +kernel
theorem dX7_holds_109 : decode cX7_holds 109 = .ok (.iload_n 3, 1) := by decide +kernel
theorem dX7_holds_110 : decode cX7_holds 110 = .ok (.invokevirtual 121, 3) := by decide +kernel
theorem dX7_holds_113 : decode cX7_holds 113 = .ok (.ifCond .ne 7, 3) := by decide +kernel
theorem dX7_holds_116 : decode cX7_holds 116 = .ok (.iconst 1, 1) := by decide +kernel
theorem dX7_holds_117 : decode cX7_holds 117 = .ok (.goto 4, 3) := by decide +kernel
theorem dX7_holds_120 : decode cX7_holds 120 = .ok (.iconst 0, 1) := by decide +kernel
theorem dX7_holds_121 : decode cX7_holds 121 = .ok (.ireturn, 1) := by decide +kernel
theorem dX7_holds_122 : decode cX7_holds 122 = .ok (.aload_n 1, 1) := by decide +kernel
theorem dX7_holds_123 : decode cX7_holds 123 = .ok (.getfield 124, 3) := by decide +kernel
theorem dX7_holds_126 : decode cX7_holds 126 = .ok (.iload_n 3, 1) := by decide +kernel
theorem dX7_holds_127 : decode cX7_holds 127 = .ok (.ishr, 1) := by decide +kernel
theorem dX7_holds_128 : decode cX7_holds 128 = .ok (.iconst 1, 1) := by decide +kernel
theorem dX7_holds_129 : decode cX7_holds 129 = .ok (.iand, 1) := by decide +kernel
theorem dX7_holds_130 : decode cX7_holds 130 = .ok (.ifCond .eq 7, 3) := by decide +kernel
theorem dX7_holds_133 : decode cX7_holds 133 = .ok (.iconst 1, 1) := by decide +kernel
theorem dX7_holds_134 : decode cX7_holds 134 = .ok (.goto 4, 3) := by decide +kernel
theorem dX7_holds_137 : decode cX7_holds 137 = .ok (.iconst 0, 1) := by decide +kernel
theorem dX7_holds_138 : decode cX7_holds 138 = .ok (.ireturn, 1) := by decide +kernel
theorem dX7_holds_139 : decode cX7_holds 139 = .ok (.aload_n 1, 1) := by decide +kernel
theorem dX7_holds_140 : decode cX7_holds 140 = .ok (.getfield 127, 3) := by decide +kernel
theorem dX7_holds_143 : decode cX7_holds 143 = .ok (.iload_n 3, 1) := by decide +kernel
theorem dX7_holds_144 : decode cX7_holds 144 = .ok (.iaload, 1) := by decide +kernel
theorem dX7_holds_145 : decode cX7_holds 145 = .ok (.ifCond .ne 7, 3) := by decide +kernel
theorem dX7_holds_148 : decode cX7_holds 148 = .ok (.iconst 1, 1) := by decide +kernel
theorem dX7_holds_149 : decode cX7_holds 149 = .ok (.goto 4, 3) := by decide +kernel
theorem dX7_holds_152 : decode cX7_holds 152 = .ok (.iconst 0, 1) := by decide +kernel
theorem dX7_holds_153 : decode cX7_holds 153 = .ok (.ireturn, 1) := by decide +kernel
theorem dX7_holds_154 : decode cX7_holds 154 = .ok (.aload_n 1, 1) := by decide +kernel
theorem dX7_holds_155 : decode cX7_holds 155 = .ok (.getfield 100, 3) := by decide +kernel
theorem dX7_holds_158 : decode cX7_holds 158 = .ok (.getfield 130, 3) := by decide +kernel
theorem dX7_holds_161 : decode cX7_holds 161 = .ok (.iload_n 3, 1) := by decide +kernel
theorem dX7_holds_162 : decode cX7_holds 162 = .ok (.iaload, 1) := by decide +kernel
theorem dX7_holds_163 : decode cX7_holds 163 = .ok (.aload_n 0, 1) := by decide +kernel
theorem dX7_holds_164 : decode cX7_holds 164 = .ok (.getfield 18, 3) := by decide +kernel
theorem dX7_holds_167 : decode cX7_holds 167 = .ok (.iload_n 2, 1) := by decide +kernel
theorem dX7_holds_168 : decode cX7_holds 168 = .ok (.iaload, 1) := by decide +kernel
theorem dX7_holds_169 : decode cX7_holds 169 = .ok (.if_icmp .ne 7, 3) := by decide +kernel
theorem dX7_holds_172 : decode cX7_holds 172 = .ok (.iconst 1, 1) := by decide +kernel
theorem dX7_holds_173 : decode cX7_holds 173 = .ok (.goto 4, 3) := by decide +kernel
theorem dX7_holds_176 : decode cX7_holds 176 = .ok (.iconst 0, 1) := by decide +kernel
theorem dX7_holds_177 : decode cX7_holds 177 = .ok (.ireturn, 1) := by decide +kernel
theorem dX7_holds_178 : decode cX7_holds 178 = .ok (.aload_n 1, 1) := by decide +kernel
theorem dX7_holds_179 : decode cX7_holds 179 = .ok (.iload_n 3, 1) := by decide +kernel
theorem dX7_holds_180 : decode cX7_holds 180 = .ok (.aload_n 0, 1) := by decide +kernel
theorem dX7_holds_181 : decode cX7_holds 181 = .ok (.getfield 18, 3) := by decide +kernel
theorem dX7_holds_184 : decode cX7_holds 184 = .ok (.iload_n 2, 1) := by decide +kernel
theorem dX7_holds_185 : decode cX7_holds 185 = .ok (.iaload, 1) := by decide +kernel
theorem dX7_holds_186 : decode cX7_holds 186 = .ok (.invokevirtual 133, 3) := by decide +kernel
theorem dX7_holds_189 : decode cX7_holds 189 = .ok (.ifCond .le 7, 3) := by decide +kernel
theorem dX7_holds_192 : decode cX7_holds 192 = .ok (.iconst 1, 1) := by decide +kernel
theorem dX7_holds_193 : decode cX7_holds 193 = .ok (.goto 4, 3) := by decide +kernel
theorem dX7_holds_196 : decode cX7_holds 196 = .ok (.iconst 0, 1) := by decide +kernel
theorem dX7_holds_197 : decode cX7_holds 197 = .ok (.ireturn, 1) := by decide +kernel
theorem dX7_holds_198 : decode cX7_holds 198 = .ok (.aload_n 0, 1) := by decide +kernel
theorem dX7_holds_199 : decode cX7_holds 199 = .ok (.aload_n 1, 1) := by decide +kernel
theorem dX7_holds_200 : decode cX7_holds 200 = .ok (.getfield 100, 3) := by decide +kernel
theorem dX7_holds_203 : decode cX7_holds 203 = .ok (.getfield 136, 3) := by decide +kernel
theorem dX7_holds_206 : decode cX7_holds 206 = .ok (.iload_n 3, 1) := by decide +kernel
theorem dX7_holds_207 : decode cX7_holds 207 = .ok (.iaload, 1) := by decide +kernel
theorem dX7_holds_208 : decode cX7_holds 208 = .ok (.iload_n 2, 1) := by decide +kernel
theorem dX7_holds_209 : decode cX7_holds 209 = .ok (.invokevirtual 139, 3) := by decide +kernel
theorem dX7_holds_212 : decode cX7_holds 212 = .ok (.ireturn, 1) := by decide +kernel
theorem dX7_holds_213 : decode cX7_holds 213 = .ok (.aload_n 0, 1) := by decide +kernel
theorem dX7_holds_214 : decode cX7_holds 214 = .ok (.aload_n 1, 1) := by decide +kernel
theorem dX7_holds_215 : decode cX7_holds 215 = .ok (.getfield 143, 3) := by decide +kernel
theorem dX7_holds_218 : decode cX7_holds 218 = .ok (.iload_n 3, 1) := by decide +kernel
theorem dX7_holds_219 : decode cX7_holds 219 = .ok (.iaload, 1) := by decide +kernel
theorem dX7_holds_220 : decode cX7_holds 220 = .ok (.iload_n 2, 1) := by decide +kernel
theorem dX7_holds_221 : decode cX7_holds 221 = .ok (.invokevirtual 139, 3) := by decide +kernel
theorem dX7_holds_224 : decode cX7_holds 224 = .ok (.ireturn, 1) := by decide +kernel
theorem dX7_holds_225 : decode cX7_holds 225 = .ok (.aload_n 0, 1) := by decide +kernel
theorem dX7_holds_226 : decode cX7_holds 226 = .ok (.aload_n 1, 1) := by decide +kernel
theorem dX7_holds_227 : decode cX7_holds 227 = .ok (.getfield 146, 3) := by decide +kernel
theorem dX7_holds_230 : decode cX7_holds 230 = .ok (.iload_n 3, 1) := by decide +kernel
theorem dX7_holds_231 : decode cX7_holds 231 = .ok (.iaload, 1) := by decide +kernel
theorem dX7_holds_232 : decode cX7_holds 232 = .ok (.iload_n 2, 1) := by decide +kernel
theorem dX7_holds_233 : decode cX7_holds 233 = .ok (.invokevirtual 139, 3) := by decide +kernel
theorem dX7_holds_236 : decode cX7_holds 236 = .ok (.ireturn, 1) := by decide +kernel
theorem dX7_holds_237 : decode cX7_holds 237 = .ok (.aload_n 0, 1) := by decide +kernel
theorem dX7_holds_238 : decode cX7_holds 238 = .ok (.iload_n 3, 1) := by decide +kernel
theorem dX7_holds_239 : decode cX7_holds 239 = .ok (.iload_n 2, 1) := by decide +kernel
theorem dX7_holds_240 : decode cX7_holds 240 = .ok (.invokevirtual 139, 3) := by decide +kernel
theorem dX7_holds_243 : decode cX7_holds 243 = .ok (.ireturn, 1) := by decide +kernel
theorem dX7_personsIn_0 : decode cX7_personsIn 0 = .ok (.aload_n 1, 1) := by decide +kernel
theorem dX7_personsIn_1 : decode cX7_personsIn 1 = .ok (.getfield 100, 3) := by decide +kernel
theorem dX7_personsIn_4 : decode cX7_personsIn 4 = .ok (.invokevirtual 106, 3) := by decide +kernel
theorem dX7_personsIn_7 : decode cX7_personsIn 7 = .ok (.istore_n 2, 1) := by decide +kernel
theorem dX7_personsIn_8 : decode cX7_personsIn 8 = .ok (.iconst (-1), 1) := by decide +kernel
theorem dX7_personsIn_9 : decode cX7_personsIn 9 = .ok (.istore_n 3, 1) := by decide +kernel
theorem dX7_personsIn_10 : decode cX7_personsIn 10 = .ok (.iconst 0, 1) := by decide +kernel
theorem dX7_personsIn_11 : decode cX7_personsIn 11 = .ok (.istore 4, 2) := by decide +kernel
theorem dX7_personsIn_13 : decode cX7_personsIn 13 = .ok (.iload 4, 2) := by decide +kernel
theorem dX7_personsIn_15 : decode cX7_personsIn 15 = .ok (.aload_n 0, 1) := by decide +kernel
theorem dX7_personsIn_16 : decode cX7_personsIn 16 = .ok (.getfield 24, 3) := by decide +kernel
theorem dX7_personsIn_19 : decode cX7_personsIn 19 = .ok (.if_icmp .ge 142, 3) := by decide +kernel
theorem dX7_personsIn_22 : decode cX7_personsIn 22 = .ok (.aload_n 0, 1) := by decide +kernel
theorem dX7_personsIn_23 : decode cX7_personsIn 23 = .ok (.getfield 11, 3) := by decide +kernel
theorem dX7_personsIn_26 : decode cX7_personsIn 26 = .ok (.iload 4, 2) := by decide +kernel
theorem dX7_personsIn_28 : decode cX7_personsIn 28 = .ok (.iaload, 1) := by decide +kernel
theorem dX7_personsIn_29 : decode cX7_personsIn 29 = .ok (.istore 5, 2) := by decide +kernel
theorem dX7_personsIn_31 : decode cX7_personsIn 31 = .ok (.iload 5, 2) := by decide +kernel
theorem dX7_personsIn_33 : decode cX7_personsIn 33 = .ok (.bipush 19, 2) := by decide +kernel
theorem dX7_personsIn_35 : decode cX7_personsIn 35 = .ok (.if_icmp .ne 26, 3) := by decide +kernel
theorem dX7_personsIn_38 : decode cX7_personsIn 38 = .ok (.iload_n 3, 1) := by decide +kernel
theorem dX7_personsIn_39 : decode cX7_personsIn 39 = .ok (.ifCond .lt 22, 3) := by decide +kernel
theorem dX7_personsIn_42 : decode cX7_personsIn 42 = .ok (.aload_n 0, 1) := by decide +kernel
theorem dX7_personsIn_43 : decode cX7_personsIn 43 = .ok (.getfield 21, 3) := by decide +kernel
theorem dX7_personsIn_46 : decode cX7_personsIn 46 = .ok (.iload_n 3, 1) := by decide +kernel
theorem dX7_personsIn_47 : decode cX7_personsIn 47 = .ok (.iload_n 2, 1) := by decide +kernel
theorem dX7_personsIn_48 : decode cX7_personsIn 48 = .ok (.aload_n 0, 1) := by decide +kernel
theorem dX7_personsIn_49 : decode cX7_personsIn 49 = .ok (.getfield 21, 3) := by decide +kernel
theorem dX7_personsIn_52 : decode cX7_personsIn 52 = .ok (.iload_n 3, 1) := by decide +kernel
theorem dX7_personsIn_53 : decode cX7_personsIn 53 = .ok (.iaload, 1) := by decide +kernel
theorem dX7_personsIn_54 : decode cX7_personsIn 54 = .ok (.iconst (-1), 1) := by decide +kernel
theorem dX7_personsIn_55 : decode cX7_personsIn 55 = .ok (.ixor, 1) := by decide +kernel
theorem dX7_personsIn_56 : decode cX7_personsIn 56 = .ok (.iand, 1) := by decide +kernel
theorem dX7_personsIn_57 : decode cX7_personsIn 57 = .ok (.iastore, 1) := by decide +kernel
theorem dX7_personsIn_58 : decode cX7_personsIn 58 = .ok (.goto 97, 3) := by decide +kernel
theorem dX7_personsIn_61 : decode cX7_personsIn 61 = .ok (.iload 5, 2) := by decide +kernel
theorem dX7_personsIn_63 : decode cX7_personsIn 63 = .ok (.bipush 17, 2) := by decide +kernel
theorem dX7_personsIn_65 : decode cX7_personsIn 65 = .ok (.if_icmp .ne 31, 3) := by decide +kernel
theorem dX7_personsIn_68 : decode cX7_personsIn 68 = .ok (.iload_n 3, 1) := by decide +kernel
theorem dX7_personsIn_69 : decode cX7_personsIn 69 = .ok (.iconst 1, 1) := by decide +kernel
theorem dX7_personsIn_70 : decode cX7_personsIn 70 = .ok (.if_icmp .lt 26, 3) := by decide +kernel
theorem dX7_personsIn_73 : decode cX7_personsIn 73 = .ok (.iinc 3 (-1), 3) := by decide +kernel
theorem dX7_personsIn_76 : decode cX7_personsIn 76 = .ok (.aload_n 0, 1) := by decide +kernel
theorem dX7_personsIn_77 : decode cX7_personsIn 77 = .ok (.getfield 21, 3) := by decide +kernel
theorem dX7_personsIn_80 : decode cX7_personsIn 80 = .ok (.iload_n 3, 1) := by decide +kernel
theorem dX7_personsIn_81 : decode cX7_personsIn 81 = .ok (.dup2, 1) := by decide +kernel
theorem dX7_personsIn_82 : decode cX7_personsIn 82 = .ok (.iaload, 1) := by decide +kernel
theorem dX7_personsIn_83 : decode cX7_personsIn 83 = .ok (.aload_n 0, 1) := by decide +kernel
theorem dX7_personsIn_84 : decode cX7_personsIn 84 = .ok (.getfield 21, 3) := by decide +kernel
theorem dX7_personsIn_87 : decode cX7_personsIn 87 = .ok (.iload_n 3, 1) := by decide +kernel
theorem dX7_personsIn_88 : decode cX7_personsIn 88 = .ok (.iconst 1, 1) := by decide +kernel
theorem dX7_personsIn_89 : decode cX7_personsIn 89 = .ok (.iadd, 1) := by decide +kernel
theorem dX7_personsIn_90 : decode cX7_personsIn 90 = .ok (.iaload, 1) := by decide +kernel
theorem dX7_personsIn_91 : decode cX7_personsIn 91 = .ok (.ior, 1) := by decide +kernel
theorem dX7_personsIn_92 : decode cX7_personsIn 92 = .ok (.iastore, 1) := by decide +kernel
theorem dX7_personsIn_93 : decode cX7_personsIn 93 = .ok (.goto 62, 3) := by decide +kernel
theorem dX7_personsIn_96 : decode cX7_personsIn 96 = .ok (.iload 5, 2) := by decide +kernel
theorem dX7_personsIn_98 : decode cX7_personsIn 98 = .ok (.bipush 18, 2) := by decide +kernel
theorem dX7_personsIn_100 : decode cX7_personsIn 100 = .ok (.if_icmp .ne 31, 3) := by decide +kernel
theorem dX7_personsIn_103 : decode cX7_personsIn 103 = .ok (.iload_n 3, 1) := by decide +kernel
theorem dX7_personsIn_104 : decode cX7_personsIn 104 = .ok (.iconst 1, 1) := by decide +kernel
theorem dX7_personsIn_105 : decode cX7_personsIn 105 = .ok (.if_icmp .lt 26, 3) := by decide +kernel
theorem dX7_personsIn_108 : decode cX7_personsIn 108 = .ok (.iinc 3 (-1), 3) := by decide +kernel
theorem dX7_personsIn_111 : decode cX7_personsIn 111 = .ok (.aload_n 0, 1) := by decide +kernel
theorem dX7_personsIn_112 : decode cX7_personsIn 112 = .ok (.getfield 21, 3) := by decide +kernel
theorem dX7_personsIn_115 : decode cX7_personsIn 115 = .ok (.iload_n 3, 1) := by decide +kernel
theorem dX7_personsIn_116 : decode cX7_personsIn 116 = .ok (.dup2, 1) := by decide +kernel
theorem dX7_personsIn_117 : decode cX7_personsIn 117 = .ok (.iaload, 1) := by decide +kernel
theorem dX7_personsIn_118 : decode cX7_personsIn 118 = .ok (.aload_n 0, 1) := by decide +kernel
theorem dX7_personsIn_119 : decode cX7_personsIn 119 = .ok (.getfield 21, 3) := by decide +kernel
theorem dX7_personsIn_122 : decode cX7_personsIn 122 = .ok (.iload_n 3, 1) := by decide +kernel
theorem dX7_personsIn_123 : decode cX7_personsIn 123 = .ok (.iconst 1, 1) := by decide +kernel
theorem dX7_personsIn_124 : decode cX7_personsIn 124 = .ok (.iadd, 1) := by decide +kernel
theorem dX7_personsIn_125 : decode cX7_personsIn 125 = .ok (.iaload, 1) := by decide +kernel
theorem dX7_personsIn_126 : decode cX7_personsIn 126 = .ok (.iand, 1) := by decide +kernel
theorem dX7_personsIn_127 : decode cX7_personsIn 127 = .ok (.iastore, 1) := by decide +kernel
theorem dX7_personsIn_128 : decode cX7_personsIn 128 = .ok (.goto 27, 3) := by decide +kernel
theorem dX7_personsIn_131 : decode cX7_personsIn 131 = .ok (.iload_n 3, 1) := by decide +kernel
theorem dX7_personsIn_132 : decode cX7_personsIn 132 = .ok (.iconst 1, 1) := by decide +kernel
theorem dX7_personsIn_133 : decode cX7_personsIn 133 = .ok (.iadd, 1) := by decide +kernel
theorem dX7_personsIn_134 : decode cX7_personsIn 134 = .ok (.bipush 40, 2) := by decide +kernel
theorem dX7_personsIn_136 : decode cX7_personsIn 136 = .ok (.if_icmp .ge 19, 3) := by decide +kernel
theorem dX7_personsIn_139 : decode cX7_personsIn 139 = .ok (.iinc 3 1, 3) := by decide +kernel
theorem dX7_personsIn_142 : decode cX7_personsIn 142 = .ok (.aload_n 0, 1) := by decide +kernel
theorem dX7_personsIn_143 : decode cX7_personsIn 143 = .ok (.getfield 21, 3) := by decide +kernel
theorem dX7_personsIn_146 : decode cX7_personsIn 146 = .ok (.iload_n 3, 1) := by decide +kernel
theorem dX7_personsIn_147 : decode cX7_personsIn 147 = .ok (.aload_n 0, 1) := by decide +kernel
theorem dX7_personsIn_148 : decode cX7_personsIn 148 = .ok (.aload_n 1, 1) := by decide +kernel
theorem dX7_personsIn_149 : decode cX7_personsIn 149 = .ok (.iload 4, 2) := by decide +kernel
theorem dX7_personsIn_151 : decode cX7_personsIn 151 = .ok (.invokevirtual 110, 3) := by decide +kernel
theorem dX7_personsIn_154 : decode cX7_personsIn 154 = .ok (.iastore, 1) := by decide +kernel
theorem dX7_personsIn_155 : decode cX7_personsIn 155 = .ok (.iinc 4 1, 3) := by decide +kernel
theorem dX7_personsIn_158 : decode cX7_personsIn 158 = .ok (.goto (-145), 3) := by decide +kernel
theorem dX7_personsIn_161 : decode cX7_personsIn 161 = .ok (.iload_n 3, 1) := by decide +kernel
theorem dX7_personsIn_162 : decode cX7_personsIn 162 = .ok (.ifCond .lt 12, 3) := by decide +kernel
theorem dX7_personsIn_165 : decode cX7_personsIn 165 = .ok (.aload_n 0, 1) := by decide +kernel
theorem dX7_personsIn_166 : decode cX7_personsIn 166 = .ok (.getfield 21, 3) := by decide +kernel
theorem dX7_personsIn_169 : decode cX7_personsIn 169 = .ok (.iload_n 3, 1) := by decide +kernel
theorem dX7_personsIn_170 : decode cX7_personsIn 170 = .ok (.iaload, 1) := by decide +kernel
theorem dX7_personsIn_171 : decode cX7_personsIn 171 = .ok (.goto 4, 3) := by decide +kernel
theorem dX7_personsIn_174 : decode cX7_personsIn 174 = .ok (.iconst 0, 1) := by decide +kernel
theorem dX7_personsIn_175 : decode cX7_personsIn 175 = .ok (.ireturn, 1) := by decide +kernel
theorem dX7_readFrom_0 : decode cX7_readFrom 0 = .ok (.aload_n 0, 1) := by decide +kernel
theorem dX7_readFrom_1 : decode cX7_readFrom 1 = .ok (.invokevirtual 37, 3) := by decide +kernel
theorem dX7_readFrom_4 : decode cX7_readFrom 4 = .ok (.aload_n 1, 1) := by decide +kernel
theorem dX7_readFrom_5 : decode cX7_readFrom 5 = .ok (.sipush 200, 3) := by decide +kernel
theorem dX7_readFrom_8 : decode cX7_readFrom 8 = .ok (.invokevirtual 40, 3) := by decide +kernel
theorem dX7_readFrom_11 : decode cX7_readFrom 11 = .ok (.aload_n 0, 1) := by decide +kernel
theorem dX7_readFrom_12 : decode cX7_readFrom 12 = .ok (.aload_n 1, 1) := by decide +kernel
theorem dX7_readFrom_13 : decode cX7_readFrom 13 = .ok (.aload_n 2, 1) := by decide +kernel
theorem dX7_readFrom_14 : decode cX7_readFrom 14 = .ok (.iconst 1, 1) := by decide +kernel
theorem dX7_readFrom_15 : decode cX7_readFrom 15 = .ok (.invokevirtual 46, 3) := by decide +kernel
theorem dX7_readFrom_18 : decode cX7_readFrom 18 = .ok (.ifCond .eq 16, 3) := by decide +kernel
theorem dX7_readFrom_21 : decode cX7_readFrom 21 = .ok (.aload_n 1, 1) := by decide +kernel
theorem dX7_readFrom_22 : decode cX7_readFrom 22 = .ok (.bipush 102, 2) := by decide +kernel
theorem dX7_readFrom_24 : decode cX7_readFrom 24 = .ok (.invokevirtual 50, 3) := by decide +kernel
theorem dX7_readFrom_27 : decode cX7_readFrom 27 = .ok (.ifCond .eq 7, 3) := by decide +kernel
theorem dX7_readFrom_30 : decode cX7_readFrom 30 = .ok (.iconst 1, 1) := by decide +kernel
theorem dX7_readFrom_31 : decode cX7_readFrom 31 = .ok (.goto 4, 3) := by decide +kernel
theorem dX7_readFrom_34 : decode cX7_readFrom 34 = .ok (.iconst 0, 1) := by decide +kernel
theorem dX7_readFrom_35 : decode cX7_readFrom 35 = .ok (.ireturn, 1) := by decide +kernel
theorem dX7_thoseOf_0 : decode cX7_thoseOf 0 = .ok (.iconst 0, 1) := by decide +kernel
theorem dX7_thoseOf_1 : decode cX7_thoseOf 1 = .ok (.istore_n 3, 1) := by decide +kernel
theorem dX7_thoseOf_2 : decode cX7_thoseOf 2 = .ok (.iconst 0, 1) := by decide +kernel
theorem dX7_thoseOf_3 : decode cX7_thoseOf 3 = .ok (.istore 4, 2) := by decide +kernel
theorem dX7_thoseOf_5 : decode cX7_thoseOf 5 = .ok (.iload 4, 2) := by decide +kernel
theorem dX7_thoseOf_7 : decode cX7_thoseOf 7 = .ok (.aload_n 1, 1) := by decide +kernel
theorem dX7_thoseOf_8 : decode cX7_thoseOf 8 = .ok (.getfield 100, 3) := by decide +kernel
theorem dX7_thoseOf_11 : decode cX7_thoseOf 11 = .ok (.getfield 114, 3) := by decide +kernel
theorem dX7_thoseOf_14 : decode cX7_thoseOf 14 = .ok (.if_icmp .ge 27, 3) := by decide +kernel
theorem dX7_thoseOf_17 : decode cX7_thoseOf 17 = .ok (.aload_n 0, 1) := by decide +kernel
theorem dX7_thoseOf_18 : decode cX7_thoseOf 18 = .ok (.aload_n 1, 1) := by decide +kernel
theorem dX7_thoseOf_19 : decode cX7_thoseOf 19 = .ok (.iload_n 2, 1) := by decide +kernel
theorem dX7_thoseOf_20 : decode cX7_thoseOf 20 = .ok (.iload 4, 2) := by decide +kernel
theorem dX7_thoseOf_22 : decode cX7_thoseOf 22 = .ok (.invokevirtual 117, 3) := by decide +kernel
theorem dX7_thoseOf_25 : decode cX7_thoseOf 25 = .ok (.ifCond .eq 10, 3) := by decide +kernel
theorem dX7_thoseOf_28 : decode cX7_thoseOf 28 = .ok (.iload_n 3, 1) := by decide +kernel
theorem dX7_thoseOf_29 : decode cX7_thoseOf 29 = .ok (.iconst 1, 1) := by decide +kernel
theorem dX7_thoseOf_30 : decode cX7_thoseOf 30 = .ok (.iload 4, 2) := by decide +kernel
theorem dX7_thoseOf_32 : decode cX7_thoseOf 32 = .ok (.ishl, 1) := by decide +kernel
theorem dX7_thoseOf_33 : decode cX7_thoseOf 33 = .ok (.ior, 1) := by decide +kernel
theorem dX7_thoseOf_34 : decode cX7_thoseOf 34 = .ok (.istore_n 3, 1) := by decide +kernel
theorem dX7_thoseOf_35 : decode cX7_thoseOf 35 = .ok (.iinc 4 1, 3) := by decide +kernel
theorem dX7_thoseOf_38 : decode cX7_thoseOf 38 = .ok (.goto (-33), 3) := by decide +kernel
theorem dX7_thoseOf_41 : decode cX7_thoseOf 41 = .ok (.iload_n 3, 1) := by decide +kernel
theorem dX7_thoseOf_42 : decode cX7_thoseOf 42 = .ok (.ireturn, 1) := by decide +kernel
set_option maxRecDepth 100000 in
set_option maxHeartbeats 8000000 in
theorem c_X7_readCond_3 {l : Launch} {D : va_G} {cy : Nat → ClassId} {L : List Nat} {κ ln : Nat → Nat} {R : Nat → Nat → Option Nat} {I : Nat → Nat → Int32} {J : Nat → Nat → Int64} {ow : Nat → Nat × Nat} (W9 : ∀ a ∈ L, Shp L κ ln R ow a) {x : Nat} (hLx : x ∈ L) (hkx : κ x = 7) {a0 : Nat} (hLa0 : a0 ∈ L) (hka0 : κ a0 = 10) {a1 : Nat} (hLa1 : a1 ∈ L) (hka1 : κ a1 = 8) (a2 : Int32) (ra2 : Rg 3 3 a2) (hU : Iv L κ R ow I) : CtI l yX7_readCond cX7_readCond 6 (some .boolean) { frames := 21, cells := 0, slots := 0, locals := 514 } D cy L κ ln R I J [.ref x, .ref a0, .ref a1, .int a2] (fun r I2 J2 => Iv L κ R ow I2 ∧ Fq L κ ow [704, 705, 1007, 1008, 1009, 1011, 1012, 52000, 52100, 52200] I I2 ∧ Fq L κ ow [1010] J J2 ∧ Rg 0 1 r ∧ ((r, TPf R I2 J2 a0, SPf R I2 J2 x) = fCond 6 (TBf R I J a1) (TPf R I J a0) (SPf R I J x))) := by
  refine CtI.of (by decide +kernel) (Nat.le_of_ble_eq_true rfl) ?_
  intro p e s m below meth c B K
  have C := B.1
  have hF : Fq L κ ow [704, 705, 1007, 1008, 1009, 1011, 1012, 52000, 52100, 52200] I I := fq_rf
  have hG : Fq L κ ow [1010] J J := fq_rf
  obtain ⟨b_1, hb_1, hb_1L, hb_1k, hb_1n, hb_1o⟩ := shp_a (W9 a1 hLa1) hka1 0 15 7 rfl (by decide)
  obtain ⟨b_2, hb_2, hb_2L, hb_2k, hb_2n, hb_2o⟩ := shp_a (W9 a1 hLa1) hka1 2 14 7 rfl (by decide)
  obtain ⟨b_3, hb_3, hb_3L, hb_3k, hb_3n, hb_3o⟩ := shp_a (W9 a1 hLa1) hka1 3 15 6 rfl (by decide)
  have ebqa1 : ∀ I J, TBf R I J a1 = TBq I J a1 b_1 b_2 b_3 := fun I J => by simp only [TBf, rr_, Option.getD_some, hb_1, hb_2, hb_3]
  have wbqa1 : bqw_ L κ ow a1 b_1 b_2 b_3 := ⟨⟨hLa1, hb_1L, hb_2L, hb_3L⟩, ⟨(ro_o hka1 (by decide)), (ro_a hb_1k (by decide) hb_1o hka1 rfl), (ro_a hb_2k (by decide) hb_2o hka1 rfl), (ro_a hb_3k (by decide) hb_3o hka1 rfl)⟩⟩
  obtain ⟨s_4, hs_4⟩ : ∃ z, TBq I J a1 b_1 b_2 b_3 = z := ⟨_, rfl⟩
  obtain ⟨b_5, hb_5, hb_5L, hb_5k, hb_5n, hb_5o⟩ := shp_a (W9 a0 hLa0) hka0 0 13 940 rfl (by decide)
  obtain ⟨b_6, hb_6, hb_6L, hb_6k, hb_6n, hb_6o⟩ := shp_a (W9 a0 hLa0) hka0 1 15 28 rfl (by decide)
  obtain ⟨b_7, hb_7, hb_7L, hb_7k, hb_7n, hb_7o⟩ := shp_a (W9 a0 hLa0) hka0 2 14 901 rfl (by decide)
  obtain ⟨b_8, hb_8, hb_8L, hb_8k, hb_8n, hb_8o⟩ := shp_a (W9 a0 hLa0) hka0 3 14 901 rfl (by decide)
  obtain ⟨b_9, hb_9, hb_9L, hb_9k, hb_9n, hb_9o⟩ := shp_a (W9 a0 hLa0) hka0 4 15 901 rfl (by decide)
  have etqa0 : ∀ I J, TPf R I J a0 = TPq I J a0 b_5 b_6 b_7 b_8 b_9 := fun I J => by simp only [TPf, rr_, Option.getD_some, hb_5, hb_6, hb_7, hb_8, hb_9]
  have wtqa0 : tqw_ L κ ow a0 b_5 b_6 b_7 b_8 b_9 := ⟨⟨hLa0, hb_5L, hb_6L, hb_7L, hb_8L, hb_9L⟩, ⟨(ro_o hka0 (by decide)), (ro_a hb_5k (by decide) hb_5o hka0 rfl), (ro_a hb_6k (by decide) hb_6o hka0 rfl), (ro_a hb_7k (by decide) hb_7o hka0 rfl), (ro_a hb_8k (by decide) hb_8o hka0 rfl), (ro_a hb_9k (by decide) hb_9o hka0 rfl)⟩⟩
  obtain ⟨s_10, hs_10⟩ : ∃ z, TPq I J a0 b_5 b_6 b_7 b_8 b_9 = z := ⟨_, rfl⟩
  have esqx : ∀ I J, SPf R I J x = SPq I J x := fun I J => by simp only [SPf, rr_, Option.getD_some]
  have wsqx : sqw_ L κ ow x := ⟨hLx, (ro_o hkx (by decide))⟩
  obtain ⟨s_11, hs_11⟩ : ∃ z, SPq I J x = z := ⟨_, rfl⟩
  refine g_lo (is := [0, 1, 2, 3]) (lo2 := [(0, .ref x), (1, .ref a0), (2, .ref a1), (3, .int a2)]) rfl ?_
  have l_12 : ∀ (n_12 : Nat) (I_12 : Nat → Nat → Int32) (J_13 : Nat → Nat → Int64) (hU_14 : Iv L κ R ow I_12) (hF_15 : Fq L κ ow [704, 705, 1007, 1008, 1009, 1011, 1012, 52000, 52100, 52200] I I_12) (hG_16 : Fq L κ ow [1010] J J_13) (v_17 : Int32) (rv_17 : Rg 0 1 v_17) (v_18 : Int32) (rv_18 : Rg 0 20 v_18) (hq_19 : fLp (fAll 6 (TBq I_12 J_13 a1 b_1 b_2 b_3)) 17 v_18 v_17 (TPq I_12 J_13 a0 b_5 b_6 b_7 b_8 b_9) (SPq I_12 J_13 x) = fCond 6 s_4 s_10 s_11) (hm_20 : 20 < (v_18 : Int32).toInt + (n_12 : Int)), WG p l e { frames := 21, cells := 0, slots := 0, locals := 514 } s m ([.ref x, .ref a0, .ref a1, .int a2] : List Value).toArray below meth c 6 0 0 (MQ below (Qi_ D cy L κ ln R (fun r I2 J2 => Iv L κ R ow I2 ∧ Fq L κ ow [704, 705, 1007, 1008, 1009, 1011, 1012, 52000, 52100, 52200] I I2 ∧ Fq L κ ow [1010] J J2 ∧ Rg 0 1 r ∧ ((r, TPf R I2 J2 a0, SPf R I2 J2 x) = fCond 6 (TBf R I J a1) (TPf R I J a0) (SPf R I J x)))) ([.ref x, .ref a0, .ref a1, .int a2] : List Value).toArray s 0 0 (Al_ L)) D cy (Al_ L) s.heap L κ ln R I_12 J_13 12 [(0, .ref x), (1, .ref a0), (2, .ref a1), (3, .int a2), (4, .int v_17), (5, .int v_18)] [] := by
    intro n_12
    induction n_12 with
    | zero =>
      intro I_12 J_13 hU_14 hF_15 hG_16 v_17 rv_17 v_18 rv_18 hq_19 hm_20
      exact ms_0 rv_18 hm_20
    | succ n_12 ih_12 =>
      intro I_12 J_13 hU_14 hF_15 hG_16 v_17 rv_17 v_18 rv_18 hq_19 hm_20
      obtain ⟨s_21, hs_21⟩ : ∃ z, TBq I_12 J_13 a1 b_1 b_2 b_3 = z := ⟨_, rfl⟩
      obtain ⟨s_22, hs_22⟩ : ∃ z, TPq I_12 J_13 a0 b_5 b_6 b_7 b_8 b_9 = z := ⟨_, rfl⟩
      obtain ⟨s_23, hs_23⟩ : ∃ z, SPq I_12 J_13 x = z := ⟨_, rfl⟩
      simp only [hs_21, hs_22, hs_23] at hq_19
      have hQ_24 := hq_19.symm
      have u_25 := fLp_eq (rd := fAll 6 s_21) (k := 17) (i := v_18) (r := v_17) (t := s_22) (s := s_23) (rv_18)
      refine g_iload C 5 dX7_readCond_12 rfl ?_
      refine g_bipush C (v := 20) dX7_readCond_14 (by decide) ?_
      refine g_icmp_ge C (tgt := 71) dX7_readCond_16 (by decide) (fun h_26 => ?_) (fun h_26 => ?_)
      · skip
        have r_27 := le_r (h_26) rc_20 rv_18
        refine g_iload C 4 dX7_readCond_71 rfl ?_
        exact g_zret (ty := .boolean) (r := v_17) B K rfl (nar_z (rv_17)) ⟨hU_14, hF_15, hG_16, rv_17, (by (try simp only [h_26, if_true, if_false, bqM_pnm, bqM_par, bqM_dnm, bqM_persons, bqM_dishes, bqM_law, bqM_dogs, TB_.w_pnm, TB_.w_par, TB_.w_dnm, TB_.w_persons, TB_.w_dishes, TB_.w_law, TB_.w_dogs, sqM_sl, sqM_so, SP_.w_sl, SP_.w_so, tqM_by_, tqM_wd, tqM_tk, tqM_pl, tqM_vl, tqM_len, tqM_n, tqM_at_, tqM_token, tqM_place, tqM_value, tqM_fault, tqM_fat, TP_.w_by_, TP_.w_wd, TP_.w_tk, TP_.w_pl, TP_.w_vl, TP_.w_len, TP_.w_n, TP_.w_at_, TP_.w_token, TP_.w_place, TP_.w_value, TP_.w_fault, TP_.w_fat] at hQ_24); (try simp only [h_26, if_true, if_false, bqM_pnm, bqM_par, bqM_dnm, bqM_persons, bqM_dishes, bqM_law, bqM_dogs, TB_.w_pnm, TB_.w_par, TB_.w_dnm, TB_.w_persons, TB_.w_dishes, TB_.w_law, TB_.w_dogs, sqM_sl, sqM_so, SP_.w_sl, SP_.w_so, tqM_by_, tqM_wd, tqM_tk, tqM_pl, tqM_vl, tqM_len, tqM_n, tqM_at_, tqM_token, tqM_place, tqM_value, tqM_fault, tqM_fat, TP_.w_by_, TP_.w_wd, TP_.w_tk, TP_.w_pl, TP_.w_vl, TP_.w_len, TP_.w_n, TP_.w_at_, TP_.w_token, TP_.w_place, TP_.w_value, TP_.w_fault, TP_.w_fat] at u_25); simp only [ebqa1, hs_21, hs_4, etqa0, hs_22, hs_10, esqx, hs_23, hs_11, hQ_24, u_25, h_26, if_true, if_false, bqM_pnm, bqM_par, bqM_dnm, bqM_persons, bqM_dishes, bqM_law, bqM_dogs, TB_.w_pnm, TB_.w_par, TB_.w_dnm, TB_.w_persons, TB_.w_dishes, TB_.w_law, TB_.w_dogs, sqM_sl, sqM_so, SP_.w_sl, SP_.w_so, tqM_by_, tqM_wd, tqM_tk, tqM_pl, tqM_vl, tqM_len, tqM_n, tqM_at_, tqM_token, tqM_place, tqM_value, tqM_fault, tqM_fat, TP_.w_by_, TP_.w_wd, TP_.w_tk, TP_.w_pl, TP_.w_vl, TP_.w_len, TP_.w_n, TP_.w_at_, TP_.w_token, TP_.w_place, TP_.w_value, TP_.w_fault, TP_.w_fat])⟩ dX7_readCond_73
      · skip
        have r_28 := lt_l (hi := 19) (nle h_26) rv_18 rc_20 (by decide)
        refine g_iload C 4 dX7_readCond_19 rfl ?_
        refine g_if_eq C (tgt := 71) dX7_readCond_21 (by decide) (fun h_29 => ?_) (fun h_29 => ?_)
        · skip
          have r_30 := (⟨(rv_17).1, (eq_rg (h_29) rc_0).2⟩ : Rg 0 0 v_17)
          refine g_iload C 4 dX7_readCond_71 rfl ?_
          exact g_zret (ty := .boolean) (r := v_17) B K rfl (nar_z (rg_w r_30 (by decide) (by decide))) ⟨hU_14, hF_15, hG_16, rg_w r_30 (by decide) (by decide), (by (try simp only [h_26, (nle h_26), (eq_true h_29), if_true, if_false, bqM_pnm, bqM_par, bqM_dnm, bqM_persons, bqM_dishes, bqM_law, bqM_dogs, TB_.w_pnm, TB_.w_par, TB_.w_dnm, TB_.w_persons, TB_.w_dishes, TB_.w_law, TB_.w_dogs, sqM_sl, sqM_so, SP_.w_sl, SP_.w_so, tqM_by_, tqM_wd, tqM_tk, tqM_pl, tqM_vl, tqM_len, tqM_n, tqM_at_, tqM_token, tqM_place, tqM_value, tqM_fault, tqM_fat, TP_.w_by_, TP_.w_wd, TP_.w_tk, TP_.w_pl, TP_.w_vl, TP_.w_len, TP_.w_n, TP_.w_at_, TP_.w_token, TP_.w_place, TP_.w_value, TP_.w_fault, TP_.w_fat] at hQ_24); (try simp only [h_26, (nle h_26), (eq_true h_29), if_true, if_false, bqM_pnm, bqM_par, bqM_dnm, bqM_persons, bqM_dishes, bqM_law, bqM_dogs, TB_.w_pnm, TB_.w_par, TB_.w_dnm, TB_.w_persons, TB_.w_dishes, TB_.w_law, TB_.w_dogs, sqM_sl, sqM_so, SP_.w_sl, SP_.w_so, tqM_by_, tqM_wd, tqM_tk, tqM_pl, tqM_vl, tqM_len, tqM_n, tqM_at_, tqM_token, tqM_place, tqM_value, tqM_fault, tqM_fat, TP_.w_by_, TP_.w_wd, TP_.w_tk, TP_.w_pl, TP_.w_vl, TP_.w_len, TP_.w_n, TP_.w_at_, TP_.w_token, TP_.w_place, TP_.w_value, TP_.w_fault, TP_.w_fat] at u_25); simp only [ebqa1, hs_21, hs_4, etqa0, hs_22, hs_10, esqx, hs_23, hs_11, hQ_24, u_25, h_26, (nle h_26), (eq_true h_29), if_true, if_false, bqM_pnm, bqM_par, bqM_dnm, bqM_persons, bqM_dishes, bqM_law, bqM_dogs, TB_.w_pnm, TB_.w_par, TB_.w_dnm, TB_.w_persons, TB_.w_dishes, TB_.w_law, TB_.w_dogs, sqM_sl, sqM_so, SP_.w_sl, SP_.w_so, tqM_by_, tqM_wd, tqM_tk, tqM_pl, tqM_vl, tqM_len, tqM_n, tqM_at_, tqM_token, tqM_place, tqM_value, tqM_fault, tqM_fat, TP_.w_by_, TP_.w_wd, TP_.w_tk, TP_.w_pl, TP_.w_vl, TP_.w_len, TP_.w_n, TP_.w_at_, TP_.w_token, TP_.w_place, TP_.w_value, TP_.w_fault, TP_.w_fat])⟩ dX7_readCond_73
        · skip
          have n_31 : ¬ v_17 = 0 := h_29
          have r_32 := ne_lo (lo := 1) n_31 rv_17 rc_0 rfl (by decide)
          refine g_aload_n C 1 dX7_readCond_24 rfl rfl ?_
          obtain ⟨x_33, hx_33, rx_33⟩ := ex_get (I := I_12) (a := a0) (j := 8) (lo := (-2147483648)) (hi := 2147483647) hU_14.1 hLa0 (ro_o hka0 (by decide)) rfl
          have f_34 : s_22.token = x_33 := (congrArg TP_.token hs_22).symm.trans hx_33
          refine g_getI C K hLa0 hka0 f_7_57 (v := x_33) hx_33 dX7_readCond_25 ?_
          refine g_bipush C (v := 17) dX7_readCond_28 (by decide) ?_
          refine g_icmp_ne C (tgt := 71) dX7_readCond_30 (by decide) (fun h_35 => ?_) (fun h_35 => ?_)
          · skip
            have n_36 : ¬ x_33 = 17 := h_35
            refine g_iload C 4 dX7_readCond_71 rfl ?_
            exact g_zret (ty := .boolean) (r := v_17) B K rfl (nar_z (rg_w r_32 (by decide) (by decide))) ⟨hU_14, hF_15, hG_16, rg_w r_32 (by decide) (by decide), (by (try simp only [h_26, (nle h_26), h_29, hx_33, f_34, h_35, if_true, if_false, bqM_pnm, bqM_par, bqM_dnm, bqM_persons, bqM_dishes, bqM_law, bqM_dogs, TB_.w_pnm, TB_.w_par, TB_.w_dnm, TB_.w_persons, TB_.w_dishes, TB_.w_law, TB_.w_dogs, sqM_sl, sqM_so, SP_.w_sl, SP_.w_so, tqM_by_, tqM_wd, tqM_tk, tqM_pl, tqM_vl, tqM_len, tqM_n, tqM_at_, tqM_token, tqM_place, tqM_value, tqM_fault, tqM_fat, TP_.w_by_, TP_.w_wd, TP_.w_tk, TP_.w_pl, TP_.w_vl, TP_.w_len, TP_.w_n, TP_.w_at_, TP_.w_token, TP_.w_place, TP_.w_value, TP_.w_fault, TP_.w_fat] at hQ_24); (try simp only [h_26, (nle h_26), h_29, hx_33, f_34, h_35, if_true, if_false, bqM_pnm, bqM_par, bqM_dnm, bqM_persons, bqM_dishes, bqM_law, bqM_dogs, TB_.w_pnm, TB_.w_par, TB_.w_dnm, TB_.w_persons, TB_.w_dishes, TB_.w_law, TB_.w_dogs, sqM_sl, sqM_so, SP_.w_sl, SP_.w_so, tqM_by_, tqM_wd, tqM_tk, tqM_pl, tqM_vl, tqM_len, tqM_n, tqM_at_, tqM_token, tqM_place, tqM_value, tqM_fault, tqM_fat, TP_.w_by_, TP_.w_wd, TP_.w_tk, TP_.w_pl, TP_.w_vl, TP_.w_len, TP_.w_n, TP_.w_at_, TP_.w_token, TP_.w_place, TP_.w_value, TP_.w_fault, TP_.w_fat] at u_25); simp only [ebqa1, hs_21, hs_4, etqa0, hs_22, hs_10, esqx, hs_23, hs_11, hQ_24, u_25, h_26, (nle h_26), h_29, hx_33, f_34, h_35, if_true, if_false, bqM_pnm, bqM_par, bqM_dnm, bqM_persons, bqM_dishes, bqM_law, bqM_dogs, TB_.w_pnm, TB_.w_par, TB_.w_dnm, TB_.w_persons, TB_.w_dishes, TB_.w_law, TB_.w_dogs, sqM_sl, sqM_so, SP_.w_sl, SP_.w_so, tqM_by_, tqM_wd, tqM_tk, tqM_pl, tqM_vl, tqM_len, tqM_n, tqM_at_, tqM_token, tqM_place, tqM_value, tqM_fault, tqM_fat, TP_.w_by_, TP_.w_wd, TP_.w_tk, TP_.w_pl, TP_.w_vl, TP_.w_len, TP_.w_n, TP_.w_at_, TP_.w_token, TP_.w_place, TP_.w_value, TP_.w_fault, TP_.w_fat])⟩ dX7_readCond_73
          · skip
            have r_37 := (⟨(eq_rg (h_35) rc_17).1, (eq_rg (h_35) rc_17).2⟩ : Rg 17 17 x_33)
            refine g_aload_n C 1 dX7_readCond_33 rfl rfl ?_
            refine g_callVV C K (c_X10_advance W9 hLa0 hka0   hU_14) hLa0 hka0 (by decide) rfl v_7_60 rfl ⟨rfl, rfl⟩ ⟨Nat.le_of_ble_eq_true rfl, Nat.le_of_ble_eq_true rfl⟩ (Nat.le_of_ble_eq_true rfl) ⟨Nat.le_of_ble_eq_true rfl, Nat.le_of_ble_eq_true rfl⟩ dX7_readCond_34 rfl (st := []) (fun I_39 J_40 h_41 => ?_)
            obtain ⟨hUI_39, hFI_39, hGJ_40, fx_38⟩ := h_41
            have hF_42 := fq_tr hF_15 hFI_39 (by decide)
            have hG_43 := fq_tr hG_16 hGJ_40 (by decide)
            obtain ⟨s_45, hs_45⟩ : ∃ z, TPq I_39 J_40 a0 b_5 b_6 b_7 b_8 b_9 = z := ⟨_, rfl⟩
            have c_44 : fAdvance (s_22) = s_45 := by have q := fx_38; simp only [etqa0, hs_22, hs_45] at q; exact q.symm
            have hs_46 : TBq I_39 J_40 a1 b_1 b_2 b_3 = s_21 := (bq_fq wbqa1 hFI_39 hGJ_40 (by decide) (by decide)).trans hs_21
            have hs_47 : SPq I_39 J_40 x = s_23 := (sq_fq wsqx hFI_39 hGJ_40 (by decide) (by decide)).trans hs_23
            refine g_aload_n C 0 dX7_readCond_37 rfl rfl ?_
            refine g_aload_n C 1 dX7_readCond_38 rfl rfl ?_
            refine g_aload_n C 2 dX7_readCond_39 rfl rfl ?_
            refine g_iload_n C 3 dX7_readCond_40 rfl rfl ?_
            refine g_callVI C K (c_X7_readAll_3 W9 hLx hkx hLa0 hka0 hLa1 hka1 a2 (ra2) hUI_39) hLx hkx (by decide) rfl v_7_54 rfl ⟨rfl, rfl⟩ ⟨Nat.le_of_ble_eq_true rfl, Nat.le_of_ble_eq_true rfl⟩ (Nat.le_of_ble_eq_true rfl) ⟨Nat.le_of_ble_eq_true rfl, Nat.le_of_ble_eq_true rfl⟩ dX7_readCond_41 rfl (st := []) (fun x_48 I_49 J_50 h_51 => ?_)
            obtain ⟨hUI_49, hFI_49, hGJ_50, rx_48, fx_48⟩ := h_51
            have hF_52 := fq_tr hF_42 hFI_49 (by decide)
            have hG_53 := fq_tr hG_43 hGJ_50 (by decide)
            obtain ⟨s_55, hs_55⟩ : ∃ z, TPq I_49 J_50 a0 b_5 b_6 b_7 b_8 b_9 = z := ⟨_, rfl⟩
            obtain ⟨s_56, hs_56⟩ : ∃ z, SPq I_49 J_50 x = z := ⟨_, rfl⟩
            have c_54 : fAll 6 (s_21) (s_45) (s_23) = (x_48, s_55, s_56) := by have q := fx_48; simp only [ebqa1, etqa0, esqx, hs_46, hs_45, hs_47, hs_55, hs_56] at q; exact q.symm
            have hs_57 : TBq I_49 J_50 a1 b_1 b_2 b_3 = s_21 := (bq_fq wbqa1 hFI_49 hGJ_50 (by decide) (by decide)).trans hs_46
            refine g_if_eq C (tgt := 62) dX7_readCond_44 (by decide) (fun h_58 => ?_) (fun h_58 => ?_)
            · skip
              have r_59 := (⟨(rx_48).1, (eq_rg (h_58) rc_0).2⟩ : Rg 0 0 x_48)
              refine g_iconst C (v := 0) dX7_readCond_62 (by decide) ?_
              refine g_istore C dX7_readCond_63 (by decide) (lo2 := [(4, .int 0), (0, .ref x), (1, .ref a0), (2, .ref a1), (3, .int a2), (5, .int v_18)]) rfl ?_
              obtain ⟨x_60, hx_60, rx_60, tx_60⟩ := ex_add (y := 1) 1 20 r_28 rc_1 (by decide) (by decide) (by decide) (by decide)
              refine g_iinc C dX7_readCond_65 (k := 5) (v := x_60) rfl hx_60 (by decide) (lo2 := [(5, .int x_60), (4, .int 0), (0, .ref x), (1, .ref a0), (2, .ref a1), (3, .int a2)]) rfl ?_
              refine g_goto C (tgt := 12) dX7_readCond_68 (by decide) ?_
              refine g_lo (is := [2, 3, 4, 5, 1, 0]) (lo2 := [(0, .ref x), (1, .ref a0), (2, .ref a1), (3, .int a2), (4, .int 0), (5, .int x_60)]) rfl ?_
              exact ih_12 I_49 J_50 hUI_49 hF_52 hG_53 0 (rg_w rc_0 (by decide) (by decide)) x_60 (rg_w rx_60 (by decide) (by decide)) (by (try simp only [h_26, (nle h_26), h_29, hx_33, f_34, (eq_true h_35), c_44, c_54, (eq_true h_58), hx_60, if_true, if_false, bqM_pnm, bqM_par, bqM_dnm, bqM_persons, bqM_dishes, bqM_law, bqM_dogs, TB_.w_pnm, TB_.w_par, TB_.w_dnm, TB_.w_persons, TB_.w_dishes, TB_.w_law, TB_.w_dogs, sqM_sl, sqM_so, SP_.w_sl, SP_.w_so, tqM_by_, tqM_wd, tqM_tk, tqM_pl, tqM_vl, tqM_len, tqM_n, tqM_at_, tqM_token, tqM_place, tqM_value, tqM_fault, tqM_fat, TP_.w_by_, TP_.w_wd, TP_.w_tk, TP_.w_pl, TP_.w_vl, TP_.w_len, TP_.w_n, TP_.w_at_, TP_.w_token, TP_.w_place, TP_.w_value, TP_.w_fault, TP_.w_fat] at hQ_24); (try simp only [h_26, (nle h_26), h_29, hx_33, f_34, (eq_true h_35), c_44, c_54, (eq_true h_58), hx_60, if_true, if_false, bqM_pnm, bqM_par, bqM_dnm, bqM_persons, bqM_dishes, bqM_law, bqM_dogs, TB_.w_pnm, TB_.w_par, TB_.w_dnm, TB_.w_persons, TB_.w_dishes, TB_.w_law, TB_.w_dogs, sqM_sl, sqM_so, SP_.w_sl, SP_.w_so, tqM_by_, tqM_wd, tqM_tk, tqM_pl, tqM_vl, tqM_len, tqM_n, tqM_at_, tqM_token, tqM_place, tqM_value, tqM_fault, tqM_fat, TP_.w_by_, TP_.w_wd, TP_.w_tk, TP_.w_pl, TP_.w_vl, TP_.w_len, TP_.w_n, TP_.w_at_, TP_.w_token, TP_.w_place, TP_.w_value, TP_.w_fault, TP_.w_fat] at u_25); simp only [ebqa1, hs_57, hs_4, etqa0, hs_55, hs_10, esqx, hs_56, hs_11, hQ_24, u_25, h_26, (nle h_26), h_29, hx_33, f_34, (eq_true h_35), c_44, c_54, (eq_true h_58), hx_60, if_true, if_false, bqM_pnm, bqM_par, bqM_dnm, bqM_persons, bqM_dishes, bqM_law, bqM_dogs, TB_.w_pnm, TB_.w_par, TB_.w_dnm, TB_.w_persons, TB_.w_dishes, TB_.w_law, TB_.w_dogs, sqM_sl, sqM_so, SP_.w_sl, SP_.w_so, tqM_by_, tqM_wd, tqM_tk, tqM_pl, tqM_vl, tqM_len, tqM_n, tqM_at_, tqM_token, tqM_place, tqM_value, tqM_fault, tqM_fat, TP_.w_by_, TP_.w_wd, TP_.w_tk, TP_.w_pl, TP_.w_vl, TP_.w_len, TP_.w_n, TP_.w_at_, TP_.w_token, TP_.w_place, TP_.w_value, TP_.w_fault, TP_.w_fat]) (ms_1 hm_20 (ti_k tx_60 rc_1) (by decide))
            · skip
              have n_61 : ¬ x_48 = 0 := h_58
              have r_62 := ne_lo (lo := 1) n_61 rx_48 rc_0 rfl (by decide)
              refine g_aload_n C 0 dX7_readCond_47 rfl rfl ?_
              refine g_bipush C (v := 17) dX7_readCond_48 (by decide) ?_
              refine g_iconst C (v := 0) dX7_readCond_50 (by decide) ?_
              refine g_iconst C (v := 0) dX7_readCond_51 (by decide) ?_
              refine g_callVI C K (c_X7_addStep W9 hLx hkx 17 0 0 (rg_w rc_0 (by decide) (by decide)) hUI_49  (fun q => absurd q (by decide))) hLx hkx (by decide) rfl v_7_63 rfl ⟨rfl, rfl⟩ ⟨Nat.le_of_ble_eq_true rfl, Nat.le_of_ble_eq_true rfl⟩ (Nat.le_of_ble_eq_true rfl) ⟨Nat.le_of_ble_eq_true rfl, Nat.le_of_ble_eq_true rfl⟩ dX7_readCond_52 rfl (st := []) (fun x_63 I_64 J_65 h_66 => ?_)
              obtain ⟨hUI_64, hFI_64, hGJ_65, rx_63, fx_63⟩ := h_66
              have hF_67 := fq_tr hF_52 hFI_64 (by decide)
              have hG_68 := fq_tr hG_53 hGJ_65 (by decide)
              obtain ⟨s_70, hs_70⟩ : ∃ z, SPq I_64 J_65 x = z := ⟨_, rfl⟩
              have c_69 : fAddStep (s_56) = (x_63, s_70) := by have q := fx_63; simp only [esqx, hs_56, hs_70] at q; exact q.symm
              have hs_71 : TBq I_64 J_65 a1 b_1 b_2 b_3 = s_21 := (bq_fq wbqa1 hFI_64 hGJ_65 (by decide) (by decide)).trans hs_57
              have hs_72 : TPq I_64 J_65 a0 b_5 b_6 b_7 b_8 b_9 = s_55 := (tq_fq wtqa0 hFI_64 hGJ_65 (by decide) (by decide)).trans hs_55
              refine g_if_eq C (tgt := 62) dX7_readCond_55 (by decide) (fun h_73 => ?_) (fun h_73 => ?_)
              · skip
                have r_74 := (⟨(rx_63).1, (eq_rg (h_73) rc_0).2⟩ : Rg 0 0 x_63)
                refine g_iconst C (v := 0) dX7_readCond_62 (by decide) ?_
                refine g_istore C dX7_readCond_63 (by decide) (lo2 := [(4, .int 0), (0, .ref x), (1, .ref a0), (2, .ref a1), (3, .int a2), (5, .int v_18)]) rfl ?_
                obtain ⟨x_75, hx_75, rx_75, tx_75⟩ := ex_add (y := 1) 1 20 r_28 rc_1 (by decide) (by decide) (by decide) (by decide)
                refine g_iinc C dX7_readCond_65 (k := 5) (v := x_75) rfl hx_75 (by decide) (lo2 := [(5, .int x_75), (4, .int 0), (0, .ref x), (1, .ref a0), (2, .ref a1), (3, .int a2)]) rfl ?_
                refine g_goto C (tgt := 12) dX7_readCond_68 (by decide) ?_
                refine g_lo (is := [2, 3, 4, 5, 1, 0]) (lo2 := [(0, .ref x), (1, .ref a0), (2, .ref a1), (3, .int a2), (4, .int 0), (5, .int x_75)]) rfl ?_
                exact ih_12 I_64 J_65 hUI_64 hF_67 hG_68 0 (rg_w rc_0 (by decide) (by decide)) x_75 (rg_w rx_75 (by decide) (by decide)) (by (try simp only [h_26, (nle h_26), h_29, hx_33, f_34, (eq_true h_35), c_44, c_54, h_58, c_69, (eq_true h_73), hx_75, if_true, if_false, bqM_pnm, bqM_par, bqM_dnm, bqM_persons, bqM_dishes, bqM_law, bqM_dogs, TB_.w_pnm, TB_.w_par, TB_.w_dnm, TB_.w_persons, TB_.w_dishes, TB_.w_law, TB_.w_dogs, sqM_sl, sqM_so, SP_.w_sl, SP_.w_so, tqM_by_, tqM_wd, tqM_tk, tqM_pl, tqM_vl, tqM_len, tqM_n, tqM_at_, tqM_token, tqM_place, tqM_value, tqM_fault, tqM_fat, TP_.w_by_, TP_.w_wd, TP_.w_tk, TP_.w_pl, TP_.w_vl, TP_.w_len, TP_.w_n, TP_.w_at_, TP_.w_token, TP_.w_place, TP_.w_value, TP_.w_fault, TP_.w_fat] at hQ_24); (try simp only [h_26, (nle h_26), h_29, hx_33, f_34, (eq_true h_35), c_44, c_54, h_58, c_69, (eq_true h_73), hx_75, if_true, if_false, bqM_pnm, bqM_par, bqM_dnm, bqM_persons, bqM_dishes, bqM_law, bqM_dogs, TB_.w_pnm, TB_.w_par, TB_.w_dnm, TB_.w_persons, TB_.w_dishes, TB_.w_law, TB_.w_dogs, sqM_sl, sqM_so, SP_.w_sl, SP_.w_so, tqM_by_, tqM_wd, tqM_tk, tqM_pl, tqM_vl, tqM_len, tqM_n, tqM_at_, tqM_token, tqM_place, tqM_value, tqM_fault, tqM_fat, TP_.w_by_, TP_.w_wd, TP_.w_tk, TP_.w_pl, TP_.w_vl, TP_.w_len, TP_.w_n, TP_.w_at_, TP_.w_token, TP_.w_place, TP_.w_value, TP_.w_fault, TP_.w_fat] at u_25); simp only [ebqa1, hs_71, hs_4, etqa0, hs_72, hs_10, esqx, hs_70, hs_11, hQ_24, u_25, h_26, (nle h_26), h_29, hx_33, f_34, (eq_true h_35), c_44, c_54, h_58, c_69, (eq_true h_73), hx_75, if_true, if_false, bqM_pnm, bqM_par, bqM_dnm, bqM_persons, bqM_dishes, bqM_law, bqM_dogs, TB_.w_pnm, TB_.w_par, TB_.w_dnm, TB_.w_persons, TB_.w_dishes, TB_.w_law, TB_.w_dogs, sqM_sl, sqM_so, SP_.w_sl, SP_.w_so, tqM_by_, tqM_wd, tqM_tk, tqM_pl, tqM_vl, tqM_len, tqM_n, tqM_at_, tqM_token, tqM_place, tqM_value, tqM_fault, tqM_fat, TP_.w_by_, TP_.w_wd, TP_.w_tk, TP_.w_pl, TP_.w_vl, TP_.w_len, TP_.w_n, TP_.w_at_, TP_.w_token, TP_.w_place, TP_.w_value, TP_.w_fault, TP_.w_fat]) (ms_1 hm_20 (ti_k tx_75 rc_1) (by decide))
              · skip
                have n_76 : ¬ x_63 = 0 := h_73
                have r_77 := ne_lo (lo := 1) n_76 rx_63 rc_0 rfl (by decide)
                refine g_iconst C (v := 1) dX7_readCond_58 (by decide) ?_
                refine g_goto C (tgt := 63) dX7_readCond_59 (by decide) ?_
                refine g_istore C dX7_readCond_63 (by decide) (lo2 := [(4, .int 1), (0, .ref x), (1, .ref a0), (2, .ref a1), (3, .int a2), (5, .int v_18)]) rfl ?_
                obtain ⟨x_78, hx_78, rx_78, tx_78⟩ := ex_add (y := 1) 1 20 r_28 rc_1 (by decide) (by decide) (by decide) (by decide)
                refine g_iinc C dX7_readCond_65 (k := 5) (v := x_78) rfl hx_78 (by decide) (lo2 := [(5, .int x_78), (4, .int 1), (0, .ref x), (1, .ref a0), (2, .ref a1), (3, .int a2)]) rfl ?_
                refine g_goto C (tgt := 12) dX7_readCond_68 (by decide) ?_
                refine g_lo (is := [2, 3, 4, 5, 1, 0]) (lo2 := [(0, .ref x), (1, .ref a0), (2, .ref a1), (3, .int a2), (4, .int 1), (5, .int x_78)]) rfl ?_
                exact ih_12 I_64 J_65 hUI_64 hF_67 hG_68 1 (rg_w rc_1 (by decide) (by decide)) x_78 (rg_w rx_78 (by decide) (by decide)) (by (try simp only [h_26, (nle h_26), h_29, hx_33, f_34, (eq_true h_35), c_44, c_54, h_58, c_69, h_73, hx_78, if_true, if_false, bqM_pnm, bqM_par, bqM_dnm, bqM_persons, bqM_dishes, bqM_law, bqM_dogs, TB_.w_pnm, TB_.w_par, TB_.w_dnm, TB_.w_persons, TB_.w_dishes, TB_.w_law, TB_.w_dogs, sqM_sl, sqM_so, SP_.w_sl, SP_.w_so, tqM_by_, tqM_wd, tqM_tk, tqM_pl, tqM_vl, tqM_len, tqM_n, tqM_at_, tqM_token, tqM_place, tqM_value, tqM_fault, tqM_fat, TP_.w_by_, TP_.w_wd, TP_.w_tk, TP_.w_pl, TP_.w_vl, TP_.w_len, TP_.w_n, TP_.w_at_, TP_.w_token, TP_.w_place, TP_.w_value, TP_.w_fault, TP_.w_fat] at hQ_24); (try simp only [h_26, (nle h_26), h_29, hx_33, f_34, (eq_true h_35), c_44, c_54, h_58, c_69, h_73, hx_78, if_true, if_false, bqM_pnm, bqM_par, bqM_dnm, bqM_persons, bqM_dishes, bqM_law, bqM_dogs, TB_.w_pnm, TB_.w_par, TB_.w_dnm, TB_.w_persons, TB_.w_dishes, TB_.w_law, TB_.w_dogs, sqM_sl, sqM_so, SP_.w_sl, SP_.w_so, tqM_by_, tqM_wd, tqM_tk, tqM_pl, tqM_vl, tqM_len, tqM_n, tqM_at_, tqM_token, tqM_place, tqM_value, tqM_fault, tqM_fat, TP_.w_by_, TP_.w_wd, TP_.w_tk, TP_.w_pl, TP_.w_vl, TP_.w_len, TP_.w_n, TP_.w_at_, TP_.w_token, TP_.w_place, TP_.w_value, TP_.w_fault, TP_.w_fat] at u_25); simp only [ebqa1, hs_71, hs_4, etqa0, hs_72, hs_10, esqx, hs_70, hs_11, hQ_24, u_25, h_26, (nle h_26), h_29, hx_33, f_34, (eq_true h_35), c_44, c_54, h_58, c_69, h_73, hx_78, if_true, if_false, bqM_pnm, bqM_par, bqM_dnm, bqM_persons, bqM_dishes, bqM_law, bqM_dogs, TB_.w_pnm, TB_.w_par, TB_.w_dnm, TB_.w_persons, TB_.w_dishes, TB_.w_law, TB_.w_dogs, sqM_sl, sqM_so, SP_.w_sl, SP_.w_so, tqM_by_, tqM_wd, tqM_tk, tqM_pl, tqM_vl, tqM_len, tqM_n, tqM_at_, tqM_token, tqM_place, tqM_value, tqM_fault, tqM_fat, TP_.w_by_, TP_.w_wd, TP_.w_tk, TP_.w_pl, TP_.w_vl, TP_.w_len, TP_.w_n, TP_.w_at_, TP_.w_token, TP_.w_place, TP_.w_value, TP_.w_fault, TP_.w_fat]) (ms_1 hm_20 (ti_k tx_78 rc_1) (by decide))
  refine g_aload_n C 0 dX7_readCond_0 rfl rfl ?_
  refine g_aload_n C 1 dX7_readCond_1 rfl rfl ?_
  refine g_aload_n C 2 dX7_readCond_2 rfl rfl ?_
  refine g_iload_n C 3 dX7_readCond_3 rfl rfl ?_
  refine g_callVI C K (c_X7_readAll_3 W9 hLx hkx hLa0 hka0 hLa1 hka1 a2 (ra2) hU) hLx hkx (by decide) rfl v_7_54 rfl ⟨rfl, rfl⟩ ⟨Nat.le_of_ble_eq_true rfl, Nat.le_of_ble_eq_true rfl⟩ (Nat.le_of_ble_eq_true rfl) ⟨Nat.le_of_ble_eq_true rfl, Nat.le_of_ble_eq_true rfl⟩ dX7_readCond_4 rfl (st := []) (fun x_79 I_80 J_81 h_82 => ?_)
  obtain ⟨hUI_80, hFI_80, hGJ_81, rx_79, fx_79⟩ := h_82
  have hF_83 := fq_tr hF hFI_80 (by decide)
  have hG_84 := fq_tr hG hGJ_81 (by decide)
  obtain ⟨s_86, hs_86⟩ : ∃ z, TPq I_80 J_81 a0 b_5 b_6 b_7 b_8 b_9 = z := ⟨_, rfl⟩
  obtain ⟨s_87, hs_87⟩ : ∃ z, SPq I_80 J_81 x = z := ⟨_, rfl⟩
  have c_85 : fAll 6 (s_4) (s_10) (s_11) = (x_79, s_86, s_87) := by have q := fx_79; simp only [ebqa1, etqa0, esqx, hs_4, hs_10, hs_11, hs_86, hs_87] at q; exact q.symm
  have hs_88 : TBq I_80 J_81 a1 b_1 b_2 b_3 = s_4 := (bq_fq wbqa1 hFI_80 hGJ_81 (by decide) (by decide)).trans hs_4
  refine g_istore C dX7_readCond_7 (by decide) (lo2 := [(4, .int x_79), (0, .ref x), (1, .ref a0), (2, .ref a1), (3, .int a2)]) rfl ?_
  refine g_iconst C (v := 0) dX7_readCond_9 (by decide) ?_
  refine g_istore C dX7_readCond_10 (by decide) (lo2 := [(5, .int 0), (4, .int x_79), (0, .ref x), (1, .ref a0), (2, .ref a1), (3, .int a2)]) rfl ?_
  refine g_lo (is := [2, 3, 4, 5, 1, 0]) (lo2 := [(0, .ref x), (1, .ref a0), (2, .ref a1), (3, .int a2), (4, .int x_79), (5, .int 0)]) rfl ?_
  exact l_12 21 I_80 J_81 hUI_80 hF_83 hG_84 x_79 (rx_79) 0 (rg_w rc_0 (by decide) (by decide)) (by simp only [fCond, ebqa1, hs_88, hs_4, etqa0, hs_86, hs_10, esqx, hs_87, hs_11, c_85, if_true, if_false, bqM_pnm, bqM_par, bqM_dnm, bqM_persons, bqM_dishes, bqM_law, bqM_dogs, TB_.w_pnm, TB_.w_par, TB_.w_dnm, TB_.w_persons, TB_.w_dishes, TB_.w_law, TB_.w_dogs, sqM_sl, sqM_so, SP_.w_sl, SP_.w_so, tqM_by_, tqM_wd, tqM_tk, tqM_pl, tqM_vl, tqM_len, tqM_n, tqM_at_, tqM_token, tqM_place, tqM_value, tqM_fault, tqM_fat, TP_.w_by_, TP_.w_wd, TP_.w_tk, TP_.w_pl, TP_.w_vl, TP_.w_len, TP_.w_n, TP_.w_at_, TP_.w_token, TP_.w_place, TP_.w_value, TP_.w_fault, TP_.w_fat]) (ms_s (a := 0) (b := 20) (N := 21) (rg_w rc_0 (by decide) (by decide)) (by decide))
set_option maxRecDepth 100000 in
set_option maxHeartbeats 8000000 in
theorem c_X7_readOne_2 {l : Launch} {D : va_G} {cy : Nat → ClassId} {L : List Nat} {κ ln : Nat → Nat} {R : Nat → Nat → Option Nat} {I : Nat → Nat → Int32} {J : Nat → Nat → Int64} {ow : Nat → Nat × Nat} (W9 : ∀ a ∈ L, Shp L κ ln R ow a) {x : Nat} (hLx : x ∈ L) (hkx : κ x = 7) {a0 : Nat} (hLa0 : a0 ∈ L) (hka0 : κ a0 = 10) {a1 : Nat} (hLa1 : a1 ∈ L) (hka1 : κ a1 = 8) (a2 : Int32) (ra2 : Rg 2 2 a2) (hU : Iv L κ R ow I) : CtI l yX7_readOne cX7_readOne 5 (some .boolean) { frames := 22, cells := 0, slots := 0, locals := 539 } D cy L κ ln R I J [.ref x, .ref a0, .ref a1, .int a2] (fun r I2 J2 => Iv L κ R ow I2 ∧ Fq L κ ow [704, 705, 1007, 1008, 1009, 1011, 1012, 52000, 52100, 52200] I I2 ∧ Fq L κ ow [1010] J J2 ∧ Rg 0 1 r ∧ ((r, TPf R I2 J2 a0, SPf R I2 J2 x) = fOne 7 (TBf R I J a1) (TPf R I J a0) (SPf R I J x))) := by
  refine CtI.of (by decide +kernel) (Nat.le_of_ble_eq_true rfl) ?_
  intro p e s m below meth c B K
  have C := B.1
  have hF : Fq L κ ow [704, 705, 1007, 1008, 1009, 1011, 1012, 52000, 52100, 52200] I I := fq_rf
  have hG : Fq L κ ow [1010] J J := fq_rf
  obtain ⟨b_1, hb_1, hb_1L, hb_1k, hb_1n, hb_1o⟩ := shp_a (W9 a1 hLa1) hka1 0 15 7 rfl (by decide)
  obtain ⟨b_2, hb_2, hb_2L, hb_2k, hb_2n, hb_2o⟩ := shp_a (W9 a1 hLa1) hka1 2 14 7 rfl (by decide)
  obtain ⟨b_3, hb_3, hb_3L, hb_3k, hb_3n, hb_3o⟩ := shp_a (W9 a1 hLa1) hka1 3 15 6 rfl (by decide)
  have ebqa1 : ∀ I J, TBf R I J a1 = TBq I J a1 b_1 b_2 b_3 := fun I J => by simp only [TBf, rr_, Option.getD_some, hb_1, hb_2, hb_3]
  have wbqa1 : bqw_ L κ ow a1 b_1 b_2 b_3 := ⟨⟨hLa1, hb_1L, hb_2L, hb_3L⟩, ⟨(ro_o hka1 (by decide)), (ro_a hb_1k (by decide) hb_1o hka1 rfl), (ro_a hb_2k (by decide) hb_2o hka1 rfl), (ro_a hb_3k (by decide) hb_3o hka1 rfl)⟩⟩
  obtain ⟨s_4, hs_4⟩ : ∃ z, TBq I J a1 b_1 b_2 b_3 = z := ⟨_, rfl⟩
  obtain ⟨b_5, hb_5, hb_5L, hb_5k, hb_5n, hb_5o⟩ := shp_a (W9 a0 hLa0) hka0 0 13 940 rfl (by decide)
  obtain ⟨b_6, hb_6, hb_6L, hb_6k, hb_6n, hb_6o⟩ := shp_a (W9 a0 hLa0) hka0 1 15 28 rfl (by decide)
  obtain ⟨b_7, hb_7, hb_7L, hb_7k, hb_7n, hb_7o⟩ := shp_a (W9 a0 hLa0) hka0 2 14 901 rfl (by decide)
  obtain ⟨b_8, hb_8, hb_8L, hb_8k, hb_8n, hb_8o⟩ := shp_a (W9 a0 hLa0) hka0 3 14 901 rfl (by decide)
  obtain ⟨b_9, hb_9, hb_9L, hb_9k, hb_9n, hb_9o⟩ := shp_a (W9 a0 hLa0) hka0 4 15 901 rfl (by decide)
  have etqa0 : ∀ I J, TPf R I J a0 = TPq I J a0 b_5 b_6 b_7 b_8 b_9 := fun I J => by simp only [TPf, rr_, Option.getD_some, hb_5, hb_6, hb_7, hb_8, hb_9]
  have wtqa0 : tqw_ L κ ow a0 b_5 b_6 b_7 b_8 b_9 := ⟨⟨hLa0, hb_5L, hb_6L, hb_7L, hb_8L, hb_9L⟩, ⟨(ro_o hka0 (by decide)), (ro_a hb_5k (by decide) hb_5o hka0 rfl), (ro_a hb_6k (by decide) hb_6o hka0 rfl), (ro_a hb_7k (by decide) hb_7o hka0 rfl), (ro_a hb_8k (by decide) hb_8o hka0 rfl), (ro_a hb_9k (by decide) hb_9o hka0 rfl)⟩⟩
  obtain ⟨s_10, hs_10⟩ : ∃ z, TPq I J a0 b_5 b_6 b_7 b_8 b_9 = z := ⟨_, rfl⟩
  have esqx : ∀ I J, SPf R I J x = SPq I J x := fun I J => by simp only [SPf, rr_, Option.getD_some]
  have wsqx : sqw_ L κ ow x := ⟨hLx, (ro_o hkx (by decide))⟩
  obtain ⟨s_11, hs_11⟩ : ∃ z, SPq I J x = z := ⟨_, rfl⟩
  refine g_lo (is := [0, 1, 2, 3]) (lo2 := [(0, .ref x), (1, .ref a0), (2, .ref a1), (3, .int a2)]) rfl ?_
  refine g_aload_n C 1 dX7_readOne_0 rfl rfl ?_
  obtain ⟨x_12, hx_12, rx_12⟩ := ex_get (I := I) (a := a0) (j := 8) (lo := (-2147483648)) (hi := 2147483647) hU.1 hLa0 (ro_o hka0 (by decide)) rfl
  have f_13 : s_10.token = x_12 := (congrArg TP_.token hs_10).symm.trans hx_12
  refine g_getI C K hLa0 hka0 f_7_57 (v := x_12) hx_12 dX7_readOne_1 ?_
  refine g_istore C dX7_readOne_4 (by decide) (lo2 := [(4, .int x_12), (0, .ref x), (1, .ref a0), (2, .ref a1), (3, .int a2)]) rfl ?_
  refine g_iload C 0 dX7_readOne_6 rfl ?_
  refine g_callSI C K (c_X7_beginsOne W9 x_12  hU) s_7_70 rfl ⟨rfl, rfl⟩ ⟨Nat.le_of_ble_eq_true rfl, Nat.le_of_ble_eq_true rfl⟩ (Nat.le_of_ble_eq_true rfl) ⟨Nat.le_of_ble_eq_true rfl, Nat.le_of_ble_eq_true rfl⟩ dX7_readOne_8 rfl (st := []) (fun x_14 I_15 J_16 h_17 => ?_)
  obtain ⟨rfl, rfl, rx_14, fx_14⟩ := h_17
  have c_18 : fBegOne (x_12) = x_14 := fx_14.symm
  refine g_if_ne C (tgt := 20) dX7_readOne_11 (by decide) (fun h_19 => ?_) (fun h_19 => ?_)
  · skip
    have n_20 : ¬ x_14 = 0 := h_19
    have r_21 := ne_lo (lo := 1) n_20 rx_14 rc_0 rfl (by decide)
    refine g_aload_n C 1 dX7_readOne_20 rfl rfl ?_
    obtain ⟨x_22, hx_22, rx_22⟩ := ex_get (I := I) (a := x) (j := 5) (lo := (-2147483648)) (hi := 2147483647) hU.1 hLx (ro_o hkx (by decide)) rfl
    have f_23 : s_11.so = x_22 := (congrArg SP_.so hs_11).symm.trans hx_22
    refine g_getI C K hLx hkx f_7_28 (v := x_22) hx_22 dX7_readOne_21 ?_
    refine g_bipush C (v := 20) dX7_readOne_24 (by decide) ?_
    refine g_icmp_ge C (tgt := 35) dX7_readOne_26 (by decide) (fun h_24 => ?_) (fun h_24 => ?_)
    · skip
      have r_25 := le_r (h_24) rc_20 rx_22
      refine g_aload_n C 2 dX7_readOne_35 rfl rfl ?_
      refine g_iconst C (v := 4) dX7_readOne_36 (by decide) ?_
      refine g_callVI C K (c_X10_fail W9 hLa0 hka0 4 (rg_w rc_4 (by decide) (by decide)) hU) hLa0 hka0 (by decide) rfl v_7_73 rfl ⟨rfl, rfl⟩ ⟨Nat.le_of_ble_eq_true rfl, Nat.le_of_ble_eq_true rfl⟩ (Nat.le_of_ble_eq_true rfl) ⟨Nat.le_of_ble_eq_true rfl, Nat.le_of_ble_eq_true rfl⟩ dX7_readOne_37 rfl (st := []) (fun x_26 I_27 J_28 h_29 => ?_)
      obtain ⟨hUI_27, hFI_27, hGJ_28, rx_26, fx_26⟩ := h_29
      have hF_30 := fq_tr hF hFI_27 (by decide)
      have hG_31 := fq_tr hG hGJ_28 (by decide)
      obtain ⟨s_33, hs_33⟩ : ∃ z, TPq I_27 J_28 a0 b_5 b_6 b_7 b_8 b_9 = z := ⟨_, rfl⟩
      have c_32 : fFail (4) (s_10) = (x_26, s_33) := by have q := fx_26; simp only [etqa0, hs_10, hs_33] at q; exact q.symm
      have hs_34 : TBq I_27 J_28 a1 b_1 b_2 b_3 = s_4 := (bq_fq wbqa1 hFI_27 hGJ_28 (by decide) (by decide)).trans hs_4
      have hs_35 : SPq I_27 J_28 x = s_11 := (sq_fq wsqx hFI_27 hGJ_28 (by decide) (by decide)).trans hs_11
      exact g_zret (ty := .boolean) (r := x_26) B K rfl (nar_z (rg_w rx_26 (by decide) (by decide))) ⟨hUI_27, hF_30, hG_31, rg_w rx_26 (by decide) (by decide), (by simp only [fOne_k7, fAnd2, fFailS, fCmp, ebqa1, hs_34, hs_4, etqa0, hs_33, hs_10, esqx, hs_35, hs_11, hx_12, f_13, c_18, h_19, hx_22, f_23, h_24, c_32, if_true, if_false, bqM_pnm, bqM_par, bqM_dnm, bqM_persons, bqM_dishes, bqM_law, bqM_dogs, TB_.w_pnm, TB_.w_par, TB_.w_dnm, TB_.w_persons, TB_.w_dishes, TB_.w_law, TB_.w_dogs, sqM_sl, sqM_so, SP_.w_sl, SP_.w_so, tqM_by_, tqM_wd, tqM_tk, tqM_pl, tqM_vl, tqM_len, tqM_n, tqM_at_, tqM_token, tqM_place, tqM_value, tqM_fault, tqM_fat, TP_.w_by_, TP_.w_wd, TP_.w_tk, TP_.w_pl, TP_.w_vl, TP_.w_len, TP_.w_n, TP_.w_at_, TP_.w_token, TP_.w_place, TP_.w_value, TP_.w_fault, TP_.w_fat])⟩ dX7_readOne_40
    · skip
      have r_36 := lt_l (hi := 19) (nle h_24) rx_22 rc_20 (by decide)
      refine g_iload_n C 4 dX7_readOne_29 rfl rfl ?_
      refine g_bipush C (v := 8) dX7_readOne_30 (by decide) ?_
      refine g_icmp_le C (tgt := 41) dX7_readOne_32 (by decide) (fun h_37 => ?_) (fun h_37 => ?_)
      · skip
        refine g_aload_n C 1 dX7_readOne_41 rfl rfl ?_
        refine g_dup C dX7_readOne_42 rfl ?_
        refine g_getI C K hLx hkx f_7_28 (v := x_22) hx_22 dX7_readOne_43 ?_
        refine g_iconst C (v := 1) dX7_readOne_46 (by decide) ?_
        obtain ⟨x_38, hx_38, rx_38, tx_38⟩ := ex_add (-2147483647) 20 r_36 rc_1 (by decide) (by decide) (by decide) (by decide)
        refine g_iadd C (v := x_38) dX7_readOne_47 hx_38 ?_
        refine h_putI C K hLx hkx f_7_28 p_7_5 dX7_readOne_48 (fun I_39 hI_39 => ?_)
        have hU_40 := iv_put W9 hU hI_39 (ro_o hkx (by decide)) (lo := (-2147483648)) (hi := 2147483647) (rfl) (rg_all _) rfl
        have hF_41 := fq_puto hF hI_39 hkx (by decide) (by decide)
        have hs_42 : TBq I_39 J a1 b_1 b_2 b_3 = s_4 := by rw [hI_39]; exact (bq_oI wbqa1 (ro_o hkx (by decide)) (by decide)).trans hs_4
        have hs_43 : TPq I_39 J a0 b_5 b_6 b_7 b_8 b_9 = s_10 := by rw [hI_39]; exact (tq_oI wtqa0 (ro_o hkx (by decide)) (by decide)).trans hs_10
        have hs_44 : SPq I_39 J x = (SP_.w_so s_11 (x_38)) := by rw [hI_39]; exact ((sq_so wsqx).trans (congrArg (fun z : SP_ => SP_.w_so z (x_38)) hs_11)).trans rfl
        refine g_aload_n C 2 dX7_readOne_51 rfl rfl ?_
        refine g_callVV C K (c_X10_advance W9 hLa0 hka0   hU_40) hLa0 hka0 (by decide) rfl v_7_60 rfl ⟨rfl, rfl⟩ ⟨Nat.le_of_ble_eq_true rfl, Nat.le_of_ble_eq_true rfl⟩ (Nat.le_of_ble_eq_true rfl) ⟨Nat.le_of_ble_eq_true rfl, Nat.le_of_ble_eq_true rfl⟩ dX7_readOne_52 rfl (st := []) (fun I_46 J_47 h_48 => ?_)
        obtain ⟨hUI_46, hFI_46, hGJ_47, fx_45⟩ := h_48
        have hF_49 := fq_tr hF_41 hFI_46 (by decide)
        have hG_50 := fq_tr hG hGJ_47 (by decide)
        obtain ⟨s_52, hs_52⟩ : ∃ z, TPq I_46 J_47 a0 b_5 b_6 b_7 b_8 b_9 = z := ⟨_, rfl⟩
        have c_51 : fAdvance (s_10) = s_52 := by have q := fx_45; simp only [etqa0, hs_43, hs_52] at q; exact q.symm
        have hs_53 : TBq I_46 J_47 a1 b_1 b_2 b_3 = s_4 := (bq_fq wbqa1 hFI_46 hGJ_47 (by decide) (by decide)).trans hs_42
        have hs_54 : SPq I_46 J_47 x = (SP_.w_so s_11 (x_38)) := (sq_fq wsqx hFI_46 hGJ_47 (by decide) (by decide)).trans hs_44
        refine g_iload C 0 dX7_readOne_55 rfl ?_
        refine g_bipush C (v := 40) dX7_readOne_57 (by decide) ?_
        refine g_icmp_ne C (tgt := 89) dX7_readOne_59 (by decide) (fun h_55 => ?_) (fun h_55 => ?_)
        · skip
          have n_56 : ¬ x_12 = 40 := h_55
          refine g_iload C 0 dX7_readOne_89 rfl ?_
          refine g_bipush C (v := 19) dX7_readOne_91 (by decide) ?_
          refine g_icmp_ne C (tgt := 125) dX7_readOne_93 (by decide) (fun h_57 => ?_) (fun h_57 => ?_)
          · skip
            have n_58 : ¬ x_12 = 19 := h_57
            refine g_aload_n C 1 dX7_readOne_125 rfl rfl ?_
            refine g_aload_n C 2 dX7_readOne_126 rfl rfl ?_
            refine g_aload_n C 3 dX7_readOne_127 rfl rfl ?_
            refine g_iload C 0 dX7_readOne_128 rfl ?_
            refine g_callVI C K (c_X7_readPlainOne W9 hLx hkx hLa0 hka0 hLa1 hka1 x_12  hUI_46) hLx hkx (by decide) rfl v_7_76 rfl ⟨rfl, rfl⟩ ⟨Nat.le_of_ble_eq_true rfl, Nat.le_of_ble_eq_true rfl⟩ (Nat.le_of_ble_eq_true rfl) ⟨Nat.le_of_ble_eq_true rfl, Nat.le_of_ble_eq_true rfl⟩ dX7_readOne_130 rfl (st := []) (fun x_59 I_60 J_61 h_62 => ?_)
            obtain ⟨hUI_60, hFI_60, hGJ_61, rx_59, fx_59⟩ := h_62
            have hF_63 := fq_tr hF_49 hFI_60 (by decide)
            have hG_64 := fq_tr hG_50 hGJ_61 (by decide)
            obtain ⟨s_66, hs_66⟩ : ∃ z, TPq I_60 J_61 a0 b_5 b_6 b_7 b_8 b_9 = z := ⟨_, rfl⟩
            obtain ⟨s_67, hs_67⟩ : ∃ z, SPq I_60 J_61 x = z := ⟨_, rfl⟩
            have c_65 : fPlain (x_12) (s_4) (s_52) ((SP_.w_so s_11 (x_38))) = (x_59, s_66, s_67) := by have q := fx_59; simp only [ebqa1, etqa0, esqx, hs_53, hs_52, hs_54, hs_66, hs_67] at q; exact q.symm
            have hs_68 : TBq I_60 J_61 a1 b_1 b_2 b_3 = s_4 := (bq_fq wbqa1 hFI_60 hGJ_61 (by decide) (by decide)).trans hs_53
            exact g_zret (ty := .boolean) (r := x_59) B K rfl (nar_z (rx_59)) ⟨hUI_60, hF_63, hG_64, rx_59, (by (try simp only [hx_12, f_13, c_18, h_19, hx_22, f_23, h_24, (nle h_24), h_37, hx_38, c_51, h_55, h_57, if_true, if_false, bqM_pnm, bqM_par, bqM_dnm, bqM_persons, bqM_dishes, bqM_law, bqM_dogs, TB_.w_pnm, TB_.w_par, TB_.w_dnm, TB_.w_persons, TB_.w_dishes, TB_.w_law, TB_.w_dogs, sqM_sl, sqM_so, SP_.w_sl, SP_.w_so, tqM_by_, tqM_wd, tqM_tk, tqM_pl, tqM_vl, tqM_len, tqM_n, tqM_at_, tqM_token, tqM_place, tqM_value, tqM_fault, tqM_fat, TP_.w_by_, TP_.w_wd, TP_.w_tk, TP_.w_pl, TP_.w_vl, TP_.w_len, TP_.w_n, TP_.w_at_, TP_.w_token, TP_.w_place, TP_.w_value, TP_.w_fault, TP_.w_fat] at c_65); simp only [fOne_k7, fAnd2, fFailS, fCmp, ebqa1, hs_68, hs_4, etqa0, hs_66, hs_10, esqx, hs_67, hs_11, hx_12, f_13, c_18, h_19, hx_22, f_23, h_24, (nle h_24), h_37, hx_38, c_51, h_55, h_57, c_65, if_true, if_false, bqM_pnm, bqM_par, bqM_dnm, bqM_persons, bqM_dishes, bqM_law, bqM_dogs, TB_.w_pnm, TB_.w_par, TB_.w_dnm, TB_.w_persons, TB_.w_dishes, TB_.w_law, TB_.w_dogs, sqM_sl, sqM_so, SP_.w_sl, SP_.w_so, tqM_by_, tqM_wd, tqM_tk, tqM_pl, tqM_vl, tqM_len, tqM_n, tqM_at_, tqM_token, tqM_place, tqM_value, tqM_fault, tqM_fat, TP_.w_by_, TP_.w_wd, TP_.w_tk, TP_.w_pl, TP_.w_vl, TP_.w_len, TP_.w_n, TP_.w_at_, TP_.w_token, TP_.w_place, TP_.w_value, TP_.w_fault, TP_.w_fat])⟩ dX7_readOne_133
          · skip
            have r_69 := (⟨(eq_rg (h_57) rc_19).1, (eq_rg (h_57) rc_19).2⟩ : Rg 19 19 x_12)
            refine g_aload_n C 1 dX7_readOne_96 rfl rfl ?_
            refine g_aload_n C 2 dX7_readOne_97 rfl rfl ?_
            refine g_aload_n C 3 dX7_readOne_98 rfl rfl ?_
            refine g_iload_n C 4 dX7_readOne_99 rfl rfl ?_
            refine g_iconst C (v := 1) dX7_readOne_100 (by decide) ?_
            obtain ⟨x_70, hx_70, rx_70, tx_70⟩ := ex_add 3 3 ra2 rc_1 (by decide) (by decide) (by decide) (by decide)
            refine g_iadd C (v := x_70) dX7_readOne_101 hx_70 ?_
            refine g_callVI C K (c_X7_readOne_3 W9 hLx hkx hLa0 hka0 hLa1 hka1 x_70 (rx_70) hUI_46) hLx hkx (by decide) rfl v_7_67 rfl ⟨rfl, rfl⟩ ⟨Nat.le_of_ble_eq_true rfl, Nat.le_of_ble_eq_true rfl⟩ (Nat.le_of_ble_eq_true rfl) ⟨Nat.le_of_ble_eq_true rfl, Nat.le_of_ble_eq_true rfl⟩ dX7_readOne_102 rfl (st := []) (fun x_71 I_72 J_73 h_74 => ?_)
            obtain ⟨hUI_72, hFI_72, hGJ_73, rx_71, fx_71⟩ := h_74
            have hF_75 := fq_tr hF_49 hFI_72 (by decide)
            have hG_76 := fq_tr hG_50 hGJ_73 (by decide)
            obtain ⟨s_78, hs_78⟩ : ∃ z, TPq I_72 J_73 a0 b_5 b_6 b_7 b_8 b_9 = z := ⟨_, rfl⟩
            obtain ⟨s_79, hs_79⟩ : ∃ z, SPq I_72 J_73 x = z := ⟨_, rfl⟩
            have c_77 : fOne 6 (s_4) (s_52) ((SP_.w_so s_11 (x_38))) = (x_71, s_78, s_79) := by have q := fx_71; simp only [ebqa1, etqa0, esqx, hs_53, hs_52, hs_54, hs_78, hs_79] at q; exact q.symm
            have hs_80 : TBq I_72 J_73 a1 b_1 b_2 b_3 = s_4 := (bq_fq wbqa1 hFI_72 hGJ_73 (by decide) (by decide)).trans hs_53
            refine g_if_eq C (tgt := 123) dX7_readOne_105 (by decide) (fun h_81 => ?_) (fun h_81 => ?_)
            · skip
              have r_82 := (⟨(rx_71).1, (eq_rg (h_81) rc_0).2⟩ : Rg 0 0 x_71)
              refine g_iconst C (v := 0) dX7_readOne_123 (by decide) ?_
              exact g_zret (ty := .boolean) (r := 0) B K rfl (rfl) ⟨hUI_72, hF_75, hG_76, rg_w rc_0 (by decide) (by decide), (by (try simp only [hx_12, f_13, c_18, h_19, hx_22, f_23, h_24, (nle h_24), h_37, hx_38, c_51, h_55, (eq_true h_57), hx_70, (eq_true h_81), if_true, if_false, bqM_pnm, bqM_par, bqM_dnm, bqM_persons, bqM_dishes, bqM_law, bqM_dogs, TB_.w_pnm, TB_.w_par, TB_.w_dnm, TB_.w_persons, TB_.w_dishes, TB_.w_law, TB_.w_dogs, sqM_sl, sqM_so, SP_.w_sl, SP_.w_so, tqM_by_, tqM_wd, tqM_tk, tqM_pl, tqM_vl, tqM_len, tqM_n, tqM_at_, tqM_token, tqM_place, tqM_value, tqM_fault, tqM_fat, TP_.w_by_, TP_.w_wd, TP_.w_tk, TP_.w_pl, TP_.w_vl, TP_.w_len, TP_.w_n, TP_.w_at_, TP_.w_token, TP_.w_place, TP_.w_value, TP_.w_fault, TP_.w_fat] at c_77); simp only [fOne_k7, fAnd2, fFailS, fCmp, ebqa1, hs_80, hs_4, etqa0, hs_78, hs_10, esqx, hs_79, hs_11, hx_12, f_13, c_18, h_19, hx_22, f_23, h_24, (nle h_24), h_37, hx_38, c_51, h_55, (eq_true h_57), hx_70, c_77, (eq_true h_81), if_true, if_false, bqM_pnm, bqM_par, bqM_dnm, bqM_persons, bqM_dishes, bqM_law, bqM_dogs, TB_.w_pnm, TB_.w_par, TB_.w_dnm, TB_.w_persons, TB_.w_dishes, TB_.w_law, TB_.w_dogs, sqM_sl, sqM_so, SP_.w_sl, SP_.w_so, tqM_by_, tqM_wd, tqM_tk, tqM_pl, tqM_vl, tqM_len, tqM_n, tqM_at_, tqM_token, tqM_place, tqM_value, tqM_fault, tqM_fat, TP_.w_by_, TP_.w_wd, TP_.w_tk, TP_.w_pl, TP_.w_vl, TP_.w_len, TP_.w_n, TP_.w_at_, TP_.w_token, TP_.w_place, TP_.w_value, TP_.w_fault, TP_.w_fat])⟩ dX7_readOne_124
            · skip
              have n_83 : ¬ x_71 = 0 := h_81
              have r_84 := ne_lo (lo := 1) n_83 rx_71 rc_0 rfl (by decide)
              refine g_aload_n C 1 dX7_readOne_108 rfl rfl ?_
              refine g_bipush C (v := 19) dX7_readOne_109 (by decide) ?_
              refine g_iconst C (v := 0) dX7_readOne_111 (by decide) ?_
              refine g_iconst C (v := 0) dX7_readOne_112 (by decide) ?_
              refine g_callVI C K (c_X7_addStep W9 hLx hkx 19 0 0 (rg_w rc_0 (by decide) (by decide)) hUI_72  (fun q => absurd q (by decide))) hLx hkx (by decide) rfl v_7_63 rfl ⟨rfl, rfl⟩ ⟨Nat.le_of_ble_eq_true rfl, Nat.le_of_ble_eq_true rfl⟩ (Nat.le_of_ble_eq_true rfl) ⟨Nat.le_of_ble_eq_true rfl, Nat.le_of_ble_eq_true rfl⟩ dX7_readOne_113 rfl (st := []) (fun x_85 I_86 J_87 h_88 => ?_)
              obtain ⟨hUI_86, hFI_86, hGJ_87, rx_85, fx_85⟩ := h_88
              have hF_89 := fq_tr hF_75 hFI_86 (by decide)
              have hG_90 := fq_tr hG_76 hGJ_87 (by decide)
              obtain ⟨s_92, hs_92⟩ : ∃ z, SPq I_86 J_87 x = z := ⟨_, rfl⟩
              have c_91 : fAddStep (s_79) = (x_85, s_92) := by have q := fx_85; simp only [esqx, hs_79, hs_92] at q; exact q.symm
              have hs_93 : TBq I_86 J_87 a1 b_1 b_2 b_3 = s_4 := (bq_fq wbqa1 hFI_86 hGJ_87 (by decide) (by decide)).trans hs_80
              have hs_94 : TPq I_86 J_87 a0 b_5 b_6 b_7 b_8 b_9 = s_78 := (tq_fq wtqa0 hFI_86 hGJ_87 (by decide) (by decide)).trans hs_78
              refine g_if_eq C (tgt := 123) dX7_readOne_116 (by decide) (fun h_95 => ?_) (fun h_95 => ?_)
              · skip
                have r_96 := (⟨(rx_85).1, (eq_rg (h_95) rc_0).2⟩ : Rg 0 0 x_85)
                refine g_iconst C (v := 0) dX7_readOne_123 (by decide) ?_
                exact g_zret (ty := .boolean) (r := 0) B K rfl (rfl) ⟨hUI_86, hF_89, hG_90, rg_w rc_0 (by decide) (by decide), (by (try simp only [hx_12, f_13, c_18, h_19, hx_22, f_23, h_24, (nle h_24), h_37, hx_38, c_51, h_55, (eq_true h_57), hx_70, h_81, c_91, (eq_true h_95), if_true, if_false, bqM_pnm, bqM_par, bqM_dnm, bqM_persons, bqM_dishes, bqM_law, bqM_dogs, TB_.w_pnm, TB_.w_par, TB_.w_dnm, TB_.w_persons, TB_.w_dishes, TB_.w_law, TB_.w_dogs, sqM_sl, sqM_so, SP_.w_sl, SP_.w_so, tqM_by_, tqM_wd, tqM_tk, tqM_pl, tqM_vl, tqM_len, tqM_n, tqM_at_, tqM_token, tqM_place, tqM_value, tqM_fault, tqM_fat, TP_.w_by_, TP_.w_wd, TP_.w_tk, TP_.w_pl, TP_.w_vl, TP_.w_len, TP_.w_n, TP_.w_at_, TP_.w_token, TP_.w_place, TP_.w_value, TP_.w_fault, TP_.w_fat] at c_77); simp only [fOne_k7, fAnd2, fFailS, fCmp, ebqa1, hs_93, hs_4, etqa0, hs_94, hs_10, esqx, hs_92, hs_11, hx_12, f_13, c_18, h_19, hx_22, f_23, h_24, (nle h_24), h_37, hx_38, c_51, h_55, (eq_true h_57), hx_70, c_77, h_81, c_91, (eq_true h_95), if_true, if_false, bqM_pnm, bqM_par, bqM_dnm, bqM_persons, bqM_dishes, bqM_law, bqM_dogs, TB_.w_pnm, TB_.w_par, TB_.w_dnm, TB_.w_persons, TB_.w_dishes, TB_.w_law, TB_.w_dogs, sqM_sl, sqM_so, SP_.w_sl, SP_.w_so, tqM_by_, tqM_wd, tqM_tk, tqM_pl, tqM_vl, tqM_len, tqM_n, tqM_at_, tqM_token, tqM_place, tqM_value, tqM_fault, tqM_fat, TP_.w_by_, TP_.w_wd, TP_.w_tk, TP_.w_pl, TP_.w_vl, TP_.w_len, TP_.w_n, TP_.w_at_, TP_.w_token, TP_.w_place, TP_.w_value, TP_.w_fault, TP_.w_fat])⟩ dX7_readOne_124
              · skip
                have n_97 : ¬ x_85 = 0 := h_95
                have r_98 := ne_lo (lo := 1) n_97 rx_85 rc_0 rfl (by decide)
                refine g_iconst C (v := 1) dX7_readOne_119 (by decide) ?_
                refine g_goto C (tgt := 124) dX7_readOne_120 (by decide) ?_
                exact g_zret (ty := .boolean) (r := 1) B K rfl (rfl) ⟨hUI_86, hF_89, hG_90, rg_w rc_1 (by decide) (by decide), (by (try simp only [hx_12, f_13, c_18, h_19, hx_22, f_23, h_24, (nle h_24), h_37, hx_38, c_51, h_55, (eq_true h_57), hx_70, h_81, c_91, h_95, if_true, if_false, bqM_pnm, bqM_par, bqM_dnm, bqM_persons, bqM_dishes, bqM_law, bqM_dogs, TB_.w_pnm, TB_.w_par, TB_.w_dnm, TB_.w_persons, TB_.w_dishes, TB_.w_law, TB_.w_dogs, sqM_sl, sqM_so, SP_.w_sl, SP_.w_so, tqM_by_, tqM_wd, tqM_tk, tqM_pl, tqM_vl, tqM_len, tqM_n, tqM_at_, tqM_token, tqM_place, tqM_value, tqM_fault, tqM_fat, TP_.w_by_, TP_.w_wd, TP_.w_tk, TP_.w_pl, TP_.w_vl, TP_.w_len, TP_.w_n, TP_.w_at_, TP_.w_token, TP_.w_place, TP_.w_value, TP_.w_fault, TP_.w_fat] at c_77); simp only [fOne_k7, fAnd2, fFailS, fCmp, ebqa1, hs_93, hs_4, etqa0, hs_94, hs_10, esqx, hs_92, hs_11, hx_12, f_13, c_18, h_19, hx_22, f_23, h_24, (nle h_24), h_37, hx_38, c_51, h_55, (eq_true h_57), hx_70, c_77, h_81, c_91, h_95, if_true, if_false, bqM_pnm, bqM_par, bqM_dnm, bqM_persons, bqM_dishes, bqM_law, bqM_dogs, TB_.w_pnm, TB_.w_par, TB_.w_dnm, TB_.w_persons, TB_.w_dishes, TB_.w_law, TB_.w_dogs, sqM_sl, sqM_so, SP_.w_sl, SP_.w_so, tqM_by_, tqM_wd, tqM_tk, tqM_pl, tqM_vl, tqM_len, tqM_n, tqM_at_, tqM_token, tqM_place, tqM_value, tqM_fault, tqM_fat, TP_.w_by_, TP_.w_wd, TP_.w_tk, TP_.w_pl, TP_.w_vl, TP_.w_len, TP_.w_n, TP_.w_at_, TP_.w_token, TP_.w_place, TP_.w_value, TP_.w_fault, TP_.w_fat])⟩ dX7_readOne_124
        · skip
          have r_99 := (⟨(eq_rg (h_55) rc_40).1, (eq_rg (h_55) rc_40).2⟩ : Rg 40 40 x_12)
          refine g_aload_n C 1 dX7_readOne_62 rfl rfl ?_
          refine g_aload_n C 2 dX7_readOne_63 rfl rfl ?_
          refine g_aload_n C 3 dX7_readOne_64 rfl rfl ?_
          refine g_iload_n C 4 dX7_readOne_65 rfl rfl ?_
          refine g_iconst C (v := 1) dX7_readOne_66 (by decide) ?_
          obtain ⟨x_100, hx_100, rx_100, tx_100⟩ := ex_add 3 3 ra2 rc_1 (by decide) (by decide) (by decide) (by decide)
          refine g_iadd C (v := x_100) dX7_readOne_67 hx_100 ?_
          refine g_callVI C K (c_X7_readCond_3 W9 hLx hkx hLa0 hka0 hLa1 hka1 x_100 (rx_100) hUI_46) hLx hkx (by decide) rfl v_7_46 rfl ⟨rfl, rfl⟩ ⟨Nat.le_of_ble_eq_true rfl, Nat.le_of_ble_eq_true rfl⟩ (Nat.le_of_ble_eq_true rfl) ⟨Nat.le_of_ble_eq_true rfl, Nat.le_of_ble_eq_true rfl⟩ dX7_readOne_68 rfl (st := []) (fun x_101 I_102 J_103 h_104 => ?_)
          obtain ⟨hUI_102, hFI_102, hGJ_103, rx_101, fx_101⟩ := h_104
          have hF_105 := fq_tr hF_49 hFI_102 (by decide)
          have hG_106 := fq_tr hG_50 hGJ_103 (by decide)
          obtain ⟨s_108, hs_108⟩ : ∃ z, TPq I_102 J_103 a0 b_5 b_6 b_7 b_8 b_9 = z := ⟨_, rfl⟩
          obtain ⟨s_109, hs_109⟩ : ∃ z, SPq I_102 J_103 x = z := ⟨_, rfl⟩
          have c_107 : fCond 6 (s_4) (s_52) ((SP_.w_so s_11 (x_38))) = (x_101, s_108, s_109) := by have q := fx_101; simp only [ebqa1, etqa0, esqx, hs_53, hs_52, hs_54, hs_108, hs_109] at q; exact q.symm
          have hs_110 : TBq I_102 J_103 a1 b_1 b_2 b_3 = s_4 := (bq_fq wbqa1 hFI_102 hGJ_103 (by decide) (by decide)).trans hs_53
          refine g_if_eq C (tgt := 87) dX7_readOne_71 (by decide) (fun h_111 => ?_) (fun h_111 => ?_)
          · skip
            have r_112 := (⟨(rx_101).1, (eq_rg (h_111) rc_0).2⟩ : Rg 0 0 x_101)
            refine g_iconst C (v := 0) dX7_readOne_87 (by decide) ?_
            exact g_zret (ty := .boolean) (r := 0) B K rfl (rfl) ⟨hUI_102, hF_105, hG_106, rg_w rc_0 (by decide) (by decide), (by (try simp only [hx_12, f_13, c_18, h_19, hx_22, f_23, h_24, (nle h_24), h_37, hx_38, c_51, (eq_true h_55), hx_100, (eq_true h_111), if_true, if_false, bqM_pnm, bqM_par, bqM_dnm, bqM_persons, bqM_dishes, bqM_law, bqM_dogs, TB_.w_pnm, TB_.w_par, TB_.w_dnm, TB_.w_persons, TB_.w_dishes, TB_.w_law, TB_.w_dogs, sqM_sl, sqM_so, SP_.w_sl, SP_.w_so, tqM_by_, tqM_wd, tqM_tk, tqM_pl, tqM_vl, tqM_len, tqM_n, tqM_at_, tqM_token, tqM_place, tqM_value, tqM_fault, tqM_fat, TP_.w_by_, TP_.w_wd, TP_.w_tk, TP_.w_pl, TP_.w_vl, TP_.w_len, TP_.w_n, TP_.w_at_, TP_.w_token, TP_.w_place, TP_.w_value, TP_.w_fault, TP_.w_fat] at c_107); simp only [fOne_k7, fAnd2, fFailS, fCmp, ebqa1, hs_110, hs_4, etqa0, hs_108, hs_10, esqx, hs_109, hs_11, hx_12, f_13, c_18, h_19, hx_22, f_23, h_24, (nle h_24), h_37, hx_38, c_51, (eq_true h_55), hx_100, c_107, (eq_true h_111), if_true, if_false, bqM_pnm, bqM_par, bqM_dnm, bqM_persons, bqM_dishes, bqM_law, bqM_dogs, TB_.w_pnm, TB_.w_par, TB_.w_dnm, TB_.w_persons, TB_.w_dishes, TB_.w_law, TB_.w_dogs, sqM_sl, sqM_so, SP_.w_sl, SP_.w_so, tqM_by_, tqM_wd, tqM_tk, tqM_pl, tqM_vl, tqM_len, tqM_n, tqM_at_, tqM_token, tqM_place, tqM_value, tqM_fault, tqM_fat, TP_.w_by_, TP_.w_wd, TP_.w_tk, TP_.w_pl, TP_.w_vl, TP_.w_len, TP_.w_n, TP_.w_at_, TP_.w_token, TP_.w_place, TP_.w_value, TP_.w_fault, TP_.w_fat])⟩ dX7_readOne_88
          · skip
            have n_113 : ¬ x_101 = 0 := h_111
            have r_114 := ne_lo (lo := 1) n_113 rx_101 rc_0 rfl (by decide)
            refine g_aload_n C 2 dX7_readOne_74 rfl rfl ?_
            refine g_bipush C (v := 41) dX7_readOne_75 (by decide) ?_
            refine g_callVI C K (c_X10_take W9 hLa0 hka0 41 (rg_w rc_41 (by decide) (by decide)) hUI_102) hLa0 hka0 (by decide) rfl v_7_50 rfl ⟨rfl, rfl⟩ ⟨Nat.le_of_ble_eq_true rfl, Nat.le_of_ble_eq_true rfl⟩ (Nat.le_of_ble_eq_true rfl) ⟨Nat.le_of_ble_eq_true rfl, Nat.le_of_ble_eq_true rfl⟩ dX7_readOne_77 rfl (st := []) (fun x_115 I_116 J_117 h_118 => ?_)
            obtain ⟨hUI_116, hFI_116, hGJ_117, rx_115, fx_115⟩ := h_118
            have hF_119 := fq_tr hF_105 hFI_116 (by decide)
            have hG_120 := fq_tr hG_106 hGJ_117 (by decide)
            obtain ⟨s_122, hs_122⟩ : ∃ z, TPq I_116 J_117 a0 b_5 b_6 b_7 b_8 b_9 = z := ⟨_, rfl⟩
            have c_121 : fTake (41) (s_108) = (x_115, s_122) := by have q := fx_115; simp only [etqa0, hs_108, hs_122] at q; exact q.symm
            have hs_123 : TBq I_116 J_117 a1 b_1 b_2 b_3 = s_4 := (bq_fq wbqa1 hFI_116 hGJ_117 (by decide) (by decide)).trans hs_110
            have hs_124 : SPq I_116 J_117 x = s_109 := (sq_fq wsqx hFI_116 hGJ_117 (by decide) (by decide)).trans hs_109
            refine g_if_eq C (tgt := 87) dX7_readOne_80 (by decide) (fun h_125 => ?_) (fun h_125 => ?_)
            · skip
              have r_126 := (⟨(rx_115).1, (eq_rg (h_125) rc_0).2⟩ : Rg 0 0 x_115)
              refine g_iconst C (v := 0) dX7_readOne_87 (by decide) ?_
              exact g_zret (ty := .boolean) (r := 0) B K rfl (rfl) ⟨hUI_116, hF_119, hG_120, rg_w rc_0 (by decide) (by decide), (by (try simp only [hx_12, f_13, c_18, h_19, hx_22, f_23, h_24, (nle h_24), h_37, hx_38, c_51, (eq_true h_55), hx_100, h_111, c_121, (eq_true h_125), if_true, if_false, bqM_pnm, bqM_par, bqM_dnm, bqM_persons, bqM_dishes, bqM_law, bqM_dogs, TB_.w_pnm, TB_.w_par, TB_.w_dnm, TB_.w_persons, TB_.w_dishes, TB_.w_law, TB_.w_dogs, sqM_sl, sqM_so, SP_.w_sl, SP_.w_so, tqM_by_, tqM_wd, tqM_tk, tqM_pl, tqM_vl, tqM_len, tqM_n, tqM_at_, tqM_token, tqM_place, tqM_value, tqM_fault, tqM_fat, TP_.w_by_, TP_.w_wd, TP_.w_tk, TP_.w_pl, TP_.w_vl, TP_.w_len, TP_.w_n, TP_.w_at_, TP_.w_token, TP_.w_place, TP_.w_value, TP_.w_fault, TP_.w_fat] at c_107); simp only [fOne_k7, fAnd2, fFailS, fCmp, ebqa1, hs_123, hs_4, etqa0, hs_122, hs_10, esqx, hs_124, hs_11, hx_12, f_13, c_18, h_19, hx_22, f_23, h_24, (nle h_24), h_37, hx_38, c_51, (eq_true h_55), hx_100, c_107, h_111, c_121, (eq_true h_125), if_true, if_false, bqM_pnm, bqM_par, bqM_dnm, bqM_persons, bqM_dishes, bqM_law, bqM_dogs, TB_.w_pnm, TB_.w_par, TB_.w_dnm, TB_.w_persons, TB_.w_dishes, TB_.w_law, TB_.w_dogs, sqM_sl, sqM_so, SP_.w_sl, SP_.w_so, tqM_by_, tqM_wd, tqM_tk, tqM_pl, tqM_vl, tqM_len, tqM_n, tqM_at_, tqM_token, tqM_place, tqM_value, tqM_fault, tqM_fat, TP_.w_by_, TP_.w_wd, TP_.w_tk, TP_.w_pl, TP_.w_vl, TP_.w_len, TP_.w_n, TP_.w_at_, TP_.w_token, TP_.w_place, TP_.w_value, TP_.w_fault, TP_.w_fat])⟩ dX7_readOne_88
            · skip
              have n_127 : ¬ x_115 = 0 := h_125
              have r_128 := ne_lo (lo := 1) n_127 rx_115 rc_0 rfl (by decide)
              refine g_iconst C (v := 1) dX7_readOne_83 (by decide) ?_
              refine g_goto C (tgt := 88) dX7_readOne_84 (by decide) ?_
              exact g_zret (ty := .boolean) (r := 1) B K rfl (rfl) ⟨hUI_116, hF_119, hG_120, rg_w rc_1 (by decide) (by decide), (by (try simp only [hx_12, f_13, c_18, h_19, hx_22, f_23, h_24, (nle h_24), h_37, hx_38, c_51, (eq_true h_55), hx_100, h_111, c_121, h_125, if_true, if_false, bqM_pnm, bqM_par, bqM_dnm, bqM_persons, bqM_dishes, bqM_law, bqM_dogs, TB_.w_pnm, TB_.w_par, TB_.w_dnm, TB_.w_persons, TB_.w_dishes, TB_.w_law, TB_.w_dogs, sqM_sl, sqM_so, SP_.w_sl, SP_.w_so, tqM_by_, tqM_wd, tqM_tk, tqM_pl, tqM_vl, tqM_len, tqM_n, tqM_at_, tqM_token, tqM_place, tqM_value, tqM_fault, tqM_fat, TP_.w_by_, TP_.w_wd, TP_.w_tk, TP_.w_pl, TP_.w_vl, TP_.w_len, TP_.w_n, TP_.w_at_, TP_.w_token, TP_.w_place, TP_.w_value, TP_.w_fault, TP_.w_fat] at c_107); simp only [fOne_k7, fAnd2, fFailS, fCmp, ebqa1, hs_123, hs_4, etqa0, hs_122, hs_10, esqx, hs_124, hs_11, hx_12, f_13, c_18, h_19, hx_22, f_23, h_24, (nle h_24), h_37, hx_38, c_51, (eq_true h_55), hx_100, c_107, h_111, c_121, h_125, if_true, if_false, bqM_pnm, bqM_par, bqM_dnm, bqM_persons, bqM_dishes, bqM_law, bqM_dogs, TB_.w_pnm, TB_.w_par, TB_.w_dnm, TB_.w_persons, TB_.w_dishes, TB_.w_law, TB_.w_dogs, sqM_sl, sqM_so, SP_.w_sl, SP_.w_so, tqM_by_, tqM_wd, tqM_tk, tqM_pl, tqM_vl, tqM_len, tqM_n, tqM_at_, tqM_token, tqM_place, tqM_value, tqM_fault, tqM_fat, TP_.w_by_, TP_.w_wd, TP_.w_tk, TP_.w_pl, TP_.w_vl, TP_.w_len, TP_.w_n, TP_.w_at_, TP_.w_token, TP_.w_place, TP_.w_value, TP_.w_fault, TP_.w_fat])⟩ dX7_readOne_88
      · skip
        have r_129 := lt_r (lo := 9) (nle h_37) rc_8 ra2 (by decide)
        exact rg_no r_129 (by decide)
  · skip
    have r_130 := (⟨(rx_14).1, (eq_rg (h_19) rc_0).2⟩ : Rg 0 0 x_14)
    refine g_aload_n C 2 dX7_readOne_14 rfl rfl ?_
    refine g_iconst C (v := 1) dX7_readOne_15 (by decide) ?_
    refine g_callVI C K (c_X10_fail W9 hLa0 hka0 1 (rg_w rc_1 (by decide) (by decide)) hU) hLa0 hka0 (by decide) rfl v_7_73 rfl ⟨rfl, rfl⟩ ⟨Nat.le_of_ble_eq_true rfl, Nat.le_of_ble_eq_true rfl⟩ (Nat.le_of_ble_eq_true rfl) ⟨Nat.le_of_ble_eq_true rfl, Nat.le_of_ble_eq_true rfl⟩ dX7_readOne_16 rfl (st := []) (fun x_131 I_132 J_133 h_134 => ?_)
    obtain ⟨hUI_132, hFI_132, hGJ_133, rx_131, fx_131⟩ := h_134
    have hF_135 := fq_tr hF hFI_132 (by decide)
    have hG_136 := fq_tr hG hGJ_133 (by decide)
    obtain ⟨s_138, hs_138⟩ : ∃ z, TPq I_132 J_133 a0 b_5 b_6 b_7 b_8 b_9 = z := ⟨_, rfl⟩
    have c_137 : fFail (1) (s_10) = (x_131, s_138) := by have q := fx_131; simp only [etqa0, hs_10, hs_138] at q; exact q.symm
    have hs_139 : TBq I_132 J_133 a1 b_1 b_2 b_3 = s_4 := (bq_fq wbqa1 hFI_132 hGJ_133 (by decide) (by decide)).trans hs_4
    have hs_140 : SPq I_132 J_133 x = s_11 := (sq_fq wsqx hFI_132 hGJ_133 (by decide) (by decide)).trans hs_11
    exact g_zret (ty := .boolean) (r := x_131) B K rfl (nar_z (rg_w rx_131 (by decide) (by decide))) ⟨hUI_132, hF_135, hG_136, rg_w rx_131 (by decide) (by decide), (by simp only [fOne_k7, fAnd2, fFailS, fCmp, ebqa1, hs_139, hs_4, etqa0, hs_138, hs_10, esqx, hs_140, hs_11, hx_12, f_13, c_18, (eq_true h_19), c_137, if_true, if_false, bqM_pnm, bqM_par, bqM_dnm, bqM_persons, bqM_dishes, bqM_law, bqM_dogs, TB_.w_pnm, TB_.w_par, TB_.w_dnm, TB_.w_persons, TB_.w_dishes, TB_.w_law, TB_.w_dogs, sqM_sl, sqM_so, SP_.w_sl, SP_.w_so, tqM_by_, tqM_wd, tqM_tk, tqM_pl, tqM_vl, tqM_len, tqM_n, tqM_at_, tqM_token, tqM_place, tqM_value, tqM_fault, tqM_fat, TP_.w_by_, TP_.w_wd, TP_.w_tk, TP_.w_pl, TP_.w_vl, TP_.w_len, TP_.w_n, TP_.w_at_, TP_.w_token, TP_.w_place, TP_.w_value, TP_.w_fault, TP_.w_fat])⟩ dX7_readOne_19
set_option maxRecDepth 100000 in
set_option maxHeartbeats 8000000 in
theorem c_X7_readAll_2 {l : Launch} {D : va_G} {cy : Nat → ClassId} {L : List Nat} {κ ln : Nat → Nat} {R : Nat → Nat → Option Nat} {I : Nat → Nat → Int32} {J : Nat → Nat → Int64} {ow : Nat → Nat × Nat} (W9 : ∀ a ∈ L, Shp L κ ln R ow a) {x : Nat} (hLx : x ∈ L) (hkx : κ x = 7) {a0 : Nat} (hLa0 : a0 ∈ L) (hka0 : κ a0 = 10) {a1 : Nat} (hLa1 : a1 ∈ L) (hka1 : κ a1 = 8) (a2 : Int32) (ra2 : Rg 2 2 a2) (hU : Iv L κ R ow I) : CtI l yX7_readAll cX7_readAll 6 (some .boolean) { frames := 23, cells := 0, slots := 0, locals := 563 } D cy L κ ln R I J [.ref x, .ref a0, .ref a1, .int a2] (fun r I2 J2 => Iv L κ R ow I2 ∧ Fq L κ ow [704, 705, 1007, 1008, 1009, 1011, 1012, 52000, 52100, 52200] I I2 ∧ Fq L κ ow [1010] J J2 ∧ Rg 0 1 r ∧ ((r, TPf R I2 J2 a0, SPf R I2 J2 x) = fAll 7 (TBf R I J a1) (TPf R I J a0) (SPf R I J x))) := by
  refine CtI.of (by decide +kernel) (Nat.le_of_ble_eq_true rfl) ?_
  intro p e s m below meth c B K
  have C := B.1
  have hF : Fq L κ ow [704, 705, 1007, 1008, 1009, 1011, 1012, 52000, 52100, 52200] I I := fq_rf
  have hG : Fq L κ ow [1010] J J := fq_rf
  obtain ⟨b_1, hb_1, hb_1L, hb_1k, hb_1n, hb_1o⟩ := shp_a (W9 a1 hLa1) hka1 0 15 7 rfl (by decide)
  obtain ⟨b_2, hb_2, hb_2L, hb_2k, hb_2n, hb_2o⟩ := shp_a (W9 a1 hLa1) hka1 2 14 7 rfl (by decide)
  obtain ⟨b_3, hb_3, hb_3L, hb_3k, hb_3n, hb_3o⟩ := shp_a (W9 a1 hLa1) hka1 3 15 6 rfl (by decide)
  have ebqa1 : ∀ I J, TBf R I J a1 = TBq I J a1 b_1 b_2 b_3 := fun I J => by simp only [TBf, rr_, Option.getD_some, hb_1, hb_2, hb_3]
  have wbqa1 : bqw_ L κ ow a1 b_1 b_2 b_3 := ⟨⟨hLa1, hb_1L, hb_2L, hb_3L⟩, ⟨(ro_o hka1 (by decide)), (ro_a hb_1k (by decide) hb_1o hka1 rfl), (ro_a hb_2k (by decide) hb_2o hka1 rfl), (ro_a hb_3k (by decide) hb_3o hka1 rfl)⟩⟩
  obtain ⟨s_4, hs_4⟩ : ∃ z, TBq I J a1 b_1 b_2 b_3 = z := ⟨_, rfl⟩
  obtain ⟨b_5, hb_5, hb_5L, hb_5k, hb_5n, hb_5o⟩ := shp_a (W9 a0 hLa0) hka0 0 13 940 rfl (by decide)
  obtain ⟨b_6, hb_6, hb_6L, hb_6k, hb_6n, hb_6o⟩ := shp_a (W9 a0 hLa0) hka0 1 15 28 rfl (by decide)
  obtain ⟨b_7, hb_7, hb_7L, hb_7k, hb_7n, hb_7o⟩ := shp_a (W9 a0 hLa0) hka0 2 14 901 rfl (by decide)
  obtain ⟨b_8, hb_8, hb_8L, hb_8k, hb_8n, hb_8o⟩ := shp_a (W9 a0 hLa0) hka0 3 14 901 rfl (by decide)
  obtain ⟨b_9, hb_9, hb_9L, hb_9k, hb_9n, hb_9o⟩ := shp_a (W9 a0 hLa0) hka0 4 15 901 rfl (by decide)
  have etqa0 : ∀ I J, TPf R I J a0 = TPq I J a0 b_5 b_6 b_7 b_8 b_9 := fun I J => by simp only [TPf, rr_, Option.getD_some, hb_5, hb_6, hb_7, hb_8, hb_9]
  have wtqa0 : tqw_ L κ ow a0 b_5 b_6 b_7 b_8 b_9 := ⟨⟨hLa0, hb_5L, hb_6L, hb_7L, hb_8L, hb_9L⟩, ⟨(ro_o hka0 (by decide)), (ro_a hb_5k (by decide) hb_5o hka0 rfl), (ro_a hb_6k (by decide) hb_6o hka0 rfl), (ro_a hb_7k (by decide) hb_7o hka0 rfl), (ro_a hb_8k (by decide) hb_8o hka0 rfl), (ro_a hb_9k (by decide) hb_9o hka0 rfl)⟩⟩
  obtain ⟨s_10, hs_10⟩ : ∃ z, TPq I J a0 b_5 b_6 b_7 b_8 b_9 = z := ⟨_, rfl⟩
  have esqx : ∀ I J, SPf R I J x = SPq I J x := fun I J => by simp only [SPf, rr_, Option.getD_some]
  have wsqx : sqw_ L κ ow x := ⟨hLx, (ro_o hkx (by decide))⟩
  obtain ⟨s_11, hs_11⟩ : ∃ z, SPq I J x = z := ⟨_, rfl⟩
  refine g_lo (is := [0, 1, 2, 3]) (lo2 := [(0, .ref x), (1, .ref a0), (2, .ref a1), (3, .int a2)]) rfl ?_
  have l_12 : ∀ (n_12 : Nat) (I_12 : Nat → Nat → Int32) (J_13 : Nat → Nat → Int64) (hU_14 : Iv L κ R ow I_12) (hF_15 : Fq L κ ow [704, 705, 1007, 1008, 1009, 1011, 1012, 52000, 52100, 52200] I I_12) (hG_16 : Fq L κ ow [1010] J J_13) (v_17 : Int32) (rv_17 : Rg 0 1 v_17) (v_18 : Int32) (rv_18 : Rg 0 20 v_18) (hq_19 : fLp (fOne 7 (TBq I_12 J_13 a1 b_1 b_2 b_3)) 18 v_18 v_17 (TPq I_12 J_13 a0 b_5 b_6 b_7 b_8 b_9) (SPq I_12 J_13 x) = fAll 7 s_4 s_10 s_11) (hm_20 : 20 < (v_18 : Int32).toInt + (n_12 : Int)), WG p l e { frames := 23, cells := 0, slots := 0, locals := 563 } s m ([.ref x, .ref a0, .ref a1, .int a2] : List Value).toArray below meth c 6 0 0 (MQ below (Qi_ D cy L κ ln R (fun r I2 J2 => Iv L κ R ow I2 ∧ Fq L κ ow [704, 705, 1007, 1008, 1009, 1011, 1012, 52000, 52100, 52200] I I2 ∧ Fq L κ ow [1010] J J2 ∧ Rg 0 1 r ∧ ((r, TPf R I2 J2 a0, SPf R I2 J2 x) = fAll 7 (TBf R I J a1) (TPf R I J a0) (SPf R I J x)))) ([.ref x, .ref a0, .ref a1, .int a2] : List Value).toArray s 0 0 (Al_ L)) D cy (Al_ L) s.heap L κ ln R I_12 J_13 12 [(0, .ref x), (1, .ref a0), (2, .ref a1), (3, .int a2), (4, .int v_17), (5, .int v_18)] [] := by
    intro n_12
    induction n_12 with
    | zero =>
      intro I_12 J_13 hU_14 hF_15 hG_16 v_17 rv_17 v_18 rv_18 hq_19 hm_20
      exact ms_0 rv_18 hm_20
    | succ n_12 ih_12 =>
      intro I_12 J_13 hU_14 hF_15 hG_16 v_17 rv_17 v_18 rv_18 hq_19 hm_20
      obtain ⟨s_21, hs_21⟩ : ∃ z, TBq I_12 J_13 a1 b_1 b_2 b_3 = z := ⟨_, rfl⟩
      obtain ⟨s_22, hs_22⟩ : ∃ z, TPq I_12 J_13 a0 b_5 b_6 b_7 b_8 b_9 = z := ⟨_, rfl⟩
      obtain ⟨s_23, hs_23⟩ : ∃ z, SPq I_12 J_13 x = z := ⟨_, rfl⟩
      simp only [hs_21, hs_22, hs_23] at hq_19
      have hQ_24 := hq_19.symm
      have u_25 := fLp_eq (rd := fOne 7 s_21) (k := 18) (i := v_18) (r := v_17) (t := s_22) (s := s_23) (rv_18)
      refine g_iload C 5 dX7_readAll_12 rfl ?_
      refine g_bipush C (v := 20) dX7_readAll_14 (by decide) ?_
      refine g_icmp_ge C (tgt := 71) dX7_readAll_16 (by decide) (fun h_26 => ?_) (fun h_26 => ?_)
      · skip
        have r_27 := le_r (h_26) rc_20 rv_18
        refine g_iload C 4 dX7_readAll_71 rfl ?_
        exact g_zret (ty := .boolean) (r := v_17) B K rfl (nar_z (rv_17)) ⟨hU_14, hF_15, hG_16, rv_17, (by (try simp only [h_26, if_true, if_false, bqM_pnm, bqM_par, bqM_dnm, bqM_persons, bqM_dishes, bqM_law, bqM_dogs, TB_.w_pnm, TB_.w_par, TB_.w_dnm, TB_.w_persons, TB_.w_dishes, TB_.w_law, TB_.w_dogs, sqM_sl, sqM_so, SP_.w_sl, SP_.w_so, tqM_by_, tqM_wd, tqM_tk, tqM_pl, tqM_vl, tqM_len, tqM_n, tqM_at_, tqM_token, tqM_place, tqM_value, tqM_fault, tqM_fat, TP_.w_by_, TP_.w_wd, TP_.w_tk, TP_.w_pl, TP_.w_vl, TP_.w_len, TP_.w_n, TP_.w_at_, TP_.w_token, TP_.w_place, TP_.w_value, TP_.w_fault, TP_.w_fat] at hQ_24); (try simp only [h_26, if_true, if_false, bqM_pnm, bqM_par, bqM_dnm, bqM_persons, bqM_dishes, bqM_law, bqM_dogs, TB_.w_pnm, TB_.w_par, TB_.w_dnm, TB_.w_persons, TB_.w_dishes, TB_.w_law, TB_.w_dogs, sqM_sl, sqM_so, SP_.w_sl, SP_.w_so, tqM_by_, tqM_wd, tqM_tk, tqM_pl, tqM_vl, tqM_len, tqM_n, tqM_at_, tqM_token, tqM_place, tqM_value, tqM_fault, tqM_fat, TP_.w_by_, TP_.w_wd, TP_.w_tk, TP_.w_pl, TP_.w_vl, TP_.w_len, TP_.w_n, TP_.w_at_, TP_.w_token, TP_.w_place, TP_.w_value, TP_.w_fault, TP_.w_fat] at u_25); simp only [ebqa1, hs_21, hs_4, etqa0, hs_22, hs_10, esqx, hs_23, hs_11, hQ_24, u_25, h_26, if_true, if_false, bqM_pnm, bqM_par, bqM_dnm, bqM_persons, bqM_dishes, bqM_law, bqM_dogs, TB_.w_pnm, TB_.w_par, TB_.w_dnm, TB_.w_persons, TB_.w_dishes, TB_.w_law, TB_.w_dogs, sqM_sl, sqM_so, SP_.w_sl, SP_.w_so, tqM_by_, tqM_wd, tqM_tk, tqM_pl, tqM_vl, tqM_len, tqM_n, tqM_at_, tqM_token, tqM_place, tqM_value, tqM_fault, tqM_fat, TP_.w_by_, TP_.w_wd, TP_.w_tk, TP_.w_pl, TP_.w_vl, TP_.w_len, TP_.w_n, TP_.w_at_, TP_.w_token, TP_.w_place, TP_.w_value, TP_.w_fault, TP_.w_fat])⟩ dX7_readAll_73
      · skip
        have r_28 := lt_l (hi := 19) (nle h_26) rv_18 rc_20 (by decide)
        refine g_iload C 4 dX7_readAll_19 rfl ?_
        refine g_if_eq C (tgt := 71) dX7_readAll_21 (by decide) (fun h_29 => ?_) (fun h_29 => ?_)
        · skip
          have r_30 := (⟨(rv_17).1, (eq_rg (h_29) rc_0).2⟩ : Rg 0 0 v_17)
          refine g_iload C 4 dX7_readAll_71 rfl ?_
          exact g_zret (ty := .boolean) (r := v_17) B K rfl (nar_z (rg_w r_30 (by decide) (by decide))) ⟨hU_14, hF_15, hG_16, rg_w r_30 (by decide) (by decide), (by (try simp only [h_26, (nle h_26), (eq_true h_29), if_true, if_false, bqM_pnm, bqM_par, bqM_dnm, bqM_persons, bqM_dishes, bqM_law, bqM_dogs, TB_.w_pnm, TB_.w_par, TB_.w_dnm, TB_.w_persons, TB_.w_dishes, TB_.w_law, TB_.w_dogs, sqM_sl, sqM_so, SP_.w_sl, SP_.w_so, tqM_by_, tqM_wd, tqM_tk, tqM_pl, tqM_vl, tqM_len, tqM_n, tqM_at_, tqM_token, tqM_place, tqM_value, tqM_fault, tqM_fat, TP_.w_by_, TP_.w_wd, TP_.w_tk, TP_.w_pl, TP_.w_vl, TP_.w_len, TP_.w_n, TP_.w_at_, TP_.w_token, TP_.w_place, TP_.w_value, TP_.w_fault, TP_.w_fat] at hQ_24); (try simp only [h_26, (nle h_26), (eq_true h_29), if_true, if_false, bqM_pnm, bqM_par, bqM_dnm, bqM_persons, bqM_dishes, bqM_law, bqM_dogs, TB_.w_pnm, TB_.w_par, TB_.w_dnm, TB_.w_persons, TB_.w_dishes, TB_.w_law, TB_.w_dogs, sqM_sl, sqM_so, SP_.w_sl, SP_.w_so, tqM_by_, tqM_wd, tqM_tk, tqM_pl, tqM_vl, tqM_len, tqM_n, tqM_at_, tqM_token, tqM_place, tqM_value, tqM_fault, tqM_fat, TP_.w_by_, TP_.w_wd, TP_.w_tk, TP_.w_pl, TP_.w_vl, TP_.w_len, TP_.w_n, TP_.w_at_, TP_.w_token, TP_.w_place, TP_.w_value, TP_.w_fault, TP_.w_fat] at u_25); simp only [ebqa1, hs_21, hs_4, etqa0, hs_22, hs_10, esqx, hs_23, hs_11, hQ_24, u_25, h_26, (nle h_26), (eq_true h_29), if_true, if_false, bqM_pnm, bqM_par, bqM_dnm, bqM_persons, bqM_dishes, bqM_law, bqM_dogs, TB_.w_pnm, TB_.w_par, TB_.w_dnm, TB_.w_persons, TB_.w_dishes, TB_.w_law, TB_.w_dogs, sqM_sl, sqM_so, SP_.w_sl, SP_.w_so, tqM_by_, tqM_wd, tqM_tk, tqM_pl, tqM_vl, tqM_len, tqM_n, tqM_at_, tqM_token, tqM_place, tqM_value, tqM_fault, tqM_fat, TP_.w_by_, TP_.w_wd, TP_.w_tk, TP_.w_pl, TP_.w_vl, TP_.w_len, TP_.w_n, TP_.w_at_, TP_.w_token, TP_.w_place, TP_.w_value, TP_.w_fault, TP_.w_fat])⟩ dX7_readAll_73
        · skip
          have n_31 : ¬ v_17 = 0 := h_29
          have r_32 := ne_lo (lo := 1) n_31 rv_17 rc_0 rfl (by decide)
          refine g_aload_n C 1 dX7_readAll_24 rfl rfl ?_
          obtain ⟨x_33, hx_33, rx_33⟩ := ex_get (I := I_12) (a := a0) (j := 8) (lo := (-2147483648)) (hi := 2147483647) hU_14.1 hLa0 (ro_o hka0 (by decide)) rfl
          have f_34 : s_22.token = x_33 := (congrArg TP_.token hs_22).symm.trans hx_33
          refine g_getI C K hLa0 hka0 f_7_57 (v := x_33) hx_33 dX7_readAll_25 ?_
          refine g_bipush C (v := 18) dX7_readAll_28 (by decide) ?_
          refine g_icmp_ne C (tgt := 71) dX7_readAll_30 (by decide) (fun h_35 => ?_) (fun h_35 => ?_)
          · skip
            have n_36 : ¬ x_33 = 18 := h_35
            refine g_iload C 4 dX7_readAll_71 rfl ?_
            exact g_zret (ty := .boolean) (r := v_17) B K rfl (nar_z (rg_w r_32 (by decide) (by decide))) ⟨hU_14, hF_15, hG_16, rg_w r_32 (by decide) (by decide), (by (try simp only [h_26, (nle h_26), h_29, hx_33, f_34, h_35, if_true, if_false, bqM_pnm, bqM_par, bqM_dnm, bqM_persons, bqM_dishes, bqM_law, bqM_dogs, TB_.w_pnm, TB_.w_par, TB_.w_dnm, TB_.w_persons, TB_.w_dishes, TB_.w_law, TB_.w_dogs, sqM_sl, sqM_so, SP_.w_sl, SP_.w_so, tqM_by_, tqM_wd, tqM_tk, tqM_pl, tqM_vl, tqM_len, tqM_n, tqM_at_, tqM_token, tqM_place, tqM_value, tqM_fault, tqM_fat, TP_.w_by_, TP_.w_wd, TP_.w_tk, TP_.w_pl, TP_.w_vl, TP_.w_len, TP_.w_n, TP_.w_at_, TP_.w_token, TP_.w_place, TP_.w_value, TP_.w_fault, TP_.w_fat] at hQ_24); (try simp only [h_26, (nle h_26), h_29, hx_33, f_34, h_35, if_true, if_false, bqM_pnm, bqM_par, bqM_dnm, bqM_persons, bqM_dishes, bqM_law, bqM_dogs, TB_.w_pnm, TB_.w_par, TB_.w_dnm, TB_.w_persons, TB_.w_dishes, TB_.w_law, TB_.w_dogs, sqM_sl, sqM_so, SP_.w_sl, SP_.w_so, tqM_by_, tqM_wd, tqM_tk, tqM_pl, tqM_vl, tqM_len, tqM_n, tqM_at_, tqM_token, tqM_place, tqM_value, tqM_fault, tqM_fat, TP_.w_by_, TP_.w_wd, TP_.w_tk, TP_.w_pl, TP_.w_vl, TP_.w_len, TP_.w_n, TP_.w_at_, TP_.w_token, TP_.w_place, TP_.w_value, TP_.w_fault, TP_.w_fat] at u_25); simp only [ebqa1, hs_21, hs_4, etqa0, hs_22, hs_10, esqx, hs_23, hs_11, hQ_24, u_25, h_26, (nle h_26), h_29, hx_33, f_34, h_35, if_true, if_false, bqM_pnm, bqM_par, bqM_dnm, bqM_persons, bqM_dishes, bqM_law, bqM_dogs, TB_.w_pnm, TB_.w_par, TB_.w_dnm, TB_.w_persons, TB_.w_dishes, TB_.w_law, TB_.w_dogs, sqM_sl, sqM_so, SP_.w_sl, SP_.w_so, tqM_by_, tqM_wd, tqM_tk, tqM_pl, tqM_vl, tqM_len, tqM_n, tqM_at_, tqM_token, tqM_place, tqM_value, tqM_fault, tqM_fat, TP_.w_by_, TP_.w_wd, TP_.w_tk, TP_.w_pl, TP_.w_vl, TP_.w_len, TP_.w_n, TP_.w_at_, TP_.w_token, TP_.w_place, TP_.w_value, TP_.w_fault, TP_.w_fat])⟩ dX7_readAll_73
          · skip
            have r_37 := (⟨(eq_rg (h_35) rc_18).1, (eq_rg (h_35) rc_18).2⟩ : Rg 18 18 x_33)
            refine g_aload_n C 1 dX7_readAll_33 rfl rfl ?_
            refine g_callVV C K (c_X10_advance W9 hLa0 hka0   hU_14) hLa0 hka0 (by decide) rfl v_7_60 rfl ⟨rfl, rfl⟩ ⟨Nat.le_of_ble_eq_true rfl, Nat.le_of_ble_eq_true rfl⟩ (Nat.le_of_ble_eq_true rfl) ⟨Nat.le_of_ble_eq_true rfl, Nat.le_of_ble_eq_true rfl⟩ dX7_readAll_34 rfl (st := []) (fun I_39 J_40 h_41 => ?_)
            obtain ⟨hUI_39, hFI_39, hGJ_40, fx_38⟩ := h_41
            have hF_42 := fq_tr hF_15 hFI_39 (by decide)
            have hG_43 := fq_tr hG_16 hGJ_40 (by decide)
            obtain ⟨s_45, hs_45⟩ : ∃ z, TPq I_39 J_40 a0 b_5 b_6 b_7 b_8 b_9 = z := ⟨_, rfl⟩
            have c_44 : fAdvance (s_22) = s_45 := by have q := fx_38; simp only [etqa0, hs_22, hs_45] at q; exact q.symm
            have hs_46 : TBq I_39 J_40 a1 b_1 b_2 b_3 = s_21 := (bq_fq wbqa1 hFI_39 hGJ_40 (by decide) (by decide)).trans hs_21
            have hs_47 : SPq I_39 J_40 x = s_23 := (sq_fq wsqx hFI_39 hGJ_40 (by decide) (by decide)).trans hs_23
            refine g_aload_n C 0 dX7_readAll_37 rfl rfl ?_
            refine g_aload_n C 1 dX7_readAll_38 rfl rfl ?_
            refine g_aload_n C 2 dX7_readAll_39 rfl rfl ?_
            refine g_iload_n C 3 dX7_readAll_40 rfl rfl ?_
            refine g_callVI C K (c_X7_readOne_2 W9 hLx hkx hLa0 hka0 hLa1 hka1 a2 (ra2) hUI_39) hLx hkx (by decide) rfl v_7_67 rfl ⟨rfl, rfl⟩ ⟨Nat.le_of_ble_eq_true rfl, Nat.le_of_ble_eq_true rfl⟩ (Nat.le_of_ble_eq_true rfl) ⟨Nat.le_of_ble_eq_true rfl, Nat.le_of_ble_eq_true rfl⟩ dX7_readAll_41 rfl (st := []) (fun x_48 I_49 J_50 h_51 => ?_)
            obtain ⟨hUI_49, hFI_49, hGJ_50, rx_48, fx_48⟩ := h_51
            have hF_52 := fq_tr hF_42 hFI_49 (by decide)
            have hG_53 := fq_tr hG_43 hGJ_50 (by decide)
            obtain ⟨s_55, hs_55⟩ : ∃ z, TPq I_49 J_50 a0 b_5 b_6 b_7 b_8 b_9 = z := ⟨_, rfl⟩
            obtain ⟨s_56, hs_56⟩ : ∃ z, SPq I_49 J_50 x = z := ⟨_, rfl⟩
            have c_54 : fOne 7 (s_21) (s_45) (s_23) = (x_48, s_55, s_56) := by have q := fx_48; simp only [ebqa1, etqa0, esqx, hs_46, hs_45, hs_47, hs_55, hs_56] at q; exact q.symm
            have hs_57 : TBq I_49 J_50 a1 b_1 b_2 b_3 = s_21 := (bq_fq wbqa1 hFI_49 hGJ_50 (by decide) (by decide)).trans hs_46
            refine g_if_eq C (tgt := 62) dX7_readAll_44 (by decide) (fun h_58 => ?_) (fun h_58 => ?_)
            · skip
              have r_59 := (⟨(rx_48).1, (eq_rg (h_58) rc_0).2⟩ : Rg 0 0 x_48)
              refine g_iconst C (v := 0) dX7_readAll_62 (by decide) ?_
              refine g_istore C dX7_readAll_63 (by decide) (lo2 := [(4, .int 0), (0, .ref x), (1, .ref a0), (2, .ref a1), (3, .int a2), (5, .int v_18)]) rfl ?_
              obtain ⟨x_60, hx_60, rx_60, tx_60⟩ := ex_add (y := 1) 1 20 r_28 rc_1 (by decide) (by decide) (by decide) (by decide)
              refine g_iinc C dX7_readAll_65 (k := 5) (v := x_60) rfl hx_60 (by decide) (lo2 := [(5, .int x_60), (4, .int 0), (0, .ref x), (1, .ref a0), (2, .ref a1), (3, .int a2)]) rfl ?_
              refine g_goto C (tgt := 12) dX7_readAll_68 (by decide) ?_
              refine g_lo (is := [2, 3, 4, 5, 1, 0]) (lo2 := [(0, .ref x), (1, .ref a0), (2, .ref a1), (3, .int a2), (4, .int 0), (5, .int x_60)]) rfl ?_
              exact ih_12 I_49 J_50 hUI_49 hF_52 hG_53 0 (rg_w rc_0 (by decide) (by decide)) x_60 (rg_w rx_60 (by decide) (by decide)) (by (try simp only [h_26, (nle h_26), h_29, hx_33, f_34, (eq_true h_35), c_44, c_54, (eq_true h_58), hx_60, if_true, if_false, bqM_pnm, bqM_par, bqM_dnm, bqM_persons, bqM_dishes, bqM_law, bqM_dogs, TB_.w_pnm, TB_.w_par, TB_.w_dnm, TB_.w_persons, TB_.w_dishes, TB_.w_law, TB_.w_dogs, sqM_sl, sqM_so, SP_.w_sl, SP_.w_so, tqM_by_, tqM_wd, tqM_tk, tqM_pl, tqM_vl, tqM_len, tqM_n, tqM_at_, tqM_token, tqM_place, tqM_value, tqM_fault, tqM_fat, TP_.w_by_, TP_.w_wd, TP_.w_tk, TP_.w_pl, TP_.w_vl, TP_.w_len, TP_.w_n, TP_.w_at_, TP_.w_token, TP_.w_place, TP_.w_value, TP_.w_fault, TP_.w_fat] at hQ_24); (try simp only [h_26, (nle h_26), h_29, hx_33, f_34, (eq_true h_35), c_44, c_54, (eq_true h_58), hx_60, if_true, if_false, bqM_pnm, bqM_par, bqM_dnm, bqM_persons, bqM_dishes, bqM_law, bqM_dogs, TB_.w_pnm, TB_.w_par, TB_.w_dnm, TB_.w_persons, TB_.w_dishes, TB_.w_law, TB_.w_dogs, sqM_sl, sqM_so, SP_.w_sl, SP_.w_so, tqM_by_, tqM_wd, tqM_tk, tqM_pl, tqM_vl, tqM_len, tqM_n, tqM_at_, tqM_token, tqM_place, tqM_value, tqM_fault, tqM_fat, TP_.w_by_, TP_.w_wd, TP_.w_tk, TP_.w_pl, TP_.w_vl, TP_.w_len, TP_.w_n, TP_.w_at_, TP_.w_token, TP_.w_place, TP_.w_value, TP_.w_fault, TP_.w_fat] at u_25); simp only [ebqa1, hs_57, hs_4, etqa0, hs_55, hs_10, esqx, hs_56, hs_11, hQ_24, u_25, h_26, (nle h_26), h_29, hx_33, f_34, (eq_true h_35), c_44, c_54, (eq_true h_58), hx_60, if_true, if_false, bqM_pnm, bqM_par, bqM_dnm, bqM_persons, bqM_dishes, bqM_law, bqM_dogs, TB_.w_pnm, TB_.w_par, TB_.w_dnm, TB_.w_persons, TB_.w_dishes, TB_.w_law, TB_.w_dogs, sqM_sl, sqM_so, SP_.w_sl, SP_.w_so, tqM_by_, tqM_wd, tqM_tk, tqM_pl, tqM_vl, tqM_len, tqM_n, tqM_at_, tqM_token, tqM_place, tqM_value, tqM_fault, tqM_fat, TP_.w_by_, TP_.w_wd, TP_.w_tk, TP_.w_pl, TP_.w_vl, TP_.w_len, TP_.w_n, TP_.w_at_, TP_.w_token, TP_.w_place, TP_.w_value, TP_.w_fault, TP_.w_fat]) (ms_1 hm_20 (ti_k tx_60 rc_1) (by decide))
            · skip
              have n_61 : ¬ x_48 = 0 := h_58
              have r_62 := ne_lo (lo := 1) n_61 rx_48 rc_0 rfl (by decide)
              refine g_aload_n C 0 dX7_readAll_47 rfl rfl ?_
              refine g_bipush C (v := 18) dX7_readAll_48 (by decide) ?_
              refine g_iconst C (v := 0) dX7_readAll_50 (by decide) ?_
              refine g_iconst C (v := 0) dX7_readAll_51 (by decide) ?_
              refine g_callVI C K (c_X7_addStep W9 hLx hkx 18 0 0 (rg_w rc_0 (by decide) (by decide)) hUI_49  (fun q => absurd q (by decide))) hLx hkx (by decide) rfl v_7_63 rfl ⟨rfl, rfl⟩ ⟨Nat.le_of_ble_eq_true rfl, Nat.le_of_ble_eq_true rfl⟩ (Nat.le_of_ble_eq_true rfl) ⟨Nat.le_of_ble_eq_true rfl, Nat.le_of_ble_eq_true rfl⟩ dX7_readAll_52 rfl (st := []) (fun x_63 I_64 J_65 h_66 => ?_)
              obtain ⟨hUI_64, hFI_64, hGJ_65, rx_63, fx_63⟩ := h_66
              have hF_67 := fq_tr hF_52 hFI_64 (by decide)
              have hG_68 := fq_tr hG_53 hGJ_65 (by decide)
              obtain ⟨s_70, hs_70⟩ : ∃ z, SPq I_64 J_65 x = z := ⟨_, rfl⟩
              have c_69 : fAddStep (s_56) = (x_63, s_70) := by have q := fx_63; simp only [esqx, hs_56, hs_70] at q; exact q.symm
              have hs_71 : TBq I_64 J_65 a1 b_1 b_2 b_3 = s_21 := (bq_fq wbqa1 hFI_64 hGJ_65 (by decide) (by decide)).trans hs_57
              have hs_72 : TPq I_64 J_65 a0 b_5 b_6 b_7 b_8 b_9 = s_55 := (tq_fq wtqa0 hFI_64 hGJ_65 (by decide) (by decide)).trans hs_55
              refine g_if_eq C (tgt := 62) dX7_readAll_55 (by decide) (fun h_73 => ?_) (fun h_73 => ?_)
              · skip
                have r_74 := (⟨(rx_63).1, (eq_rg (h_73) rc_0).2⟩ : Rg 0 0 x_63)
                refine g_iconst C (v := 0) dX7_readAll_62 (by decide) ?_
                refine g_istore C dX7_readAll_63 (by decide) (lo2 := [(4, .int 0), (0, .ref x), (1, .ref a0), (2, .ref a1), (3, .int a2), (5, .int v_18)]) rfl ?_
                obtain ⟨x_75, hx_75, rx_75, tx_75⟩ := ex_add (y := 1) 1 20 r_28 rc_1 (by decide) (by decide) (by decide) (by decide)
                refine g_iinc C dX7_readAll_65 (k := 5) (v := x_75) rfl hx_75 (by decide) (lo2 := [(5, .int x_75), (4, .int 0), (0, .ref x), (1, .ref a0), (2, .ref a1), (3, .int a2)]) rfl ?_
                refine g_goto C (tgt := 12) dX7_readAll_68 (by decide) ?_
                refine g_lo (is := [2, 3, 4, 5, 1, 0]) (lo2 := [(0, .ref x), (1, .ref a0), (2, .ref a1), (3, .int a2), (4, .int 0), (5, .int x_75)]) rfl ?_
                exact ih_12 I_64 J_65 hUI_64 hF_67 hG_68 0 (rg_w rc_0 (by decide) (by decide)) x_75 (rg_w rx_75 (by decide) (by decide)) (by (try simp only [h_26, (nle h_26), h_29, hx_33, f_34, (eq_true h_35), c_44, c_54, h_58, c_69, (eq_true h_73), hx_75, if_true, if_false, bqM_pnm, bqM_par, bqM_dnm, bqM_persons, bqM_dishes, bqM_law, bqM_dogs, TB_.w_pnm, TB_.w_par, TB_.w_dnm, TB_.w_persons, TB_.w_dishes, TB_.w_law, TB_.w_dogs, sqM_sl, sqM_so, SP_.w_sl, SP_.w_so, tqM_by_, tqM_wd, tqM_tk, tqM_pl, tqM_vl, tqM_len, tqM_n, tqM_at_, tqM_token, tqM_place, tqM_value, tqM_fault, tqM_fat, TP_.w_by_, TP_.w_wd, TP_.w_tk, TP_.w_pl, TP_.w_vl, TP_.w_len, TP_.w_n, TP_.w_at_, TP_.w_token, TP_.w_place, TP_.w_value, TP_.w_fault, TP_.w_fat] at hQ_24); (try simp only [h_26, (nle h_26), h_29, hx_33, f_34, (eq_true h_35), c_44, c_54, h_58, c_69, (eq_true h_73), hx_75, if_true, if_false, bqM_pnm, bqM_par, bqM_dnm, bqM_persons, bqM_dishes, bqM_law, bqM_dogs, TB_.w_pnm, TB_.w_par, TB_.w_dnm, TB_.w_persons, TB_.w_dishes, TB_.w_law, TB_.w_dogs, sqM_sl, sqM_so, SP_.w_sl, SP_.w_so, tqM_by_, tqM_wd, tqM_tk, tqM_pl, tqM_vl, tqM_len, tqM_n, tqM_at_, tqM_token, tqM_place, tqM_value, tqM_fault, tqM_fat, TP_.w_by_, TP_.w_wd, TP_.w_tk, TP_.w_pl, TP_.w_vl, TP_.w_len, TP_.w_n, TP_.w_at_, TP_.w_token, TP_.w_place, TP_.w_value, TP_.w_fault, TP_.w_fat] at u_25); simp only [ebqa1, hs_71, hs_4, etqa0, hs_72, hs_10, esqx, hs_70, hs_11, hQ_24, u_25, h_26, (nle h_26), h_29, hx_33, f_34, (eq_true h_35), c_44, c_54, h_58, c_69, (eq_true h_73), hx_75, if_true, if_false, bqM_pnm, bqM_par, bqM_dnm, bqM_persons, bqM_dishes, bqM_law, bqM_dogs, TB_.w_pnm, TB_.w_par, TB_.w_dnm, TB_.w_persons, TB_.w_dishes, TB_.w_law, TB_.w_dogs, sqM_sl, sqM_so, SP_.w_sl, SP_.w_so, tqM_by_, tqM_wd, tqM_tk, tqM_pl, tqM_vl, tqM_len, tqM_n, tqM_at_, tqM_token, tqM_place, tqM_value, tqM_fault, tqM_fat, TP_.w_by_, TP_.w_wd, TP_.w_tk, TP_.w_pl, TP_.w_vl, TP_.w_len, TP_.w_n, TP_.w_at_, TP_.w_token, TP_.w_place, TP_.w_value, TP_.w_fault, TP_.w_fat]) (ms_1 hm_20 (ti_k tx_75 rc_1) (by decide))
              · skip
                have n_76 : ¬ x_63 = 0 := h_73
                have r_77 := ne_lo (lo := 1) n_76 rx_63 rc_0 rfl (by decide)
                refine g_iconst C (v := 1) dX7_readAll_58 (by decide) ?_
                refine g_goto C (tgt := 63) dX7_readAll_59 (by decide) ?_
                refine g_istore C dX7_readAll_63 (by decide) (lo2 := [(4, .int 1), (0, .ref x), (1, .ref a0), (2, .ref a1), (3, .int a2), (5, .int v_18)]) rfl ?_
                obtain ⟨x_78, hx_78, rx_78, tx_78⟩ := ex_add (y := 1) 1 20 r_28 rc_1 (by decide) (by decide) (by decide) (by decide)
                refine g_iinc C dX7_readAll_65 (k := 5) (v := x_78) rfl hx_78 (by decide) (lo2 := [(5, .int x_78), (4, .int 1), (0, .ref x), (1, .ref a0), (2, .ref a1), (3, .int a2)]) rfl ?_
                refine g_goto C (tgt := 12) dX7_readAll_68 (by decide) ?_
                refine g_lo (is := [2, 3, 4, 5, 1, 0]) (lo2 := [(0, .ref x), (1, .ref a0), (2, .ref a1), (3, .int a2), (4, .int 1), (5, .int x_78)]) rfl ?_
                exact ih_12 I_64 J_65 hUI_64 hF_67 hG_68 1 (rg_w rc_1 (by decide) (by decide)) x_78 (rg_w rx_78 (by decide) (by decide)) (by (try simp only [h_26, (nle h_26), h_29, hx_33, f_34, (eq_true h_35), c_44, c_54, h_58, c_69, h_73, hx_78, if_true, if_false, bqM_pnm, bqM_par, bqM_dnm, bqM_persons, bqM_dishes, bqM_law, bqM_dogs, TB_.w_pnm, TB_.w_par, TB_.w_dnm, TB_.w_persons, TB_.w_dishes, TB_.w_law, TB_.w_dogs, sqM_sl, sqM_so, SP_.w_sl, SP_.w_so, tqM_by_, tqM_wd, tqM_tk, tqM_pl, tqM_vl, tqM_len, tqM_n, tqM_at_, tqM_token, tqM_place, tqM_value, tqM_fault, tqM_fat, TP_.w_by_, TP_.w_wd, TP_.w_tk, TP_.w_pl, TP_.w_vl, TP_.w_len, TP_.w_n, TP_.w_at_, TP_.w_token, TP_.w_place, TP_.w_value, TP_.w_fault, TP_.w_fat] at hQ_24); (try simp only [h_26, (nle h_26), h_29, hx_33, f_34, (eq_true h_35), c_44, c_54, h_58, c_69, h_73, hx_78, if_true, if_false, bqM_pnm, bqM_par, bqM_dnm, bqM_persons, bqM_dishes, bqM_law, bqM_dogs, TB_.w_pnm, TB_.w_par, TB_.w_dnm, TB_.w_persons, TB_.w_dishes, TB_.w_law, TB_.w_dogs, sqM_sl, sqM_so, SP_.w_sl, SP_.w_so, tqM_by_, tqM_wd, tqM_tk, tqM_pl, tqM_vl, tqM_len, tqM_n, tqM_at_, tqM_token, tqM_place, tqM_value, tqM_fault, tqM_fat, TP_.w_by_, TP_.w_wd, TP_.w_tk, TP_.w_pl, TP_.w_vl, TP_.w_len, TP_.w_n, TP_.w_at_, TP_.w_token, TP_.w_place, TP_.w_value, TP_.w_fault, TP_.w_fat] at u_25); simp only [ebqa1, hs_71, hs_4, etqa0, hs_72, hs_10, esqx, hs_70, hs_11, hQ_24, u_25, h_26, (nle h_26), h_29, hx_33, f_34, (eq_true h_35), c_44, c_54, h_58, c_69, h_73, hx_78, if_true, if_false, bqM_pnm, bqM_par, bqM_dnm, bqM_persons, bqM_dishes, bqM_law, bqM_dogs, TB_.w_pnm, TB_.w_par, TB_.w_dnm, TB_.w_persons, TB_.w_dishes, TB_.w_law, TB_.w_dogs, sqM_sl, sqM_so, SP_.w_sl, SP_.w_so, tqM_by_, tqM_wd, tqM_tk, tqM_pl, tqM_vl, tqM_len, tqM_n, tqM_at_, tqM_token, tqM_place, tqM_value, tqM_fault, tqM_fat, TP_.w_by_, TP_.w_wd, TP_.w_tk, TP_.w_pl, TP_.w_vl, TP_.w_len, TP_.w_n, TP_.w_at_, TP_.w_token, TP_.w_place, TP_.w_value, TP_.w_fault, TP_.w_fat]) (ms_1 hm_20 (ti_k tx_78 rc_1) (by decide))
  refine g_aload_n C 0 dX7_readAll_0 rfl rfl ?_
  refine g_aload_n C 1 dX7_readAll_1 rfl rfl ?_
  refine g_aload_n C 2 dX7_readAll_2 rfl rfl ?_
  refine g_iload_n C 3 dX7_readAll_3 rfl rfl ?_
  refine g_callVI C K (c_X7_readOne_2 W9 hLx hkx hLa0 hka0 hLa1 hka1 a2 (ra2) hU) hLx hkx (by decide) rfl v_7_67 rfl ⟨rfl, rfl⟩ ⟨Nat.le_of_ble_eq_true rfl, Nat.le_of_ble_eq_true rfl⟩ (Nat.le_of_ble_eq_true rfl) ⟨Nat.le_of_ble_eq_true rfl, Nat.le_of_ble_eq_true rfl⟩ dX7_readAll_4 rfl (st := []) (fun x_79 I_80 J_81 h_82 => ?_)
  obtain ⟨hUI_80, hFI_80, hGJ_81, rx_79, fx_79⟩ := h_82
  have hF_83 := fq_tr hF hFI_80 (by decide)
  have hG_84 := fq_tr hG hGJ_81 (by decide)
  obtain ⟨s_86, hs_86⟩ : ∃ z, TPq I_80 J_81 a0 b_5 b_6 b_7 b_8 b_9 = z := ⟨_, rfl⟩
  obtain ⟨s_87, hs_87⟩ : ∃ z, SPq I_80 J_81 x = z := ⟨_, rfl⟩
  have c_85 : fOne 7 (s_4) (s_10) (s_11) = (x_79, s_86, s_87) := by have q := fx_79; simp only [ebqa1, etqa0, esqx, hs_4, hs_10, hs_11, hs_86, hs_87] at q; exact q.symm
  have hs_88 : TBq I_80 J_81 a1 b_1 b_2 b_3 = s_4 := (bq_fq wbqa1 hFI_80 hGJ_81 (by decide) (by decide)).trans hs_4
  refine g_istore C dX7_readAll_7 (by decide) (lo2 := [(4, .int x_79), (0, .ref x), (1, .ref a0), (2, .ref a1), (3, .int a2)]) rfl ?_
  refine g_iconst C (v := 0) dX7_readAll_9 (by decide) ?_
  refine g_istore C dX7_readAll_10 (by decide) (lo2 := [(5, .int 0), (4, .int x_79), (0, .ref x), (1, .ref a0), (2, .ref a1), (3, .int a2)]) rfl ?_
  refine g_lo (is := [2, 3, 4, 5, 1, 0]) (lo2 := [(0, .ref x), (1, .ref a0), (2, .ref a1), (3, .int a2), (4, .int x_79), (5, .int 0)]) rfl ?_
  exact l_12 21 I_80 J_81 hUI_80 hF_83 hG_84 x_79 (rx_79) 0 (rg_w rc_0 (by decide) (by decide)) (by simp only [fAll, ebqa1, hs_88, hs_4, etqa0, hs_86, hs_10, esqx, hs_87, hs_11, c_85, if_true, if_false, bqM_pnm, bqM_par, bqM_dnm, bqM_persons, bqM_dishes, bqM_law, bqM_dogs, TB_.w_pnm, TB_.w_par, TB_.w_dnm, TB_.w_persons, TB_.w_dishes, TB_.w_law, TB_.w_dogs, sqM_sl, sqM_so, SP_.w_sl, SP_.w_so, tqM_by_, tqM_wd, tqM_tk, tqM_pl, tqM_vl, tqM_len, tqM_n, tqM_at_, tqM_token, tqM_place, tqM_value, tqM_fault, tqM_fat, TP_.w_by_, TP_.w_wd, TP_.w_tk, TP_.w_pl, TP_.w_vl, TP_.w_len, TP_.w_n, TP_.w_at_, TP_.w_token, TP_.w_place, TP_.w_value, TP_.w_fault, TP_.w_fat]) (ms_s (a := 0) (b := 20) (N := 21) (rg_w rc_0 (by decide) (by decide)) (by decide))
set_option maxRecDepth 100000 in
set_option maxHeartbeats 8000000 in
theorem c_X7_readCond_2 {l : Launch} {D : va_G} {cy : Nat → ClassId} {L : List Nat} {κ ln : Nat → Nat} {R : Nat → Nat → Option Nat} {I : Nat → Nat → Int32} {J : Nat → Nat → Int64} {ow : Nat → Nat × Nat} (W9 : ∀ a ∈ L, Shp L κ ln R ow a) {x : Nat} (hLx : x ∈ L) (hkx : κ x = 7) {a0 : Nat} (hLa0 : a0 ∈ L) (hka0 : κ a0 = 10) {a1 : Nat} (hLa1 : a1 ∈ L) (hka1 : κ a1 = 8) (a2 : Int32) (ra2 : Rg 2 2 a2) (hU : Iv L κ R ow I) : CtI l yX7_readCond cX7_readCond 6 (some .boolean) { frames := 24, cells := 0, slots := 0, locals := 588 } D cy L κ ln R I J [.ref x, .ref a0, .ref a1, .int a2] (fun r I2 J2 => Iv L κ R ow I2 ∧ Fq L κ ow [704, 705, 1007, 1008, 1009, 1011, 1012, 52000, 52100, 52200] I I2 ∧ Fq L κ ow [1010] J J2 ∧ Rg 0 1 r ∧ ((r, TPf R I2 J2 a0, SPf R I2 J2 x) = fCond 7 (TBf R I J a1) (TPf R I J a0) (SPf R I J x))) := by
  refine CtI.of (by decide +kernel) (Nat.le_of_ble_eq_true rfl) ?_
  intro p e s m below meth c B K
  have C := B.1
  have hF : Fq L κ ow [704, 705, 1007, 1008, 1009, 1011, 1012, 52000, 52100, 52200] I I := fq_rf
  have hG : Fq L κ ow [1010] J J := fq_rf
  obtain ⟨b_1, hb_1, hb_1L, hb_1k, hb_1n, hb_1o⟩ := shp_a (W9 a1 hLa1) hka1 0 15 7 rfl (by decide)
  obtain ⟨b_2, hb_2, hb_2L, hb_2k, hb_2n, hb_2o⟩ := shp_a (W9 a1 hLa1) hka1 2 14 7 rfl (by decide)
  obtain ⟨b_3, hb_3, hb_3L, hb_3k, hb_3n, hb_3o⟩ := shp_a (W9 a1 hLa1) hka1 3 15 6 rfl (by decide)
  have ebqa1 : ∀ I J, TBf R I J a1 = TBq I J a1 b_1 b_2 b_3 := fun I J => by simp only [TBf, rr_, Option.getD_some, hb_1, hb_2, hb_3]
  have wbqa1 : bqw_ L κ ow a1 b_1 b_2 b_3 := ⟨⟨hLa1, hb_1L, hb_2L, hb_3L⟩, ⟨(ro_o hka1 (by decide)), (ro_a hb_1k (by decide) hb_1o hka1 rfl), (ro_a hb_2k (by decide) hb_2o hka1 rfl), (ro_a hb_3k (by decide) hb_3o hka1 rfl)⟩⟩
  obtain ⟨s_4, hs_4⟩ : ∃ z, TBq I J a1 b_1 b_2 b_3 = z := ⟨_, rfl⟩
  obtain ⟨b_5, hb_5, hb_5L, hb_5k, hb_5n, hb_5o⟩ := shp_a (W9 a0 hLa0) hka0 0 13 940 rfl (by decide)
  obtain ⟨b_6, hb_6, hb_6L, hb_6k, hb_6n, hb_6o⟩ := shp_a (W9 a0 hLa0) hka0 1 15 28 rfl (by decide)
  obtain ⟨b_7, hb_7, hb_7L, hb_7k, hb_7n, hb_7o⟩ := shp_a (W9 a0 hLa0) hka0 2 14 901 rfl (by decide)
  obtain ⟨b_8, hb_8, hb_8L, hb_8k, hb_8n, hb_8o⟩ := shp_a (W9 a0 hLa0) hka0 3 14 901 rfl (by decide)
  obtain ⟨b_9, hb_9, hb_9L, hb_9k, hb_9n, hb_9o⟩ := shp_a (W9 a0 hLa0) hka0 4 15 901 rfl (by decide)
  have etqa0 : ∀ I J, TPf R I J a0 = TPq I J a0 b_5 b_6 b_7 b_8 b_9 := fun I J => by simp only [TPf, rr_, Option.getD_some, hb_5, hb_6, hb_7, hb_8, hb_9]
  have wtqa0 : tqw_ L κ ow a0 b_5 b_6 b_7 b_8 b_9 := ⟨⟨hLa0, hb_5L, hb_6L, hb_7L, hb_8L, hb_9L⟩, ⟨(ro_o hka0 (by decide)), (ro_a hb_5k (by decide) hb_5o hka0 rfl), (ro_a hb_6k (by decide) hb_6o hka0 rfl), (ro_a hb_7k (by decide) hb_7o hka0 rfl), (ro_a hb_8k (by decide) hb_8o hka0 rfl), (ro_a hb_9k (by decide) hb_9o hka0 rfl)⟩⟩
  obtain ⟨s_10, hs_10⟩ : ∃ z, TPq I J a0 b_5 b_6 b_7 b_8 b_9 = z := ⟨_, rfl⟩
  have esqx : ∀ I J, SPf R I J x = SPq I J x := fun I J => by simp only [SPf, rr_, Option.getD_some]
  have wsqx : sqw_ L κ ow x := ⟨hLx, (ro_o hkx (by decide))⟩
  obtain ⟨s_11, hs_11⟩ : ∃ z, SPq I J x = z := ⟨_, rfl⟩
  refine g_lo (is := [0, 1, 2, 3]) (lo2 := [(0, .ref x), (1, .ref a0), (2, .ref a1), (3, .int a2)]) rfl ?_
  have l_12 : ∀ (n_12 : Nat) (I_12 : Nat → Nat → Int32) (J_13 : Nat → Nat → Int64) (hU_14 : Iv L κ R ow I_12) (hF_15 : Fq L κ ow [704, 705, 1007, 1008, 1009, 1011, 1012, 52000, 52100, 52200] I I_12) (hG_16 : Fq L κ ow [1010] J J_13) (v_17 : Int32) (rv_17 : Rg 0 1 v_17) (v_18 : Int32) (rv_18 : Rg 0 20 v_18) (hq_19 : fLp (fAll 7 (TBq I_12 J_13 a1 b_1 b_2 b_3)) 17 v_18 v_17 (TPq I_12 J_13 a0 b_5 b_6 b_7 b_8 b_9) (SPq I_12 J_13 x) = fCond 7 s_4 s_10 s_11) (hm_20 : 20 < (v_18 : Int32).toInt + (n_12 : Int)), WG p l e { frames := 24, cells := 0, slots := 0, locals := 588 } s m ([.ref x, .ref a0, .ref a1, .int a2] : List Value).toArray below meth c 6 0 0 (MQ below (Qi_ D cy L κ ln R (fun r I2 J2 => Iv L κ R ow I2 ∧ Fq L κ ow [704, 705, 1007, 1008, 1009, 1011, 1012, 52000, 52100, 52200] I I2 ∧ Fq L κ ow [1010] J J2 ∧ Rg 0 1 r ∧ ((r, TPf R I2 J2 a0, SPf R I2 J2 x) = fCond 7 (TBf R I J a1) (TPf R I J a0) (SPf R I J x)))) ([.ref x, .ref a0, .ref a1, .int a2] : List Value).toArray s 0 0 (Al_ L)) D cy (Al_ L) s.heap L κ ln R I_12 J_13 12 [(0, .ref x), (1, .ref a0), (2, .ref a1), (3, .int a2), (4, .int v_17), (5, .int v_18)] [] := by
    intro n_12
    induction n_12 with
    | zero =>
      intro I_12 J_13 hU_14 hF_15 hG_16 v_17 rv_17 v_18 rv_18 hq_19 hm_20
      exact ms_0 rv_18 hm_20
    | succ n_12 ih_12 =>
      intro I_12 J_13 hU_14 hF_15 hG_16 v_17 rv_17 v_18 rv_18 hq_19 hm_20
      obtain ⟨s_21, hs_21⟩ : ∃ z, TBq I_12 J_13 a1 b_1 b_2 b_3 = z := ⟨_, rfl⟩
      obtain ⟨s_22, hs_22⟩ : ∃ z, TPq I_12 J_13 a0 b_5 b_6 b_7 b_8 b_9 = z := ⟨_, rfl⟩
      obtain ⟨s_23, hs_23⟩ : ∃ z, SPq I_12 J_13 x = z := ⟨_, rfl⟩
      simp only [hs_21, hs_22, hs_23] at hq_19
      have hQ_24 := hq_19.symm
      have u_25 := fLp_eq (rd := fAll 7 s_21) (k := 17) (i := v_18) (r := v_17) (t := s_22) (s := s_23) (rv_18)
      refine g_iload C 5 dX7_readCond_12 rfl ?_
      refine g_bipush C (v := 20) dX7_readCond_14 (by decide) ?_
      refine g_icmp_ge C (tgt := 71) dX7_readCond_16 (by decide) (fun h_26 => ?_) (fun h_26 => ?_)
      · skip
        have r_27 := le_r (h_26) rc_20 rv_18
        refine g_iload C 4 dX7_readCond_71 rfl ?_
        exact g_zret (ty := .boolean) (r := v_17) B K rfl (nar_z (rv_17)) ⟨hU_14, hF_15, hG_16, rv_17, (by (try simp only [h_26, if_true, if_false, bqM_pnm, bqM_par, bqM_dnm, bqM_persons, bqM_dishes, bqM_law, bqM_dogs, TB_.w_pnm, TB_.w_par, TB_.w_dnm, TB_.w_persons, TB_.w_dishes, TB_.w_law, TB_.w_dogs, sqM_sl, sqM_so, SP_.w_sl, SP_.w_so, tqM_by_, tqM_wd, tqM_tk, tqM_pl, tqM_vl, tqM_len, tqM_n, tqM_at_, tqM_token, tqM_place, tqM_value, tqM_fault, tqM_fat, TP_.w_by_, TP_.w_wd, TP_.w_tk, TP_.w_pl, TP_.w_vl, TP_.w_len, TP_.w_n, TP_.w_at_, TP_.w_token, TP_.w_place, TP_.w_value, TP_.w_fault, TP_.w_fat] at hQ_24); (try simp only [h_26, if_true, if_false, bqM_pnm, bqM_par, bqM_dnm, bqM_persons, bqM_dishes, bqM_law, bqM_dogs, TB_.w_pnm, TB_.w_par, TB_.w_dnm, TB_.w_persons, TB_.w_dishes, TB_.w_law, TB_.w_dogs, sqM_sl, sqM_so, SP_.w_sl, SP_.w_so, tqM_by_, tqM_wd, tqM_tk, tqM_pl, tqM_vl, tqM_len, tqM_n, tqM_at_, tqM_token, tqM_place, tqM_value, tqM_fault, tqM_fat, TP_.w_by_, TP_.w_wd, TP_.w_tk, TP_.w_pl, TP_.w_vl, TP_.w_len, TP_.w_n, TP_.w_at_, TP_.w_token, TP_.w_place, TP_.w_value, TP_.w_fault, TP_.w_fat] at u_25); simp only [ebqa1, hs_21, hs_4, etqa0, hs_22, hs_10, esqx, hs_23, hs_11, hQ_24, u_25, h_26, if_true, if_false, bqM_pnm, bqM_par, bqM_dnm, bqM_persons, bqM_dishes, bqM_law, bqM_dogs, TB_.w_pnm, TB_.w_par, TB_.w_dnm, TB_.w_persons, TB_.w_dishes, TB_.w_law, TB_.w_dogs, sqM_sl, sqM_so, SP_.w_sl, SP_.w_so, tqM_by_, tqM_wd, tqM_tk, tqM_pl, tqM_vl, tqM_len, tqM_n, tqM_at_, tqM_token, tqM_place, tqM_value, tqM_fault, tqM_fat, TP_.w_by_, TP_.w_wd, TP_.w_tk, TP_.w_pl, TP_.w_vl, TP_.w_len, TP_.w_n, TP_.w_at_, TP_.w_token, TP_.w_place, TP_.w_value, TP_.w_fault, TP_.w_fat])⟩ dX7_readCond_73
      · skip
        have r_28 := lt_l (hi := 19) (nle h_26) rv_18 rc_20 (by decide)
        refine g_iload C 4 dX7_readCond_19 rfl ?_
        refine g_if_eq C (tgt := 71) dX7_readCond_21 (by decide) (fun h_29 => ?_) (fun h_29 => ?_)
        · skip
          have r_30 := (⟨(rv_17).1, (eq_rg (h_29) rc_0).2⟩ : Rg 0 0 v_17)
          refine g_iload C 4 dX7_readCond_71 rfl ?_
          exact g_zret (ty := .boolean) (r := v_17) B K rfl (nar_z (rg_w r_30 (by decide) (by decide))) ⟨hU_14, hF_15, hG_16, rg_w r_30 (by decide) (by decide), (by (try simp only [h_26, (nle h_26), (eq_true h_29), if_true, if_false, bqM_pnm, bqM_par, bqM_dnm, bqM_persons, bqM_dishes, bqM_law, bqM_dogs, TB_.w_pnm, TB_.w_par, TB_.w_dnm, TB_.w_persons, TB_.w_dishes, TB_.w_law, TB_.w_dogs, sqM_sl, sqM_so, SP_.w_sl, SP_.w_so, tqM_by_, tqM_wd, tqM_tk, tqM_pl, tqM_vl, tqM_len, tqM_n, tqM_at_, tqM_token, tqM_place, tqM_value, tqM_fault, tqM_fat, TP_.w_by_, TP_.w_wd, TP_.w_tk, TP_.w_pl, TP_.w_vl, TP_.w_len, TP_.w_n, TP_.w_at_, TP_.w_token, TP_.w_place, TP_.w_value, TP_.w_fault, TP_.w_fat] at hQ_24); (try simp only [h_26, (nle h_26), (eq_true h_29), if_true, if_false, bqM_pnm, bqM_par, bqM_dnm, bqM_persons, bqM_dishes, bqM_law, bqM_dogs, TB_.w_pnm, TB_.w_par, TB_.w_dnm, TB_.w_persons, TB_.w_dishes, TB_.w_law, TB_.w_dogs, sqM_sl, sqM_so, SP_.w_sl, SP_.w_so, tqM_by_, tqM_wd, tqM_tk, tqM_pl, tqM_vl, tqM_len, tqM_n, tqM_at_, tqM_token, tqM_place, tqM_value, tqM_fault, tqM_fat, TP_.w_by_, TP_.w_wd, TP_.w_tk, TP_.w_pl, TP_.w_vl, TP_.w_len, TP_.w_n, TP_.w_at_, TP_.w_token, TP_.w_place, TP_.w_value, TP_.w_fault, TP_.w_fat] at u_25); simp only [ebqa1, hs_21, hs_4, etqa0, hs_22, hs_10, esqx, hs_23, hs_11, hQ_24, u_25, h_26, (nle h_26), (eq_true h_29), if_true, if_false, bqM_pnm, bqM_par, bqM_dnm, bqM_persons, bqM_dishes, bqM_law, bqM_dogs, TB_.w_pnm, TB_.w_par, TB_.w_dnm, TB_.w_persons, TB_.w_dishes, TB_.w_law, TB_.w_dogs, sqM_sl, sqM_so, SP_.w_sl, SP_.w_so, tqM_by_, tqM_wd, tqM_tk, tqM_pl, tqM_vl, tqM_len, tqM_n, tqM_at_, tqM_token, tqM_place, tqM_value, tqM_fault, tqM_fat, TP_.w_by_, TP_.w_wd, TP_.w_tk, TP_.w_pl, TP_.w_vl, TP_.w_len, TP_.w_n, TP_.w_at_, TP_.w_token, TP_.w_place, TP_.w_value, TP_.w_fault, TP_.w_fat])⟩ dX7_readCond_73
        · skip
          have n_31 : ¬ v_17 = 0 := h_29
          have r_32 := ne_lo (lo := 1) n_31 rv_17 rc_0 rfl (by decide)
          refine g_aload_n C 1 dX7_readCond_24 rfl rfl ?_
          obtain ⟨x_33, hx_33, rx_33⟩ := ex_get (I := I_12) (a := a0) (j := 8) (lo := (-2147483648)) (hi := 2147483647) hU_14.1 hLa0 (ro_o hka0 (by decide)) rfl
          have f_34 : s_22.token = x_33 := (congrArg TP_.token hs_22).symm.trans hx_33
          refine g_getI C K hLa0 hka0 f_7_57 (v := x_33) hx_33 dX7_readCond_25 ?_
          refine g_bipush C (v := 17) dX7_readCond_28 (by decide) ?_
          refine g_icmp_ne C (tgt := 71) dX7_readCond_30 (by decide) (fun h_35 => ?_) (fun h_35 => ?_)
          · skip
            have n_36 : ¬ x_33 = 17 := h_35
            refine g_iload C 4 dX7_readCond_71 rfl ?_
            exact g_zret (ty := .boolean) (r := v_17) B K rfl (nar_z (rg_w r_32 (by decide) (by decide))) ⟨hU_14, hF_15, hG_16, rg_w r_32 (by decide) (by decide), (by (try simp only [h_26, (nle h_26), h_29, hx_33, f_34, h_35, if_true, if_false, bqM_pnm, bqM_par, bqM_dnm, bqM_persons, bqM_dishes, bqM_law, bqM_dogs, TB_.w_pnm, TB_.w_par, TB_.w_dnm, TB_.w_persons, TB_.w_dishes, TB_.w_law, TB_.w_dogs, sqM_sl, sqM_so, SP_.w_sl, SP_.w_so, tqM_by_, tqM_wd, tqM_tk, tqM_pl, tqM_vl, tqM_len, tqM_n, tqM_at_, tqM_token, tqM_place, tqM_value, tqM_fault, tqM_fat, TP_.w_by_, TP_.w_wd, TP_.w_tk, TP_.w_pl, TP_.w_vl, TP_.w_len, TP_.w_n, TP_.w_at_, TP_.w_token, TP_.w_place, TP_.w_value, TP_.w_fault, TP_.w_fat] at hQ_24); (try simp only [h_26, (nle h_26), h_29, hx_33, f_34, h_35, if_true, if_false, bqM_pnm, bqM_par, bqM_dnm, bqM_persons, bqM_dishes, bqM_law, bqM_dogs, TB_.w_pnm, TB_.w_par, TB_.w_dnm, TB_.w_persons, TB_.w_dishes, TB_.w_law, TB_.w_dogs, sqM_sl, sqM_so, SP_.w_sl, SP_.w_so, tqM_by_, tqM_wd, tqM_tk, tqM_pl, tqM_vl, tqM_len, tqM_n, tqM_at_, tqM_token, tqM_place, tqM_value, tqM_fault, tqM_fat, TP_.w_by_, TP_.w_wd, TP_.w_tk, TP_.w_pl, TP_.w_vl, TP_.w_len, TP_.w_n, TP_.w_at_, TP_.w_token, TP_.w_place, TP_.w_value, TP_.w_fault, TP_.w_fat] at u_25); simp only [ebqa1, hs_21, hs_4, etqa0, hs_22, hs_10, esqx, hs_23, hs_11, hQ_24, u_25, h_26, (nle h_26), h_29, hx_33, f_34, h_35, if_true, if_false, bqM_pnm, bqM_par, bqM_dnm, bqM_persons, bqM_dishes, bqM_law, bqM_dogs, TB_.w_pnm, TB_.w_par, TB_.w_dnm, TB_.w_persons, TB_.w_dishes, TB_.w_law, TB_.w_dogs, sqM_sl, sqM_so, SP_.w_sl, SP_.w_so, tqM_by_, tqM_wd, tqM_tk, tqM_pl, tqM_vl, tqM_len, tqM_n, tqM_at_, tqM_token, tqM_place, tqM_value, tqM_fault, tqM_fat, TP_.w_by_, TP_.w_wd, TP_.w_tk, TP_.w_pl, TP_.w_vl, TP_.w_len, TP_.w_n, TP_.w_at_, TP_.w_token, TP_.w_place, TP_.w_value, TP_.w_fault, TP_.w_fat])⟩ dX7_readCond_73
          · skip
            have r_37 := (⟨(eq_rg (h_35) rc_17).1, (eq_rg (h_35) rc_17).2⟩ : Rg 17 17 x_33)
            refine g_aload_n C 1 dX7_readCond_33 rfl rfl ?_
            refine g_callVV C K (c_X10_advance W9 hLa0 hka0   hU_14) hLa0 hka0 (by decide) rfl v_7_60 rfl ⟨rfl, rfl⟩ ⟨Nat.le_of_ble_eq_true rfl, Nat.le_of_ble_eq_true rfl⟩ (Nat.le_of_ble_eq_true rfl) ⟨Nat.le_of_ble_eq_true rfl, Nat.le_of_ble_eq_true rfl⟩ dX7_readCond_34 rfl (st := []) (fun I_39 J_40 h_41 => ?_)
            obtain ⟨hUI_39, hFI_39, hGJ_40, fx_38⟩ := h_41
            have hF_42 := fq_tr hF_15 hFI_39 (by decide)
            have hG_43 := fq_tr hG_16 hGJ_40 (by decide)
            obtain ⟨s_45, hs_45⟩ : ∃ z, TPq I_39 J_40 a0 b_5 b_6 b_7 b_8 b_9 = z := ⟨_, rfl⟩
            have c_44 : fAdvance (s_22) = s_45 := by have q := fx_38; simp only [etqa0, hs_22, hs_45] at q; exact q.symm
            have hs_46 : TBq I_39 J_40 a1 b_1 b_2 b_3 = s_21 := (bq_fq wbqa1 hFI_39 hGJ_40 (by decide) (by decide)).trans hs_21
            have hs_47 : SPq I_39 J_40 x = s_23 := (sq_fq wsqx hFI_39 hGJ_40 (by decide) (by decide)).trans hs_23
            refine g_aload_n C 0 dX7_readCond_37 rfl rfl ?_
            refine g_aload_n C 1 dX7_readCond_38 rfl rfl ?_
            refine g_aload_n C 2 dX7_readCond_39 rfl rfl ?_
            refine g_iload_n C 3 dX7_readCond_40 rfl rfl ?_
            refine g_callVI C K (c_X7_readAll_2 W9 hLx hkx hLa0 hka0 hLa1 hka1 a2 (ra2) hUI_39) hLx hkx (by decide) rfl v_7_54 rfl ⟨rfl, rfl⟩ ⟨Nat.le_of_ble_eq_true rfl, Nat.le_of_ble_eq_true rfl⟩ (Nat.le_of_ble_eq_true rfl) ⟨Nat.le_of_ble_eq_true rfl, Nat.le_of_ble_eq_true rfl⟩ dX7_readCond_41 rfl (st := []) (fun x_48 I_49 J_50 h_51 => ?_)
            obtain ⟨hUI_49, hFI_49, hGJ_50, rx_48, fx_48⟩ := h_51
            have hF_52 := fq_tr hF_42 hFI_49 (by decide)
            have hG_53 := fq_tr hG_43 hGJ_50 (by decide)
            obtain ⟨s_55, hs_55⟩ : ∃ z, TPq I_49 J_50 a0 b_5 b_6 b_7 b_8 b_9 = z := ⟨_, rfl⟩
            obtain ⟨s_56, hs_56⟩ : ∃ z, SPq I_49 J_50 x = z := ⟨_, rfl⟩
            have c_54 : fAll 7 (s_21) (s_45) (s_23) = (x_48, s_55, s_56) := by have q := fx_48; simp only [ebqa1, etqa0, esqx, hs_46, hs_45, hs_47, hs_55, hs_56] at q; exact q.symm
            have hs_57 : TBq I_49 J_50 a1 b_1 b_2 b_3 = s_21 := (bq_fq wbqa1 hFI_49 hGJ_50 (by decide) (by decide)).trans hs_46
            refine g_if_eq C (tgt := 62) dX7_readCond_44 (by decide) (fun h_58 => ?_) (fun h_58 => ?_)
            · skip
              have r_59 := (⟨(rx_48).1, (eq_rg (h_58) rc_0).2⟩ : Rg 0 0 x_48)
              refine g_iconst C (v := 0) dX7_readCond_62 (by decide) ?_
              refine g_istore C dX7_readCond_63 (by decide) (lo2 := [(4, .int 0), (0, .ref x), (1, .ref a0), (2, .ref a1), (3, .int a2), (5, .int v_18)]) rfl ?_
              obtain ⟨x_60, hx_60, rx_60, tx_60⟩ := ex_add (y := 1) 1 20 r_28 rc_1 (by decide) (by decide) (by decide) (by decide)
              refine g_iinc C dX7_readCond_65 (k := 5) (v := x_60) rfl hx_60 (by decide) (lo2 := [(5, .int x_60), (4, .int 0), (0, .ref x), (1, .ref a0), (2, .ref a1), (3, .int a2)]) rfl ?_
              refine g_goto C (tgt := 12) dX7_readCond_68 (by decide) ?_
              refine g_lo (is := [2, 3, 4, 5, 1, 0]) (lo2 := [(0, .ref x), (1, .ref a0), (2, .ref a1), (3, .int a2), (4, .int 0), (5, .int x_60)]) rfl ?_
              exact ih_12 I_49 J_50 hUI_49 hF_52 hG_53 0 (rg_w rc_0 (by decide) (by decide)) x_60 (rg_w rx_60 (by decide) (by decide)) (by (try simp only [h_26, (nle h_26), h_29, hx_33, f_34, (eq_true h_35), c_44, c_54, (eq_true h_58), hx_60, if_true, if_false, bqM_pnm, bqM_par, bqM_dnm, bqM_persons, bqM_dishes, bqM_law, bqM_dogs, TB_.w_pnm, TB_.w_par, TB_.w_dnm, TB_.w_persons, TB_.w_dishes, TB_.w_law, TB_.w_dogs, sqM_sl, sqM_so, SP_.w_sl, SP_.w_so, tqM_by_, tqM_wd, tqM_tk, tqM_pl, tqM_vl, tqM_len, tqM_n, tqM_at_, tqM_token, tqM_place, tqM_value, tqM_fault, tqM_fat, TP_.w_by_, TP_.w_wd, TP_.w_tk, TP_.w_pl, TP_.w_vl, TP_.w_len, TP_.w_n, TP_.w_at_, TP_.w_token, TP_.w_place, TP_.w_value, TP_.w_fault, TP_.w_fat] at hQ_24); (try simp only [h_26, (nle h_26), h_29, hx_33, f_34, (eq_true h_35), c_44, c_54, (eq_true h_58), hx_60, if_true, if_false, bqM_pnm, bqM_par, bqM_dnm, bqM_persons, bqM_dishes, bqM_law, bqM_dogs, TB_.w_pnm, TB_.w_par, TB_.w_dnm, TB_.w_persons, TB_.w_dishes, TB_.w_law, TB_.w_dogs, sqM_sl, sqM_so, SP_.w_sl, SP_.w_so, tqM_by_, tqM_wd, tqM_tk, tqM_pl, tqM_vl, tqM_len, tqM_n, tqM_at_, tqM_token, tqM_place, tqM_value, tqM_fault, tqM_fat, TP_.w_by_, TP_.w_wd, TP_.w_tk, TP_.w_pl, TP_.w_vl, TP_.w_len, TP_.w_n, TP_.w_at_, TP_.w_token, TP_.w_place, TP_.w_value, TP_.w_fault, TP_.w_fat] at u_25); simp only [ebqa1, hs_57, hs_4, etqa0, hs_55, hs_10, esqx, hs_56, hs_11, hQ_24, u_25, h_26, (nle h_26), h_29, hx_33, f_34, (eq_true h_35), c_44, c_54, (eq_true h_58), hx_60, if_true, if_false, bqM_pnm, bqM_par, bqM_dnm, bqM_persons, bqM_dishes, bqM_law, bqM_dogs, TB_.w_pnm, TB_.w_par, TB_.w_dnm, TB_.w_persons, TB_.w_dishes, TB_.w_law, TB_.w_dogs, sqM_sl, sqM_so, SP_.w_sl, SP_.w_so, tqM_by_, tqM_wd, tqM_tk, tqM_pl, tqM_vl, tqM_len, tqM_n, tqM_at_, tqM_token, tqM_place, tqM_value, tqM_fault, tqM_fat, TP_.w_by_, TP_.w_wd, TP_.w_tk, TP_.w_pl, TP_.w_vl, TP_.w_len, TP_.w_n, TP_.w_at_, TP_.w_token, TP_.w_place, TP_.w_value, TP_.w_fault, TP_.w_fat]) (ms_1 hm_20 (ti_k tx_60 rc_1) (by decide))
            · skip
              have n_61 : ¬ x_48 = 0 := h_58
              have r_62 := ne_lo (lo := 1) n_61 rx_48 rc_0 rfl (by decide)
              refine g_aload_n C 0 dX7_readCond_47 rfl rfl ?_
              refine g_bipush C (v := 17) dX7_readCond_48 (by decide) ?_
              refine g_iconst C (v := 0) dX7_readCond_50 (by decide) ?_
              refine g_iconst C (v := 0) dX7_readCond_51 (by decide) ?_
              refine g_callVI C K (c_X7_addStep W9 hLx hkx 17 0 0 (rg_w rc_0 (by decide) (by decide)) hUI_49  (fun q => absurd q (by decide))) hLx hkx (by decide) rfl v_7_63 rfl ⟨rfl, rfl⟩ ⟨Nat.le_of_ble_eq_true rfl, Nat.le_of_ble_eq_true rfl⟩ (Nat.le_of_ble_eq_true rfl) ⟨Nat.le_of_ble_eq_true rfl, Nat.le_of_ble_eq_true rfl⟩ dX7_readCond_52 rfl (st := []) (fun x_63 I_64 J_65 h_66 => ?_)
              obtain ⟨hUI_64, hFI_64, hGJ_65, rx_63, fx_63⟩ := h_66
              have hF_67 := fq_tr hF_52 hFI_64 (by decide)
              have hG_68 := fq_tr hG_53 hGJ_65 (by decide)
              obtain ⟨s_70, hs_70⟩ : ∃ z, SPq I_64 J_65 x = z := ⟨_, rfl⟩
              have c_69 : fAddStep (s_56) = (x_63, s_70) := by have q := fx_63; simp only [esqx, hs_56, hs_70] at q; exact q.symm
              have hs_71 : TBq I_64 J_65 a1 b_1 b_2 b_3 = s_21 := (bq_fq wbqa1 hFI_64 hGJ_65 (by decide) (by decide)).trans hs_57
              have hs_72 : TPq I_64 J_65 a0 b_5 b_6 b_7 b_8 b_9 = s_55 := (tq_fq wtqa0 hFI_64 hGJ_65 (by decide) (by decide)).trans hs_55
              refine g_if_eq C (tgt := 62) dX7_readCond_55 (by decide) (fun h_73 => ?_) (fun h_73 => ?_)
              · skip
                have r_74 := (⟨(rx_63).1, (eq_rg (h_73) rc_0).2⟩ : Rg 0 0 x_63)
                refine g_iconst C (v := 0) dX7_readCond_62 (by decide) ?_
                refine g_istore C dX7_readCond_63 (by decide) (lo2 := [(4, .int 0), (0, .ref x), (1, .ref a0), (2, .ref a1), (3, .int a2), (5, .int v_18)]) rfl ?_
                obtain ⟨x_75, hx_75, rx_75, tx_75⟩ := ex_add (y := 1) 1 20 r_28 rc_1 (by decide) (by decide) (by decide) (by decide)
                refine g_iinc C dX7_readCond_65 (k := 5) (v := x_75) rfl hx_75 (by decide) (lo2 := [(5, .int x_75), (4, .int 0), (0, .ref x), (1, .ref a0), (2, .ref a1), (3, .int a2)]) rfl ?_
                refine g_goto C (tgt := 12) dX7_readCond_68 (by decide) ?_
                refine g_lo (is := [2, 3, 4, 5, 1, 0]) (lo2 := [(0, .ref x), (1, .ref a0), (2, .ref a1), (3, .int a2), (4, .int 0), (5, .int x_75)]) rfl ?_
                exact ih_12 I_64 J_65 hUI_64 hF_67 hG_68 0 (rg_w rc_0 (by decide) (by decide)) x_75 (rg_w rx_75 (by decide) (by decide)) (by (try simp only [h_26, (nle h_26), h_29, hx_33, f_34, (eq_true h_35), c_44, c_54, h_58, c_69, (eq_true h_73), hx_75, if_true, if_false, bqM_pnm, bqM_par, bqM_dnm, bqM_persons, bqM_dishes, bqM_law, bqM_dogs, TB_.w_pnm, TB_.w_par, TB_.w_dnm, TB_.w_persons, TB_.w_dishes, TB_.w_law, TB_.w_dogs, sqM_sl, sqM_so, SP_.w_sl, SP_.w_so, tqM_by_, tqM_wd, tqM_tk, tqM_pl, tqM_vl, tqM_len, tqM_n, tqM_at_, tqM_token, tqM_place, tqM_value, tqM_fault, tqM_fat, TP_.w_by_, TP_.w_wd, TP_.w_tk, TP_.w_pl, TP_.w_vl, TP_.w_len, TP_.w_n, TP_.w_at_, TP_.w_token, TP_.w_place, TP_.w_value, TP_.w_fault, TP_.w_fat] at hQ_24); (try simp only [h_26, (nle h_26), h_29, hx_33, f_34, (eq_true h_35), c_44, c_54, h_58, c_69, (eq_true h_73), hx_75, if_true, if_false, bqM_pnm, bqM_par, bqM_dnm, bqM_persons, bqM_dishes, bqM_law, bqM_dogs, TB_.w_pnm, TB_.w_par, TB_.w_dnm, TB_.w_persons, TB_.w_dishes, TB_.w_law, TB_.w_dogs, sqM_sl, sqM_so, SP_.w_sl, SP_.w_so, tqM_by_, tqM_wd, tqM_tk, tqM_pl, tqM_vl, tqM_len, tqM_n, tqM_at_, tqM_token, tqM_place, tqM_value, tqM_fault, tqM_fat, TP_.w_by_, TP_.w_wd, TP_.w_tk, TP_.w_pl, TP_.w_vl, TP_.w_len, TP_.w_n, TP_.w_at_, TP_.w_token, TP_.w_place, TP_.w_value, TP_.w_fault, TP_.w_fat] at u_25); simp only [ebqa1, hs_71, hs_4, etqa0, hs_72, hs_10, esqx, hs_70, hs_11, hQ_24, u_25, h_26, (nle h_26), h_29, hx_33, f_34, (eq_true h_35), c_44, c_54, h_58, c_69, (eq_true h_73), hx_75, if_true, if_false, bqM_pnm, bqM_par, bqM_dnm, bqM_persons, bqM_dishes, bqM_law, bqM_dogs, TB_.w_pnm, TB_.w_par, TB_.w_dnm, TB_.w_persons, TB_.w_dishes, TB_.w_law, TB_.w_dogs, sqM_sl, sqM_so, SP_.w_sl, SP_.w_so, tqM_by_, tqM_wd, tqM_tk, tqM_pl, tqM_vl, tqM_len, tqM_n, tqM_at_, tqM_token, tqM_place, tqM_value, tqM_fault, tqM_fat, TP_.w_by_, TP_.w_wd, TP_.w_tk, TP_.w_pl, TP_.w_vl, TP_.w_len, TP_.w_n, TP_.w_at_, TP_.w_token, TP_.w_place, TP_.w_value, TP_.w_fault, TP_.w_fat]) (ms_1 hm_20 (ti_k tx_75 rc_1) (by decide))
              · skip
                have n_76 : ¬ x_63 = 0 := h_73
                have r_77 := ne_lo (lo := 1) n_76 rx_63 rc_0 rfl (by decide)
                refine g_iconst C (v := 1) dX7_readCond_58 (by decide) ?_
                refine g_goto C (tgt := 63) dX7_readCond_59 (by decide) ?_
                refine g_istore C dX7_readCond_63 (by decide) (lo2 := [(4, .int 1), (0, .ref x), (1, .ref a0), (2, .ref a1), (3, .int a2), (5, .int v_18)]) rfl ?_
                obtain ⟨x_78, hx_78, rx_78, tx_78⟩ := ex_add (y := 1) 1 20 r_28 rc_1 (by decide) (by decide) (by decide) (by decide)
                refine g_iinc C dX7_readCond_65 (k := 5) (v := x_78) rfl hx_78 (by decide) (lo2 := [(5, .int x_78), (4, .int 1), (0, .ref x), (1, .ref a0), (2, .ref a1), (3, .int a2)]) rfl ?_
                refine g_goto C (tgt := 12) dX7_readCond_68 (by decide) ?_
                refine g_lo (is := [2, 3, 4, 5, 1, 0]) (lo2 := [(0, .ref x), (1, .ref a0), (2, .ref a1), (3, .int a2), (4, .int 1), (5, .int x_78)]) rfl ?_
                exact ih_12 I_64 J_65 hUI_64 hF_67 hG_68 1 (rg_w rc_1 (by decide) (by decide)) x_78 (rg_w rx_78 (by decide) (by decide)) (by (try simp only [h_26, (nle h_26), h_29, hx_33, f_34, (eq_true h_35), c_44, c_54, h_58, c_69, h_73, hx_78, if_true, if_false, bqM_pnm, bqM_par, bqM_dnm, bqM_persons, bqM_dishes, bqM_law, bqM_dogs, TB_.w_pnm, TB_.w_par, TB_.w_dnm, TB_.w_persons, TB_.w_dishes, TB_.w_law, TB_.w_dogs, sqM_sl, sqM_so, SP_.w_sl, SP_.w_so, tqM_by_, tqM_wd, tqM_tk, tqM_pl, tqM_vl, tqM_len, tqM_n, tqM_at_, tqM_token, tqM_place, tqM_value, tqM_fault, tqM_fat, TP_.w_by_, TP_.w_wd, TP_.w_tk, TP_.w_pl, TP_.w_vl, TP_.w_len, TP_.w_n, TP_.w_at_, TP_.w_token, TP_.w_place, TP_.w_value, TP_.w_fault, TP_.w_fat] at hQ_24); (try simp only [h_26, (nle h_26), h_29, hx_33, f_34, (eq_true h_35), c_44, c_54, h_58, c_69, h_73, hx_78, if_true, if_false, bqM_pnm, bqM_par, bqM_dnm, bqM_persons, bqM_dishes, bqM_law, bqM_dogs, TB_.w_pnm, TB_.w_par, TB_.w_dnm, TB_.w_persons, TB_.w_dishes, TB_.w_law, TB_.w_dogs, sqM_sl, sqM_so, SP_.w_sl, SP_.w_so, tqM_by_, tqM_wd, tqM_tk, tqM_pl, tqM_vl, tqM_len, tqM_n, tqM_at_, tqM_token, tqM_place, tqM_value, tqM_fault, tqM_fat, TP_.w_by_, TP_.w_wd, TP_.w_tk, TP_.w_pl, TP_.w_vl, TP_.w_len, TP_.w_n, TP_.w_at_, TP_.w_token, TP_.w_place, TP_.w_value, TP_.w_fault, TP_.w_fat] at u_25); simp only [ebqa1, hs_71, hs_4, etqa0, hs_72, hs_10, esqx, hs_70, hs_11, hQ_24, u_25, h_26, (nle h_26), h_29, hx_33, f_34, (eq_true h_35), c_44, c_54, h_58, c_69, h_73, hx_78, if_true, if_false, bqM_pnm, bqM_par, bqM_dnm, bqM_persons, bqM_dishes, bqM_law, bqM_dogs, TB_.w_pnm, TB_.w_par, TB_.w_dnm, TB_.w_persons, TB_.w_dishes, TB_.w_law, TB_.w_dogs, sqM_sl, sqM_so, SP_.w_sl, SP_.w_so, tqM_by_, tqM_wd, tqM_tk, tqM_pl, tqM_vl, tqM_len, tqM_n, tqM_at_, tqM_token, tqM_place, tqM_value, tqM_fault, tqM_fat, TP_.w_by_, TP_.w_wd, TP_.w_tk, TP_.w_pl, TP_.w_vl, TP_.w_len, TP_.w_n, TP_.w_at_, TP_.w_token, TP_.w_place, TP_.w_value, TP_.w_fault, TP_.w_fat]) (ms_1 hm_20 (ti_k tx_78 rc_1) (by decide))
  refine g_aload_n C 0 dX7_readCond_0 rfl rfl ?_
  refine g_aload_n C 1 dX7_readCond_1 rfl rfl ?_
  refine g_aload_n C 2 dX7_readCond_2 rfl rfl ?_
  refine g_iload_n C 3 dX7_readCond_3 rfl rfl ?_
  refine g_callVI C K (c_X7_readAll_2 W9 hLx hkx hLa0 hka0 hLa1 hka1 a2 (ra2) hU) hLx hkx (by decide) rfl v_7_54 rfl ⟨rfl, rfl⟩ ⟨Nat.le_of_ble_eq_true rfl, Nat.le_of_ble_eq_true rfl⟩ (Nat.le_of_ble_eq_true rfl) ⟨Nat.le_of_ble_eq_true rfl, Nat.le_of_ble_eq_true rfl⟩ dX7_readCond_4 rfl (st := []) (fun x_79 I_80 J_81 h_82 => ?_)
  obtain ⟨hUI_80, hFI_80, hGJ_81, rx_79, fx_79⟩ := h_82
  have hF_83 := fq_tr hF hFI_80 (by decide)
  have hG_84 := fq_tr hG hGJ_81 (by decide)
  obtain ⟨s_86, hs_86⟩ : ∃ z, TPq I_80 J_81 a0 b_5 b_6 b_7 b_8 b_9 = z := ⟨_, rfl⟩
  obtain ⟨s_87, hs_87⟩ : ∃ z, SPq I_80 J_81 x = z := ⟨_, rfl⟩
  have c_85 : fAll 7 (s_4) (s_10) (s_11) = (x_79, s_86, s_87) := by have q := fx_79; simp only [ebqa1, etqa0, esqx, hs_4, hs_10, hs_11, hs_86, hs_87] at q; exact q.symm
  have hs_88 : TBq I_80 J_81 a1 b_1 b_2 b_3 = s_4 := (bq_fq wbqa1 hFI_80 hGJ_81 (by decide) (by decide)).trans hs_4
  refine g_istore C dX7_readCond_7 (by decide) (lo2 := [(4, .int x_79), (0, .ref x), (1, .ref a0), (2, .ref a1), (3, .int a2)]) rfl ?_
  refine g_iconst C (v := 0) dX7_readCond_9 (by decide) ?_
  refine g_istore C dX7_readCond_10 (by decide) (lo2 := [(5, .int 0), (4, .int x_79), (0, .ref x), (1, .ref a0), (2, .ref a1), (3, .int a2)]) rfl ?_
  refine g_lo (is := [2, 3, 4, 5, 1, 0]) (lo2 := [(0, .ref x), (1, .ref a0), (2, .ref a1), (3, .int a2), (4, .int x_79), (5, .int 0)]) rfl ?_
  exact l_12 21 I_80 J_81 hUI_80 hF_83 hG_84 x_79 (rx_79) 0 (rg_w rc_0 (by decide) (by decide)) (by simp only [fCond, ebqa1, hs_88, hs_4, etqa0, hs_86, hs_10, esqx, hs_87, hs_11, c_85, if_true, if_false, bqM_pnm, bqM_par, bqM_dnm, bqM_persons, bqM_dishes, bqM_law, bqM_dogs, TB_.w_pnm, TB_.w_par, TB_.w_dnm, TB_.w_persons, TB_.w_dishes, TB_.w_law, TB_.w_dogs, sqM_sl, sqM_so, SP_.w_sl, SP_.w_so, tqM_by_, tqM_wd, tqM_tk, tqM_pl, tqM_vl, tqM_len, tqM_n, tqM_at_, tqM_token, tqM_place, tqM_value, tqM_fault, tqM_fat, TP_.w_by_, TP_.w_wd, TP_.w_tk, TP_.w_pl, TP_.w_vl, TP_.w_len, TP_.w_n, TP_.w_at_, TP_.w_token, TP_.w_place, TP_.w_value, TP_.w_fault, TP_.w_fat]) (ms_s (a := 0) (b := 20) (N := 21) (rg_w rc_0 (by decide) (by decide)) (by decide))
set_option maxRecDepth 100000 in
set_option maxHeartbeats 8000000 in
theorem c_X7_readOne_1 {l : Launch} {D : va_G} {cy : Nat → ClassId} {L : List Nat} {κ ln : Nat → Nat} {R : Nat → Nat → Option Nat} {I : Nat → Nat → Int32} {J : Nat → Nat → Int64} {ow : Nat → Nat × Nat} (W9 : ∀ a ∈ L, Shp L κ ln R ow a) {x : Nat} (hLx : x ∈ L) (hkx : κ x = 7) {a0 : Nat} (hLa0 : a0 ∈ L) (hka0 : κ a0 = 10) {a1 : Nat} (hLa1 : a1 ∈ L) (hka1 : κ a1 = 8) (a2 : Int32) (ra2 : Rg 1 1 a2) (hU : Iv L κ R ow I) : CtI l yX7_readOne cX7_readOne 5 (some .boolean) { frames := 25, cells := 0, slots := 0, locals := 613 } D cy L κ ln R I J [.ref x, .ref a0, .ref a1, .int a2] (fun r I2 J2 => Iv L κ R ow I2 ∧ Fq L κ ow [704, 705, 1007, 1008, 1009, 1011, 1012, 52000, 52100, 52200] I I2 ∧ Fq L κ ow [1010] J J2 ∧ Rg 0 1 r ∧ ((r, TPf R I2 J2 a0, SPf R I2 J2 x) = fOne 8 (TBf R I J a1) (TPf R I J a0) (SPf R I J x))) := by
  refine CtI.of (by decide +kernel) (Nat.le_of_ble_eq_true rfl) ?_
  intro p e s m below meth c B K
  have C := B.1
  have hF : Fq L κ ow [704, 705, 1007, 1008, 1009, 1011, 1012, 52000, 52100, 52200] I I := fq_rf
  have hG : Fq L κ ow [1010] J J := fq_rf
  obtain ⟨b_1, hb_1, hb_1L, hb_1k, hb_1n, hb_1o⟩ := shp_a (W9 a1 hLa1) hka1 0 15 7 rfl (by decide)
  obtain ⟨b_2, hb_2, hb_2L, hb_2k, hb_2n, hb_2o⟩ := shp_a (W9 a1 hLa1) hka1 2 14 7 rfl (by decide)
  obtain ⟨b_3, hb_3, hb_3L, hb_3k, hb_3n, hb_3o⟩ := shp_a (W9 a1 hLa1) hka1 3 15 6 rfl (by decide)
  have ebqa1 : ∀ I J, TBf R I J a1 = TBq I J a1 b_1 b_2 b_3 := fun I J => by simp only [TBf, rr_, Option.getD_some, hb_1, hb_2, hb_3]
  have wbqa1 : bqw_ L κ ow a1 b_1 b_2 b_3 := ⟨⟨hLa1, hb_1L, hb_2L, hb_3L⟩, ⟨(ro_o hka1 (by decide)), (ro_a hb_1k (by decide) hb_1o hka1 rfl), (ro_a hb_2k (by decide) hb_2o hka1 rfl), (ro_a hb_3k (by decide) hb_3o hka1 rfl)⟩⟩
  obtain ⟨s_4, hs_4⟩ : ∃ z, TBq I J a1 b_1 b_2 b_3 = z := ⟨_, rfl⟩
  obtain ⟨b_5, hb_5, hb_5L, hb_5k, hb_5n, hb_5o⟩ := shp_a (W9 a0 hLa0) hka0 0 13 940 rfl (by decide)
  obtain ⟨b_6, hb_6, hb_6L, hb_6k, hb_6n, hb_6o⟩ := shp_a (W9 a0 hLa0) hka0 1 15 28 rfl (by decide)
  obtain ⟨b_7, hb_7, hb_7L, hb_7k, hb_7n, hb_7o⟩ := shp_a (W9 a0 hLa0) hka0 2 14 901 rfl (by decide)
  obtain ⟨b_8, hb_8, hb_8L, hb_8k, hb_8n, hb_8o⟩ := shp_a (W9 a0 hLa0) hka0 3 14 901 rfl (by decide)
  obtain ⟨b_9, hb_9, hb_9L, hb_9k, hb_9n, hb_9o⟩ := shp_a (W9 a0 hLa0) hka0 4 15 901 rfl (by decide)
  have etqa0 : ∀ I J, TPf R I J a0 = TPq I J a0 b_5 b_6 b_7 b_8 b_9 := fun I J => by simp only [TPf, rr_, Option.getD_some, hb_5, hb_6, hb_7, hb_8, hb_9]
  have wtqa0 : tqw_ L κ ow a0 b_5 b_6 b_7 b_8 b_9 := ⟨⟨hLa0, hb_5L, hb_6L, hb_7L, hb_8L, hb_9L⟩, ⟨(ro_o hka0 (by decide)), (ro_a hb_5k (by decide) hb_5o hka0 rfl), (ro_a hb_6k (by decide) hb_6o hka0 rfl), (ro_a hb_7k (by decide) hb_7o hka0 rfl), (ro_a hb_8k (by decide) hb_8o hka0 rfl), (ro_a hb_9k (by decide) hb_9o hka0 rfl)⟩⟩
  obtain ⟨s_10, hs_10⟩ : ∃ z, TPq I J a0 b_5 b_6 b_7 b_8 b_9 = z := ⟨_, rfl⟩
  have esqx : ∀ I J, SPf R I J x = SPq I J x := fun I J => by simp only [SPf, rr_, Option.getD_some]
  have wsqx : sqw_ L κ ow x := ⟨hLx, (ro_o hkx (by decide))⟩
  obtain ⟨s_11, hs_11⟩ : ∃ z, SPq I J x = z := ⟨_, rfl⟩
  refine g_lo (is := [0, 1, 2, 3]) (lo2 := [(0, .ref x), (1, .ref a0), (2, .ref a1), (3, .int a2)]) rfl ?_
  refine g_aload_n C 1 dX7_readOne_0 rfl rfl ?_
  obtain ⟨x_12, hx_12, rx_12⟩ := ex_get (I := I) (a := a0) (j := 8) (lo := (-2147483648)) (hi := 2147483647) hU.1 hLa0 (ro_o hka0 (by decide)) rfl
  have f_13 : s_10.token = x_12 := (congrArg TP_.token hs_10).symm.trans hx_12
  refine g_getI C K hLa0 hka0 f_7_57 (v := x_12) hx_12 dX7_readOne_1 ?_
  refine g_istore C dX7_readOne_4 (by decide) (lo2 := [(4, .int x_12), (0, .ref x), (1, .ref a0), (2, .ref a1), (3, .int a2)]) rfl ?_
  refine g_iload C 0 dX7_readOne_6 rfl ?_
  refine g_callSI C K (c_X7_beginsOne W9 x_12  hU) s_7_70 rfl ⟨rfl, rfl⟩ ⟨Nat.le_of_ble_eq_true rfl, Nat.le_of_ble_eq_true rfl⟩ (Nat.le_of_ble_eq_true rfl) ⟨Nat.le_of_ble_eq_true rfl, Nat.le_of_ble_eq_true rfl⟩ dX7_readOne_8 rfl (st := []) (fun x_14 I_15 J_16 h_17 => ?_)
  obtain ⟨rfl, rfl, rx_14, fx_14⟩ := h_17
  have c_18 : fBegOne (x_12) = x_14 := fx_14.symm
  refine g_if_ne C (tgt := 20) dX7_readOne_11 (by decide) (fun h_19 => ?_) (fun h_19 => ?_)
  · skip
    have n_20 : ¬ x_14 = 0 := h_19
    have r_21 := ne_lo (lo := 1) n_20 rx_14 rc_0 rfl (by decide)
    refine g_aload_n C 1 dX7_readOne_20 rfl rfl ?_
    obtain ⟨x_22, hx_22, rx_22⟩ := ex_get (I := I) (a := x) (j := 5) (lo := (-2147483648)) (hi := 2147483647) hU.1 hLx (ro_o hkx (by decide)) rfl
    have f_23 : s_11.so = x_22 := (congrArg SP_.so hs_11).symm.trans hx_22
    refine g_getI C K hLx hkx f_7_28 (v := x_22) hx_22 dX7_readOne_21 ?_
    refine g_bipush C (v := 20) dX7_readOne_24 (by decide) ?_
    refine g_icmp_ge C (tgt := 35) dX7_readOne_26 (by decide) (fun h_24 => ?_) (fun h_24 => ?_)
    · skip
      have r_25 := le_r (h_24) rc_20 rx_22
      refine g_aload_n C 2 dX7_readOne_35 rfl rfl ?_
      refine g_iconst C (v := 4) dX7_readOne_36 (by decide) ?_
      refine g_callVI C K (c_X10_fail W9 hLa0 hka0 4 (rg_w rc_4 (by decide) (by decide)) hU) hLa0 hka0 (by decide) rfl v_7_73 rfl ⟨rfl, rfl⟩ ⟨Nat.le_of_ble_eq_true rfl, Nat.le_of_ble_eq_true rfl⟩ (Nat.le_of_ble_eq_true rfl) ⟨Nat.le_of_ble_eq_true rfl, Nat.le_of_ble_eq_true rfl⟩ dX7_readOne_37 rfl (st := []) (fun x_26 I_27 J_28 h_29 => ?_)
      obtain ⟨hUI_27, hFI_27, hGJ_28, rx_26, fx_26⟩ := h_29
      have hF_30 := fq_tr hF hFI_27 (by decide)
      have hG_31 := fq_tr hG hGJ_28 (by decide)
      obtain ⟨s_33, hs_33⟩ : ∃ z, TPq I_27 J_28 a0 b_5 b_6 b_7 b_8 b_9 = z := ⟨_, rfl⟩
      have c_32 : fFail (4) (s_10) = (x_26, s_33) := by have q := fx_26; simp only [etqa0, hs_10, hs_33] at q; exact q.symm
      have hs_34 : TBq I_27 J_28 a1 b_1 b_2 b_3 = s_4 := (bq_fq wbqa1 hFI_27 hGJ_28 (by decide) (by decide)).trans hs_4
      have hs_35 : SPq I_27 J_28 x = s_11 := (sq_fq wsqx hFI_27 hGJ_28 (by decide) (by decide)).trans hs_11
      exact g_zret (ty := .boolean) (r := x_26) B K rfl (nar_z (rg_w rx_26 (by decide) (by decide))) ⟨hUI_27, hF_30, hG_31, rg_w rx_26 (by decide) (by decide), (by simp only [fOne_k8, fAnd2, fFailS, fCmp, ebqa1, hs_34, hs_4, etqa0, hs_33, hs_10, esqx, hs_35, hs_11, hx_12, f_13, c_18, h_19, hx_22, f_23, h_24, c_32, if_true, if_false, bqM_pnm, bqM_par, bqM_dnm, bqM_persons, bqM_dishes, bqM_law, bqM_dogs, TB_.w_pnm, TB_.w_par, TB_.w_dnm, TB_.w_persons, TB_.w_dishes, TB_.w_law, TB_.w_dogs, sqM_sl, sqM_so, SP_.w_sl, SP_.w_so, tqM_by_, tqM_wd, tqM_tk, tqM_pl, tqM_vl, tqM_len, tqM_n, tqM_at_, tqM_token, tqM_place, tqM_value, tqM_fault, tqM_fat, TP_.w_by_, TP_.w_wd, TP_.w_tk, TP_.w_pl, TP_.w_vl, TP_.w_len, TP_.w_n, TP_.w_at_, TP_.w_token, TP_.w_place, TP_.w_value, TP_.w_fault, TP_.w_fat])⟩ dX7_readOne_40
    · skip
      have r_36 := lt_l (hi := 19) (nle h_24) rx_22 rc_20 (by decide)
      refine g_iload_n C 4 dX7_readOne_29 rfl rfl ?_
      refine g_bipush C (v := 8) dX7_readOne_30 (by decide) ?_
      refine g_icmp_le C (tgt := 41) dX7_readOne_32 (by decide) (fun h_37 => ?_) (fun h_37 => ?_)
      · skip
        refine g_aload_n C 1 dX7_readOne_41 rfl rfl ?_
        refine g_dup C dX7_readOne_42 rfl ?_
        refine g_getI C K hLx hkx f_7_28 (v := x_22) hx_22 dX7_readOne_43 ?_
        refine g_iconst C (v := 1) dX7_readOne_46 (by decide) ?_
        obtain ⟨x_38, hx_38, rx_38, tx_38⟩ := ex_add (-2147483647) 20 r_36 rc_1 (by decide) (by decide) (by decide) (by decide)
        refine g_iadd C (v := x_38) dX7_readOne_47 hx_38 ?_
        refine h_putI C K hLx hkx f_7_28 p_7_5 dX7_readOne_48 (fun I_39 hI_39 => ?_)
        have hU_40 := iv_put W9 hU hI_39 (ro_o hkx (by decide)) (lo := (-2147483648)) (hi := 2147483647) (rfl) (rg_all _) rfl
        have hF_41 := fq_puto hF hI_39 hkx (by decide) (by decide)
        have hs_42 : TBq I_39 J a1 b_1 b_2 b_3 = s_4 := by rw [hI_39]; exact (bq_oI wbqa1 (ro_o hkx (by decide)) (by decide)).trans hs_4
        have hs_43 : TPq I_39 J a0 b_5 b_6 b_7 b_8 b_9 = s_10 := by rw [hI_39]; exact (tq_oI wtqa0 (ro_o hkx (by decide)) (by decide)).trans hs_10
        have hs_44 : SPq I_39 J x = (SP_.w_so s_11 (x_38)) := by rw [hI_39]; exact ((sq_so wsqx).trans (congrArg (fun z : SP_ => SP_.w_so z (x_38)) hs_11)).trans rfl
        refine g_aload_n C 2 dX7_readOne_51 rfl rfl ?_
        refine g_callVV C K (c_X10_advance W9 hLa0 hka0   hU_40) hLa0 hka0 (by decide) rfl v_7_60 rfl ⟨rfl, rfl⟩ ⟨Nat.le_of_ble_eq_true rfl, Nat.le_of_ble_eq_true rfl⟩ (Nat.le_of_ble_eq_true rfl) ⟨Nat.le_of_ble_eq_true rfl, Nat.le_of_ble_eq_true rfl⟩ dX7_readOne_52 rfl (st := []) (fun I_46 J_47 h_48 => ?_)
        obtain ⟨hUI_46, hFI_46, hGJ_47, fx_45⟩ := h_48
        have hF_49 := fq_tr hF_41 hFI_46 (by decide)
        have hG_50 := fq_tr hG hGJ_47 (by decide)
        obtain ⟨s_52, hs_52⟩ : ∃ z, TPq I_46 J_47 a0 b_5 b_6 b_7 b_8 b_9 = z := ⟨_, rfl⟩
        have c_51 : fAdvance (s_10) = s_52 := by have q := fx_45; simp only [etqa0, hs_43, hs_52] at q; exact q.symm
        have hs_53 : TBq I_46 J_47 a1 b_1 b_2 b_3 = s_4 := (bq_fq wbqa1 hFI_46 hGJ_47 (by decide) (by decide)).trans hs_42
        have hs_54 : SPq I_46 J_47 x = (SP_.w_so s_11 (x_38)) := (sq_fq wsqx hFI_46 hGJ_47 (by decide) (by decide)).trans hs_44
        refine g_iload C 0 dX7_readOne_55 rfl ?_
        refine g_bipush C (v := 40) dX7_readOne_57 (by decide) ?_
        refine g_icmp_ne C (tgt := 89) dX7_readOne_59 (by decide) (fun h_55 => ?_) (fun h_55 => ?_)
        · skip
          have n_56 : ¬ x_12 = 40 := h_55
          refine g_iload C 0 dX7_readOne_89 rfl ?_
          refine g_bipush C (v := 19) dX7_readOne_91 (by decide) ?_
          refine g_icmp_ne C (tgt := 125) dX7_readOne_93 (by decide) (fun h_57 => ?_) (fun h_57 => ?_)
          · skip
            have n_58 : ¬ x_12 = 19 := h_57
            refine g_aload_n C 1 dX7_readOne_125 rfl rfl ?_
            refine g_aload_n C 2 dX7_readOne_126 rfl rfl ?_
            refine g_aload_n C 3 dX7_readOne_127 rfl rfl ?_
            refine g_iload C 0 dX7_readOne_128 rfl ?_
            refine g_callVI C K (c_X7_readPlainOne W9 hLx hkx hLa0 hka0 hLa1 hka1 x_12  hUI_46) hLx hkx (by decide) rfl v_7_76 rfl ⟨rfl, rfl⟩ ⟨Nat.le_of_ble_eq_true rfl, Nat.le_of_ble_eq_true rfl⟩ (Nat.le_of_ble_eq_true rfl) ⟨Nat.le_of_ble_eq_true rfl, Nat.le_of_ble_eq_true rfl⟩ dX7_readOne_130 rfl (st := []) (fun x_59 I_60 J_61 h_62 => ?_)
            obtain ⟨hUI_60, hFI_60, hGJ_61, rx_59, fx_59⟩ := h_62
            have hF_63 := fq_tr hF_49 hFI_60 (by decide)
            have hG_64 := fq_tr hG_50 hGJ_61 (by decide)
            obtain ⟨s_66, hs_66⟩ : ∃ z, TPq I_60 J_61 a0 b_5 b_6 b_7 b_8 b_9 = z := ⟨_, rfl⟩
            obtain ⟨s_67, hs_67⟩ : ∃ z, SPq I_60 J_61 x = z := ⟨_, rfl⟩
            have c_65 : fPlain (x_12) (s_4) (s_52) ((SP_.w_so s_11 (x_38))) = (x_59, s_66, s_67) := by have q := fx_59; simp only [ebqa1, etqa0, esqx, hs_53, hs_52, hs_54, hs_66, hs_67] at q; exact q.symm
            have hs_68 : TBq I_60 J_61 a1 b_1 b_2 b_3 = s_4 := (bq_fq wbqa1 hFI_60 hGJ_61 (by decide) (by decide)).trans hs_53
            exact g_zret (ty := .boolean) (r := x_59) B K rfl (nar_z (rx_59)) ⟨hUI_60, hF_63, hG_64, rx_59, (by (try simp only [hx_12, f_13, c_18, h_19, hx_22, f_23, h_24, (nle h_24), h_37, hx_38, c_51, h_55, h_57, if_true, if_false, bqM_pnm, bqM_par, bqM_dnm, bqM_persons, bqM_dishes, bqM_law, bqM_dogs, TB_.w_pnm, TB_.w_par, TB_.w_dnm, TB_.w_persons, TB_.w_dishes, TB_.w_law, TB_.w_dogs, sqM_sl, sqM_so, SP_.w_sl, SP_.w_so, tqM_by_, tqM_wd, tqM_tk, tqM_pl, tqM_vl, tqM_len, tqM_n, tqM_at_, tqM_token, tqM_place, tqM_value, tqM_fault, tqM_fat, TP_.w_by_, TP_.w_wd, TP_.w_tk, TP_.w_pl, TP_.w_vl, TP_.w_len, TP_.w_n, TP_.w_at_, TP_.w_token, TP_.w_place, TP_.w_value, TP_.w_fault, TP_.w_fat] at c_65); simp only [fOne_k8, fAnd2, fFailS, fCmp, ebqa1, hs_68, hs_4, etqa0, hs_66, hs_10, esqx, hs_67, hs_11, hx_12, f_13, c_18, h_19, hx_22, f_23, h_24, (nle h_24), h_37, hx_38, c_51, h_55, h_57, c_65, if_true, if_false, bqM_pnm, bqM_par, bqM_dnm, bqM_persons, bqM_dishes, bqM_law, bqM_dogs, TB_.w_pnm, TB_.w_par, TB_.w_dnm, TB_.w_persons, TB_.w_dishes, TB_.w_law, TB_.w_dogs, sqM_sl, sqM_so, SP_.w_sl, SP_.w_so, tqM_by_, tqM_wd, tqM_tk, tqM_pl, tqM_vl, tqM_len, tqM_n, tqM_at_, tqM_token, tqM_place, tqM_value, tqM_fault, tqM_fat, TP_.w_by_, TP_.w_wd, TP_.w_tk, TP_.w_pl, TP_.w_vl, TP_.w_len, TP_.w_n, TP_.w_at_, TP_.w_token, TP_.w_place, TP_.w_value, TP_.w_fault, TP_.w_fat])⟩ dX7_readOne_133
          · skip
            have r_69 := (⟨(eq_rg (h_57) rc_19).1, (eq_rg (h_57) rc_19).2⟩ : Rg 19 19 x_12)
            refine g_aload_n C 1 dX7_readOne_96 rfl rfl ?_
            refine g_aload_n C 2 dX7_readOne_97 rfl rfl ?_
            refine g_aload_n C 3 dX7_readOne_98 rfl rfl ?_
            refine g_iload_n C 4 dX7_readOne_99 rfl rfl ?_
            refine g_iconst C (v := 1) dX7_readOne_100 (by decide) ?_
            obtain ⟨x_70, hx_70, rx_70, tx_70⟩ := ex_add 2 2 ra2 rc_1 (by decide) (by decide) (by decide) (by decide)
            refine g_iadd C (v := x_70) dX7_readOne_101 hx_70 ?_
            refine g_callVI C K (c_X7_readOne_2 W9 hLx hkx hLa0 hka0 hLa1 hka1 x_70 (rx_70) hUI_46) hLx hkx (by decide) rfl v_7_67 rfl ⟨rfl, rfl⟩ ⟨Nat.le_of_ble_eq_true rfl, Nat.le_of_ble_eq_true rfl⟩ (Nat.le_of_ble_eq_true rfl) ⟨Nat.le_of_ble_eq_true rfl, Nat.le_of_ble_eq_true rfl⟩ dX7_readOne_102 rfl (st := []) (fun x_71 I_72 J_73 h_74 => ?_)
            obtain ⟨hUI_72, hFI_72, hGJ_73, rx_71, fx_71⟩ := h_74
            have hF_75 := fq_tr hF_49 hFI_72 (by decide)
            have hG_76 := fq_tr hG_50 hGJ_73 (by decide)
            obtain ⟨s_78, hs_78⟩ : ∃ z, TPq I_72 J_73 a0 b_5 b_6 b_7 b_8 b_9 = z := ⟨_, rfl⟩
            obtain ⟨s_79, hs_79⟩ : ∃ z, SPq I_72 J_73 x = z := ⟨_, rfl⟩
            have c_77 : fOne 7 (s_4) (s_52) ((SP_.w_so s_11 (x_38))) = (x_71, s_78, s_79) := by have q := fx_71; simp only [ebqa1, etqa0, esqx, hs_53, hs_52, hs_54, hs_78, hs_79] at q; exact q.symm
            have hs_80 : TBq I_72 J_73 a1 b_1 b_2 b_3 = s_4 := (bq_fq wbqa1 hFI_72 hGJ_73 (by decide) (by decide)).trans hs_53
            refine g_if_eq C (tgt := 123) dX7_readOne_105 (by decide) (fun h_81 => ?_) (fun h_81 => ?_)
            · skip
              have r_82 := (⟨(rx_71).1, (eq_rg (h_81) rc_0).2⟩ : Rg 0 0 x_71)
              refine g_iconst C (v := 0) dX7_readOne_123 (by decide) ?_
              exact g_zret (ty := .boolean) (r := 0) B K rfl (rfl) ⟨hUI_72, hF_75, hG_76, rg_w rc_0 (by decide) (by decide), (by (try simp only [hx_12, f_13, c_18, h_19, hx_22, f_23, h_24, (nle h_24), h_37, hx_38, c_51, h_55, (eq_true h_57), hx_70, (eq_true h_81), if_true, if_false, bqM_pnm, bqM_par, bqM_dnm, bqM_persons, bqM_dishes, bqM_law, bqM_dogs, TB_.w_pnm, TB_.w_par, TB_.w_dnm, TB_.w_persons, TB_.w_dishes, TB_.w_law, TB_.w_dogs, sqM_sl, sqM_so, SP_.w_sl, SP_.w_so, tqM_by_, tqM_wd, tqM_tk, tqM_pl, tqM_vl, tqM_len, tqM_n, tqM_at_, tqM_token, tqM_place, tqM_value, tqM_fault, tqM_fat, TP_.w_by_, TP_.w_wd, TP_.w_tk, TP_.w_pl, TP_.w_vl, TP_.w_len, TP_.w_n, TP_.w_at_, TP_.w_token, TP_.w_place, TP_.w_value, TP_.w_fault, TP_.w_fat] at c_77); simp only [fOne_k8, fAnd2, fFailS, fCmp, ebqa1, hs_80, hs_4, etqa0, hs_78, hs_10, esqx, hs_79, hs_11, hx_12, f_13, c_18, h_19, hx_22, f_23, h_24, (nle h_24), h_37, hx_38, c_51, h_55, (eq_true h_57), hx_70, c_77, (eq_true h_81), if_true, if_false, bqM_pnm, bqM_par, bqM_dnm, bqM_persons, bqM_dishes, bqM_law, bqM_dogs, TB_.w_pnm, TB_.w_par, TB_.w_dnm, TB_.w_persons, TB_.w_dishes, TB_.w_law, TB_.w_dogs, sqM_sl, sqM_so, SP_.w_sl, SP_.w_so, tqM_by_, tqM_wd, tqM_tk, tqM_pl, tqM_vl, tqM_len, tqM_n, tqM_at_, tqM_token, tqM_place, tqM_value, tqM_fault, tqM_fat, TP_.w_by_, TP_.w_wd, TP_.w_tk, TP_.w_pl, TP_.w_vl, TP_.w_len, TP_.w_n, TP_.w_at_, TP_.w_token, TP_.w_place, TP_.w_value, TP_.w_fault, TP_.w_fat])⟩ dX7_readOne_124
            · skip
              have n_83 : ¬ x_71 = 0 := h_81
              have r_84 := ne_lo (lo := 1) n_83 rx_71 rc_0 rfl (by decide)
              refine g_aload_n C 1 dX7_readOne_108 rfl rfl ?_
              refine g_bipush C (v := 19) dX7_readOne_109 (by decide) ?_
              refine g_iconst C (v := 0) dX7_readOne_111 (by decide) ?_
              refine g_iconst C (v := 0) dX7_readOne_112 (by decide) ?_
              refine g_callVI C K (c_X7_addStep W9 hLx hkx 19 0 0 (rg_w rc_0 (by decide) (by decide)) hUI_72  (fun q => absurd q (by decide))) hLx hkx (by decide) rfl v_7_63 rfl ⟨rfl, rfl⟩ ⟨Nat.le_of_ble_eq_true rfl, Nat.le_of_ble_eq_true rfl⟩ (Nat.le_of_ble_eq_true rfl) ⟨Nat.le_of_ble_eq_true rfl, Nat.le_of_ble_eq_true rfl⟩ dX7_readOne_113 rfl (st := []) (fun x_85 I_86 J_87 h_88 => ?_)
              obtain ⟨hUI_86, hFI_86, hGJ_87, rx_85, fx_85⟩ := h_88
              have hF_89 := fq_tr hF_75 hFI_86 (by decide)
              have hG_90 := fq_tr hG_76 hGJ_87 (by decide)
              obtain ⟨s_92, hs_92⟩ : ∃ z, SPq I_86 J_87 x = z := ⟨_, rfl⟩
              have c_91 : fAddStep (s_79) = (x_85, s_92) := by have q := fx_85; simp only [esqx, hs_79, hs_92] at q; exact q.symm
              have hs_93 : TBq I_86 J_87 a1 b_1 b_2 b_3 = s_4 := (bq_fq wbqa1 hFI_86 hGJ_87 (by decide) (by decide)).trans hs_80
              have hs_94 : TPq I_86 J_87 a0 b_5 b_6 b_7 b_8 b_9 = s_78 := (tq_fq wtqa0 hFI_86 hGJ_87 (by decide) (by decide)).trans hs_78
              refine g_if_eq C (tgt := 123) dX7_readOne_116 (by decide) (fun h_95 => ?_) (fun h_95 => ?_)
              · skip
                have r_96 := (⟨(rx_85).1, (eq_rg (h_95) rc_0).2⟩ : Rg 0 0 x_85)
                refine g_iconst C (v := 0) dX7_readOne_123 (by decide) ?_
                exact g_zret (ty := .boolean) (r := 0) B K rfl (rfl) ⟨hUI_86, hF_89, hG_90, rg_w rc_0 (by decide) (by decide), (by (try simp only [hx_12, f_13, c_18, h_19, hx_22, f_23, h_24, (nle h_24), h_37, hx_38, c_51, h_55, (eq_true h_57), hx_70, h_81, c_91, (eq_true h_95), if_true, if_false, bqM_pnm, bqM_par, bqM_dnm, bqM_persons, bqM_dishes, bqM_law, bqM_dogs, TB_.w_pnm, TB_.w_par, TB_.w_dnm, TB_.w_persons, TB_.w_dishes, TB_.w_law, TB_.w_dogs, sqM_sl, sqM_so, SP_.w_sl, SP_.w_so, tqM_by_, tqM_wd, tqM_tk, tqM_pl, tqM_vl, tqM_len, tqM_n, tqM_at_, tqM_token, tqM_place, tqM_value, tqM_fault, tqM_fat, TP_.w_by_, TP_.w_wd, TP_.w_tk, TP_.w_pl, TP_.w_vl, TP_.w_len, TP_.w_n, TP_.w_at_, TP_.w_token, TP_.w_place, TP_.w_value, TP_.w_fault, TP_.w_fat] at c_77); simp only [fOne_k8, fAnd2, fFailS, fCmp, ebqa1, hs_93, hs_4, etqa0, hs_94, hs_10, esqx, hs_92, hs_11, hx_12, f_13, c_18, h_19, hx_22, f_23, h_24, (nle h_24), h_37, hx_38, c_51, h_55, (eq_true h_57), hx_70, c_77, h_81, c_91, (eq_true h_95), if_true, if_false, bqM_pnm, bqM_par, bqM_dnm, bqM_persons, bqM_dishes, bqM_law, bqM_dogs, TB_.w_pnm, TB_.w_par, TB_.w_dnm, TB_.w_persons, TB_.w_dishes, TB_.w_law, TB_.w_dogs, sqM_sl, sqM_so, SP_.w_sl, SP_.w_so, tqM_by_, tqM_wd, tqM_tk, tqM_pl, tqM_vl, tqM_len, tqM_n, tqM_at_, tqM_token, tqM_place, tqM_value, tqM_fault, tqM_fat, TP_.w_by_, TP_.w_wd, TP_.w_tk, TP_.w_pl, TP_.w_vl, TP_.w_len, TP_.w_n, TP_.w_at_, TP_.w_token, TP_.w_place, TP_.w_value, TP_.w_fault, TP_.w_fat])⟩ dX7_readOne_124
              · skip
                have n_97 : ¬ x_85 = 0 := h_95
                have r_98 := ne_lo (lo := 1) n_97 rx_85 rc_0 rfl (by decide)
                refine g_iconst C (v := 1) dX7_readOne_119 (by decide) ?_
                refine g_goto C (tgt := 124) dX7_readOne_120 (by decide) ?_
                exact g_zret (ty := .boolean) (r := 1) B K rfl (rfl) ⟨hUI_86, hF_89, hG_90, rg_w rc_1 (by decide) (by decide), (by (try simp only [hx_12, f_13, c_18, h_19, hx_22, f_23, h_24, (nle h_24), h_37, hx_38, c_51, h_55, (eq_true h_57), hx_70, h_81, c_91, h_95, if_true, if_false, bqM_pnm, bqM_par, bqM_dnm, bqM_persons, bqM_dishes, bqM_law, bqM_dogs, TB_.w_pnm, TB_.w_par, TB_.w_dnm, TB_.w_persons, TB_.w_dishes, TB_.w_law, TB_.w_dogs, sqM_sl, sqM_so, SP_.w_sl, SP_.w_so, tqM_by_, tqM_wd, tqM_tk, tqM_pl, tqM_vl, tqM_len, tqM_n, tqM_at_, tqM_token, tqM_place, tqM_value, tqM_fault, tqM_fat, TP_.w_by_, TP_.w_wd, TP_.w_tk, TP_.w_pl, TP_.w_vl, TP_.w_len, TP_.w_n, TP_.w_at_, TP_.w_token, TP_.w_place, TP_.w_value, TP_.w_fault, TP_.w_fat] at c_77); simp only [fOne_k8, fAnd2, fFailS, fCmp, ebqa1, hs_93, hs_4, etqa0, hs_94, hs_10, esqx, hs_92, hs_11, hx_12, f_13, c_18, h_19, hx_22, f_23, h_24, (nle h_24), h_37, hx_38, c_51, h_55, (eq_true h_57), hx_70, c_77, h_81, c_91, h_95, if_true, if_false, bqM_pnm, bqM_par, bqM_dnm, bqM_persons, bqM_dishes, bqM_law, bqM_dogs, TB_.w_pnm, TB_.w_par, TB_.w_dnm, TB_.w_persons, TB_.w_dishes, TB_.w_law, TB_.w_dogs, sqM_sl, sqM_so, SP_.w_sl, SP_.w_so, tqM_by_, tqM_wd, tqM_tk, tqM_pl, tqM_vl, tqM_len, tqM_n, tqM_at_, tqM_token, tqM_place, tqM_value, tqM_fault, tqM_fat, TP_.w_by_, TP_.w_wd, TP_.w_tk, TP_.w_pl, TP_.w_vl, TP_.w_len, TP_.w_n, TP_.w_at_, TP_.w_token, TP_.w_place, TP_.w_value, TP_.w_fault, TP_.w_fat])⟩ dX7_readOne_124
        · skip
          have r_99 := (⟨(eq_rg (h_55) rc_40).1, (eq_rg (h_55) rc_40).2⟩ : Rg 40 40 x_12)
          refine g_aload_n C 1 dX7_readOne_62 rfl rfl ?_
          refine g_aload_n C 2 dX7_readOne_63 rfl rfl ?_
          refine g_aload_n C 3 dX7_readOne_64 rfl rfl ?_
          refine g_iload_n C 4 dX7_readOne_65 rfl rfl ?_
          refine g_iconst C (v := 1) dX7_readOne_66 (by decide) ?_
          obtain ⟨x_100, hx_100, rx_100, tx_100⟩ := ex_add 2 2 ra2 rc_1 (by decide) (by decide) (by decide) (by decide)
          refine g_iadd C (v := x_100) dX7_readOne_67 hx_100 ?_
          refine g_callVI C K (c_X7_readCond_2 W9 hLx hkx hLa0 hka0 hLa1 hka1 x_100 (rx_100) hUI_46) hLx hkx (by decide) rfl v_7_46 rfl ⟨rfl, rfl⟩ ⟨Nat.le_of_ble_eq_true rfl, Nat.le_of_ble_eq_true rfl⟩ (Nat.le_of_ble_eq_true rfl) ⟨Nat.le_of_ble_eq_true rfl, Nat.le_of_ble_eq_true rfl⟩ dX7_readOne_68 rfl (st := []) (fun x_101 I_102 J_103 h_104 => ?_)
          obtain ⟨hUI_102, hFI_102, hGJ_103, rx_101, fx_101⟩ := h_104
          have hF_105 := fq_tr hF_49 hFI_102 (by decide)
          have hG_106 := fq_tr hG_50 hGJ_103 (by decide)
          obtain ⟨s_108, hs_108⟩ : ∃ z, TPq I_102 J_103 a0 b_5 b_6 b_7 b_8 b_9 = z := ⟨_, rfl⟩
          obtain ⟨s_109, hs_109⟩ : ∃ z, SPq I_102 J_103 x = z := ⟨_, rfl⟩
          have c_107 : fCond 7 (s_4) (s_52) ((SP_.w_so s_11 (x_38))) = (x_101, s_108, s_109) := by have q := fx_101; simp only [ebqa1, etqa0, esqx, hs_53, hs_52, hs_54, hs_108, hs_109] at q; exact q.symm
          have hs_110 : TBq I_102 J_103 a1 b_1 b_2 b_3 = s_4 := (bq_fq wbqa1 hFI_102 hGJ_103 (by decide) (by decide)).trans hs_53
          refine g_if_eq C (tgt := 87) dX7_readOne_71 (by decide) (fun h_111 => ?_) (fun h_111 => ?_)
          · skip
            have r_112 := (⟨(rx_101).1, (eq_rg (h_111) rc_0).2⟩ : Rg 0 0 x_101)
            refine g_iconst C (v := 0) dX7_readOne_87 (by decide) ?_
            exact g_zret (ty := .boolean) (r := 0) B K rfl (rfl) ⟨hUI_102, hF_105, hG_106, rg_w rc_0 (by decide) (by decide), (by (try simp only [hx_12, f_13, c_18, h_19, hx_22, f_23, h_24, (nle h_24), h_37, hx_38, c_51, (eq_true h_55), hx_100, (eq_true h_111), if_true, if_false, bqM_pnm, bqM_par, bqM_dnm, bqM_persons, bqM_dishes, bqM_law, bqM_dogs, TB_.w_pnm, TB_.w_par, TB_.w_dnm, TB_.w_persons, TB_.w_dishes, TB_.w_law, TB_.w_dogs, sqM_sl, sqM_so, SP_.w_sl, SP_.w_so, tqM_by_, tqM_wd, tqM_tk, tqM_pl, tqM_vl, tqM_len, tqM_n, tqM_at_, tqM_token, tqM_place, tqM_value, tqM_fault, tqM_fat, TP_.w_by_, TP_.w_wd, TP_.w_tk, TP_.w_pl, TP_.w_vl, TP_.w_len, TP_.w_n, TP_.w_at_, TP_.w_token, TP_.w_place, TP_.w_value, TP_.w_fault, TP_.w_fat] at c_107); simp only [fOne_k8, fAnd2, fFailS, fCmp, ebqa1, hs_110, hs_4, etqa0, hs_108, hs_10, esqx, hs_109, hs_11, hx_12, f_13, c_18, h_19, hx_22, f_23, h_24, (nle h_24), h_37, hx_38, c_51, (eq_true h_55), hx_100, c_107, (eq_true h_111), if_true, if_false, bqM_pnm, bqM_par, bqM_dnm, bqM_persons, bqM_dishes, bqM_law, bqM_dogs, TB_.w_pnm, TB_.w_par, TB_.w_dnm, TB_.w_persons, TB_.w_dishes, TB_.w_law, TB_.w_dogs, sqM_sl, sqM_so, SP_.w_sl, SP_.w_so, tqM_by_, tqM_wd, tqM_tk, tqM_pl, tqM_vl, tqM_len, tqM_n, tqM_at_, tqM_token, tqM_place, tqM_value, tqM_fault, tqM_fat, TP_.w_by_, TP_.w_wd, TP_.w_tk, TP_.w_pl, TP_.w_vl, TP_.w_len, TP_.w_n, TP_.w_at_, TP_.w_token, TP_.w_place, TP_.w_value, TP_.w_fault, TP_.w_fat])⟩ dX7_readOne_88
          · skip
            have n_113 : ¬ x_101 = 0 := h_111
            have r_114 := ne_lo (lo := 1) n_113 rx_101 rc_0 rfl (by decide)
            refine g_aload_n C 2 dX7_readOne_74 rfl rfl ?_
            refine g_bipush C (v := 41) dX7_readOne_75 (by decide) ?_
            refine g_callVI C K (c_X10_take W9 hLa0 hka0 41 (rg_w rc_41 (by decide) (by decide)) hUI_102) hLa0 hka0 (by decide) rfl v_7_50 rfl ⟨rfl, rfl⟩ ⟨Nat.le_of_ble_eq_true rfl, Nat.le_of_ble_eq_true rfl⟩ (Nat.le_of_ble_eq_true rfl) ⟨Nat.le_of_ble_eq_true rfl, Nat.le_of_ble_eq_true rfl⟩ dX7_readOne_77 rfl (st := []) (fun x_115 I_116 J_117 h_118 => ?_)
            obtain ⟨hUI_116, hFI_116, hGJ_117, rx_115, fx_115⟩ := h_118
            have hF_119 := fq_tr hF_105 hFI_116 (by decide)
            have hG_120 := fq_tr hG_106 hGJ_117 (by decide)
            obtain ⟨s_122, hs_122⟩ : ∃ z, TPq I_116 J_117 a0 b_5 b_6 b_7 b_8 b_9 = z := ⟨_, rfl⟩
            have c_121 : fTake (41) (s_108) = (x_115, s_122) := by have q := fx_115; simp only [etqa0, hs_108, hs_122] at q; exact q.symm
            have hs_123 : TBq I_116 J_117 a1 b_1 b_2 b_3 = s_4 := (bq_fq wbqa1 hFI_116 hGJ_117 (by decide) (by decide)).trans hs_110
            have hs_124 : SPq I_116 J_117 x = s_109 := (sq_fq wsqx hFI_116 hGJ_117 (by decide) (by decide)).trans hs_109
            refine g_if_eq C (tgt := 87) dX7_readOne_80 (by decide) (fun h_125 => ?_) (fun h_125 => ?_)
            · skip
              have r_126 := (⟨(rx_115).1, (eq_rg (h_125) rc_0).2⟩ : Rg 0 0 x_115)
              refine g_iconst C (v := 0) dX7_readOne_87 (by decide) ?_
              exact g_zret (ty := .boolean) (r := 0) B K rfl (rfl) ⟨hUI_116, hF_119, hG_120, rg_w rc_0 (by decide) (by decide), (by (try simp only [hx_12, f_13, c_18, h_19, hx_22, f_23, h_24, (nle h_24), h_37, hx_38, c_51, (eq_true h_55), hx_100, h_111, c_121, (eq_true h_125), if_true, if_false, bqM_pnm, bqM_par, bqM_dnm, bqM_persons, bqM_dishes, bqM_law, bqM_dogs, TB_.w_pnm, TB_.w_par, TB_.w_dnm, TB_.w_persons, TB_.w_dishes, TB_.w_law, TB_.w_dogs, sqM_sl, sqM_so, SP_.w_sl, SP_.w_so, tqM_by_, tqM_wd, tqM_tk, tqM_pl, tqM_vl, tqM_len, tqM_n, tqM_at_, tqM_token, tqM_place, tqM_value, tqM_fault, tqM_fat, TP_.w_by_, TP_.w_wd, TP_.w_tk, TP_.w_pl, TP_.w_vl, TP_.w_len, TP_.w_n, TP_.w_at_, TP_.w_token, TP_.w_place, TP_.w_value, TP_.w_fault, TP_.w_fat] at c_107); simp only [fOne_k8, fAnd2, fFailS, fCmp, ebqa1, hs_123, hs_4, etqa0, hs_122, hs_10, esqx, hs_124, hs_11, hx_12, f_13, c_18, h_19, hx_22, f_23, h_24, (nle h_24), h_37, hx_38, c_51, (eq_true h_55), hx_100, c_107, h_111, c_121, (eq_true h_125), if_true, if_false, bqM_pnm, bqM_par, bqM_dnm, bqM_persons, bqM_dishes, bqM_law, bqM_dogs, TB_.w_pnm, TB_.w_par, TB_.w_dnm, TB_.w_persons, TB_.w_dishes, TB_.w_law, TB_.w_dogs, sqM_sl, sqM_so, SP_.w_sl, SP_.w_so, tqM_by_, tqM_wd, tqM_tk, tqM_pl, tqM_vl, tqM_len, tqM_n, tqM_at_, tqM_token, tqM_place, tqM_value, tqM_fault, tqM_fat, TP_.w_by_, TP_.w_wd, TP_.w_tk, TP_.w_pl, TP_.w_vl, TP_.w_len, TP_.w_n, TP_.w_at_, TP_.w_token, TP_.w_place, TP_.w_value, TP_.w_fault, TP_.w_fat])⟩ dX7_readOne_88
            · skip
              have n_127 : ¬ x_115 = 0 := h_125
              have r_128 := ne_lo (lo := 1) n_127 rx_115 rc_0 rfl (by decide)
              refine g_iconst C (v := 1) dX7_readOne_83 (by decide) ?_
              refine g_goto C (tgt := 88) dX7_readOne_84 (by decide) ?_
              exact g_zret (ty := .boolean) (r := 1) B K rfl (rfl) ⟨hUI_116, hF_119, hG_120, rg_w rc_1 (by decide) (by decide), (by (try simp only [hx_12, f_13, c_18, h_19, hx_22, f_23, h_24, (nle h_24), h_37, hx_38, c_51, (eq_true h_55), hx_100, h_111, c_121, h_125, if_true, if_false, bqM_pnm, bqM_par, bqM_dnm, bqM_persons, bqM_dishes, bqM_law, bqM_dogs, TB_.w_pnm, TB_.w_par, TB_.w_dnm, TB_.w_persons, TB_.w_dishes, TB_.w_law, TB_.w_dogs, sqM_sl, sqM_so, SP_.w_sl, SP_.w_so, tqM_by_, tqM_wd, tqM_tk, tqM_pl, tqM_vl, tqM_len, tqM_n, tqM_at_, tqM_token, tqM_place, tqM_value, tqM_fault, tqM_fat, TP_.w_by_, TP_.w_wd, TP_.w_tk, TP_.w_pl, TP_.w_vl, TP_.w_len, TP_.w_n, TP_.w_at_, TP_.w_token, TP_.w_place, TP_.w_value, TP_.w_fault, TP_.w_fat] at c_107); simp only [fOne_k8, fAnd2, fFailS, fCmp, ebqa1, hs_123, hs_4, etqa0, hs_122, hs_10, esqx, hs_124, hs_11, hx_12, f_13, c_18, h_19, hx_22, f_23, h_24, (nle h_24), h_37, hx_38, c_51, (eq_true h_55), hx_100, c_107, h_111, c_121, h_125, if_true, if_false, bqM_pnm, bqM_par, bqM_dnm, bqM_persons, bqM_dishes, bqM_law, bqM_dogs, TB_.w_pnm, TB_.w_par, TB_.w_dnm, TB_.w_persons, TB_.w_dishes, TB_.w_law, TB_.w_dogs, sqM_sl, sqM_so, SP_.w_sl, SP_.w_so, tqM_by_, tqM_wd, tqM_tk, tqM_pl, tqM_vl, tqM_len, tqM_n, tqM_at_, tqM_token, tqM_place, tqM_value, tqM_fault, tqM_fat, TP_.w_by_, TP_.w_wd, TP_.w_tk, TP_.w_pl, TP_.w_vl, TP_.w_len, TP_.w_n, TP_.w_at_, TP_.w_token, TP_.w_place, TP_.w_value, TP_.w_fault, TP_.w_fat])⟩ dX7_readOne_88
      · skip
        have r_129 := lt_r (lo := 9) (nle h_37) rc_8 ra2 (by decide)
        exact rg_no r_129 (by decide)
  · skip
    have r_130 := (⟨(rx_14).1, (eq_rg (h_19) rc_0).2⟩ : Rg 0 0 x_14)
    refine g_aload_n C 2 dX7_readOne_14 rfl rfl ?_
    refine g_iconst C (v := 1) dX7_readOne_15 (by decide) ?_
    refine g_callVI C K (c_X10_fail W9 hLa0 hka0 1 (rg_w rc_1 (by decide) (by decide)) hU) hLa0 hka0 (by decide) rfl v_7_73 rfl ⟨rfl, rfl⟩ ⟨Nat.le_of_ble_eq_true rfl, Nat.le_of_ble_eq_true rfl⟩ (Nat.le_of_ble_eq_true rfl) ⟨Nat.le_of_ble_eq_true rfl, Nat.le_of_ble_eq_true rfl⟩ dX7_readOne_16 rfl (st := []) (fun x_131 I_132 J_133 h_134 => ?_)
    obtain ⟨hUI_132, hFI_132, hGJ_133, rx_131, fx_131⟩ := h_134
    have hF_135 := fq_tr hF hFI_132 (by decide)
    have hG_136 := fq_tr hG hGJ_133 (by decide)
    obtain ⟨s_138, hs_138⟩ : ∃ z, TPq I_132 J_133 a0 b_5 b_6 b_7 b_8 b_9 = z := ⟨_, rfl⟩
    have c_137 : fFail (1) (s_10) = (x_131, s_138) := by have q := fx_131; simp only [etqa0, hs_10, hs_138] at q; exact q.symm
    have hs_139 : TBq I_132 J_133 a1 b_1 b_2 b_3 = s_4 := (bq_fq wbqa1 hFI_132 hGJ_133 (by decide) (by decide)).trans hs_4
    have hs_140 : SPq I_132 J_133 x = s_11 := (sq_fq wsqx hFI_132 hGJ_133 (by decide) (by decide)).trans hs_11
    exact g_zret (ty := .boolean) (r := x_131) B K rfl (nar_z (rg_w rx_131 (by decide) (by decide))) ⟨hUI_132, hF_135, hG_136, rg_w rx_131 (by decide) (by decide), (by simp only [fOne_k8, fAnd2, fFailS, fCmp, ebqa1, hs_139, hs_4, etqa0, hs_138, hs_10, esqx, hs_140, hs_11, hx_12, f_13, c_18, (eq_true h_19), c_137, if_true, if_false, bqM_pnm, bqM_par, bqM_dnm, bqM_persons, bqM_dishes, bqM_law, bqM_dogs, TB_.w_pnm, TB_.w_par, TB_.w_dnm, TB_.w_persons, TB_.w_dishes, TB_.w_law, TB_.w_dogs, sqM_sl, sqM_so, SP_.w_sl, SP_.w_so, tqM_by_, tqM_wd, tqM_tk, tqM_pl, tqM_vl, tqM_len, tqM_n, tqM_at_, tqM_token, tqM_place, tqM_value, tqM_fault, tqM_fat, TP_.w_by_, TP_.w_wd, TP_.w_tk, TP_.w_pl, TP_.w_vl, TP_.w_len, TP_.w_n, TP_.w_at_, TP_.w_token, TP_.w_place, TP_.w_value, TP_.w_fault, TP_.w_fat])⟩ dX7_readOne_19
set_option maxRecDepth 100000 in
set_option maxHeartbeats 8000000 in
theorem c_X7_readAll_1 {l : Launch} {D : va_G} {cy : Nat → ClassId} {L : List Nat} {κ ln : Nat → Nat} {R : Nat → Nat → Option Nat} {I : Nat → Nat → Int32} {J : Nat → Nat → Int64} {ow : Nat → Nat × Nat} (W9 : ∀ a ∈ L, Shp L κ ln R ow a) {x : Nat} (hLx : x ∈ L) (hkx : κ x = 7) {a0 : Nat} (hLa0 : a0 ∈ L) (hka0 : κ a0 = 10) {a1 : Nat} (hLa1 : a1 ∈ L) (hka1 : κ a1 = 8) (a2 : Int32) (ra2 : Rg 1 1 a2) (hU : Iv L κ R ow I) : CtI l yX7_readAll cX7_readAll 6 (some .boolean) { frames := 26, cells := 0, slots := 0, locals := 637 } D cy L κ ln R I J [.ref x, .ref a0, .ref a1, .int a2] (fun r I2 J2 => Iv L κ R ow I2 ∧ Fq L κ ow [704, 705, 1007, 1008, 1009, 1011, 1012, 52000, 52100, 52200] I I2 ∧ Fq L κ ow [1010] J J2 ∧ Rg 0 1 r ∧ ((r, TPf R I2 J2 a0, SPf R I2 J2 x) = fAll 8 (TBf R I J a1) (TPf R I J a0) (SPf R I J x))) := by
  refine CtI.of (by decide +kernel) (Nat.le_of_ble_eq_true rfl) ?_
  intro p e s m below meth c B K
  have C := B.1
  have hF : Fq L κ ow [704, 705, 1007, 1008, 1009, 1011, 1012, 52000, 52100, 52200] I I := fq_rf
  have hG : Fq L κ ow [1010] J J := fq_rf
  obtain ⟨b_1, hb_1, hb_1L, hb_1k, hb_1n, hb_1o⟩ := shp_a (W9 a1 hLa1) hka1 0 15 7 rfl (by decide)
  obtain ⟨b_2, hb_2, hb_2L, hb_2k, hb_2n, hb_2o⟩ := shp_a (W9 a1 hLa1) hka1 2 14 7 rfl (by decide)
  obtain ⟨b_3, hb_3, hb_3L, hb_3k, hb_3n, hb_3o⟩ := shp_a (W9 a1 hLa1) hka1 3 15 6 rfl (by decide)
  have ebqa1 : ∀ I J, TBf R I J a1 = TBq I J a1 b_1 b_2 b_3 := fun I J => by simp only [TBf, rr_, Option.getD_some, hb_1, hb_2, hb_3]
  have wbqa1 : bqw_ L κ ow a1 b_1 b_2 b_3 := ⟨⟨hLa1, hb_1L, hb_2L, hb_3L⟩, ⟨(ro_o hka1 (by decide)), (ro_a hb_1k (by decide) hb_1o hka1 rfl), (ro_a hb_2k (by decide) hb_2o hka1 rfl), (ro_a hb_3k (by decide) hb_3o hka1 rfl)⟩⟩
  obtain ⟨s_4, hs_4⟩ : ∃ z, TBq I J a1 b_1 b_2 b_3 = z := ⟨_, rfl⟩
  obtain ⟨b_5, hb_5, hb_5L, hb_5k, hb_5n, hb_5o⟩ := shp_a (W9 a0 hLa0) hka0 0 13 940 rfl (by decide)
  obtain ⟨b_6, hb_6, hb_6L, hb_6k, hb_6n, hb_6o⟩ := shp_a (W9 a0 hLa0) hka0 1 15 28 rfl (by decide)
  obtain ⟨b_7, hb_7, hb_7L, hb_7k, hb_7n, hb_7o⟩ := shp_a (W9 a0 hLa0) hka0 2 14 901 rfl (by decide)
  obtain ⟨b_8, hb_8, hb_8L, hb_8k, hb_8n, hb_8o⟩ := shp_a (W9 a0 hLa0) hka0 3 14 901 rfl (by decide)
  obtain ⟨b_9, hb_9, hb_9L, hb_9k, hb_9n, hb_9o⟩ := shp_a (W9 a0 hLa0) hka0 4 15 901 rfl (by decide)
  have etqa0 : ∀ I J, TPf R I J a0 = TPq I J a0 b_5 b_6 b_7 b_8 b_9 := fun I J => by simp only [TPf, rr_, Option.getD_some, hb_5, hb_6, hb_7, hb_8, hb_9]
  have wtqa0 : tqw_ L κ ow a0 b_5 b_6 b_7 b_8 b_9 := ⟨⟨hLa0, hb_5L, hb_6L, hb_7L, hb_8L, hb_9L⟩, ⟨(ro_o hka0 (by decide)), (ro_a hb_5k (by decide) hb_5o hka0 rfl), (ro_a hb_6k (by decide) hb_6o hka0 rfl), (ro_a hb_7k (by decide) hb_7o hka0 rfl), (ro_a hb_8k (by decide) hb_8o hka0 rfl), (ro_a hb_9k (by decide) hb_9o hka0 rfl)⟩⟩
  obtain ⟨s_10, hs_10⟩ : ∃ z, TPq I J a0 b_5 b_6 b_7 b_8 b_9 = z := ⟨_, rfl⟩
  have esqx : ∀ I J, SPf R I J x = SPq I J x := fun I J => by simp only [SPf, rr_, Option.getD_some]
  have wsqx : sqw_ L κ ow x := ⟨hLx, (ro_o hkx (by decide))⟩
  obtain ⟨s_11, hs_11⟩ : ∃ z, SPq I J x = z := ⟨_, rfl⟩
  refine g_lo (is := [0, 1, 2, 3]) (lo2 := [(0, .ref x), (1, .ref a0), (2, .ref a1), (3, .int a2)]) rfl ?_
  have l_12 : ∀ (n_12 : Nat) (I_12 : Nat → Nat → Int32) (J_13 : Nat → Nat → Int64) (hU_14 : Iv L κ R ow I_12) (hF_15 : Fq L κ ow [704, 705, 1007, 1008, 1009, 1011, 1012, 52000, 52100, 52200] I I_12) (hG_16 : Fq L κ ow [1010] J J_13) (v_17 : Int32) (rv_17 : Rg 0 1 v_17) (v_18 : Int32) (rv_18 : Rg 0 20 v_18) (hq_19 : fLp (fOne 8 (TBq I_12 J_13 a1 b_1 b_2 b_3)) 18 v_18 v_17 (TPq I_12 J_13 a0 b_5 b_6 b_7 b_8 b_9) (SPq I_12 J_13 x) = fAll 8 s_4 s_10 s_11) (hm_20 : 20 < (v_18 : Int32).toInt + (n_12 : Int)), WG p l e { frames := 26, cells := 0, slots := 0, locals := 637 } s m ([.ref x, .ref a0, .ref a1, .int a2] : List Value).toArray below meth c 6 0 0 (MQ below (Qi_ D cy L κ ln R (fun r I2 J2 => Iv L κ R ow I2 ∧ Fq L κ ow [704, 705, 1007, 1008, 1009, 1011, 1012, 52000, 52100, 52200] I I2 ∧ Fq L κ ow [1010] J J2 ∧ Rg 0 1 r ∧ ((r, TPf R I2 J2 a0, SPf R I2 J2 x) = fAll 8 (TBf R I J a1) (TPf R I J a0) (SPf R I J x)))) ([.ref x, .ref a0, .ref a1, .int a2] : List Value).toArray s 0 0 (Al_ L)) D cy (Al_ L) s.heap L κ ln R I_12 J_13 12 [(0, .ref x), (1, .ref a0), (2, .ref a1), (3, .int a2), (4, .int v_17), (5, .int v_18)] [] := by
    intro n_12
    induction n_12 with
    | zero =>
      intro I_12 J_13 hU_14 hF_15 hG_16 v_17 rv_17 v_18 rv_18 hq_19 hm_20
      exact ms_0 rv_18 hm_20
    | succ n_12 ih_12 =>
      intro I_12 J_13 hU_14 hF_15 hG_16 v_17 rv_17 v_18 rv_18 hq_19 hm_20
      obtain ⟨s_21, hs_21⟩ : ∃ z, TBq I_12 J_13 a1 b_1 b_2 b_3 = z := ⟨_, rfl⟩
      obtain ⟨s_22, hs_22⟩ : ∃ z, TPq I_12 J_13 a0 b_5 b_6 b_7 b_8 b_9 = z := ⟨_, rfl⟩
      obtain ⟨s_23, hs_23⟩ : ∃ z, SPq I_12 J_13 x = z := ⟨_, rfl⟩
      simp only [hs_21, hs_22, hs_23] at hq_19
      have hQ_24 := hq_19.symm
      have u_25 := fLp_eq (rd := fOne 8 s_21) (k := 18) (i := v_18) (r := v_17) (t := s_22) (s := s_23) (rv_18)
      refine g_iload C 5 dX7_readAll_12 rfl ?_
      refine g_bipush C (v := 20) dX7_readAll_14 (by decide) ?_
      refine g_icmp_ge C (tgt := 71) dX7_readAll_16 (by decide) (fun h_26 => ?_) (fun h_26 => ?_)
      · skip
        have r_27 := le_r (h_26) rc_20 rv_18
        refine g_iload C 4 dX7_readAll_71 rfl ?_
        exact g_zret (ty := .boolean) (r := v_17) B K rfl (nar_z (rv_17)) ⟨hU_14, hF_15, hG_16, rv_17, (by (try simp only [h_26, if_true, if_false, bqM_pnm, bqM_par, bqM_dnm, bqM_persons, bqM_dishes, bqM_law, bqM_dogs, TB_.w_pnm, TB_.w_par, TB_.w_dnm, TB_.w_persons, TB_.w_dishes, TB_.w_law, TB_.w_dogs, sqM_sl, sqM_so, SP_.w_sl, SP_.w_so, tqM_by_, tqM_wd, tqM_tk, tqM_pl, tqM_vl, tqM_len, tqM_n, tqM_at_, tqM_token, tqM_place, tqM_value, tqM_fault, tqM_fat, TP_.w_by_, TP_.w_wd, TP_.w_tk, TP_.w_pl, TP_.w_vl, TP_.w_len, TP_.w_n, TP_.w_at_, TP_.w_token, TP_.w_place, TP_.w_value, TP_.w_fault, TP_.w_fat] at hQ_24); (try simp only [h_26, if_true, if_false, bqM_pnm, bqM_par, bqM_dnm, bqM_persons, bqM_dishes, bqM_law, bqM_dogs, TB_.w_pnm, TB_.w_par, TB_.w_dnm, TB_.w_persons, TB_.w_dishes, TB_.w_law, TB_.w_dogs, sqM_sl, sqM_so, SP_.w_sl, SP_.w_so, tqM_by_, tqM_wd, tqM_tk, tqM_pl, tqM_vl, tqM_len, tqM_n, tqM_at_, tqM_token, tqM_place, tqM_value, tqM_fault, tqM_fat, TP_.w_by_, TP_.w_wd, TP_.w_tk, TP_.w_pl, TP_.w_vl, TP_.w_len, TP_.w_n, TP_.w_at_, TP_.w_token, TP_.w_place, TP_.w_value, TP_.w_fault, TP_.w_fat] at u_25); simp only [ebqa1, hs_21, hs_4, etqa0, hs_22, hs_10, esqx, hs_23, hs_11, hQ_24, u_25, h_26, if_true, if_false, bqM_pnm, bqM_par, bqM_dnm, bqM_persons, bqM_dishes, bqM_law, bqM_dogs, TB_.w_pnm, TB_.w_par, TB_.w_dnm, TB_.w_persons, TB_.w_dishes, TB_.w_law, TB_.w_dogs, sqM_sl, sqM_so, SP_.w_sl, SP_.w_so, tqM_by_, tqM_wd, tqM_tk, tqM_pl, tqM_vl, tqM_len, tqM_n, tqM_at_, tqM_token, tqM_place, tqM_value, tqM_fault, tqM_fat, TP_.w_by_, TP_.w_wd, TP_.w_tk, TP_.w_pl, TP_.w_vl, TP_.w_len, TP_.w_n, TP_.w_at_, TP_.w_token, TP_.w_place, TP_.w_value, TP_.w_fault, TP_.w_fat])⟩ dX7_readAll_73
      · skip
        have r_28 := lt_l (hi := 19) (nle h_26) rv_18 rc_20 (by decide)
        refine g_iload C 4 dX7_readAll_19 rfl ?_
        refine g_if_eq C (tgt := 71) dX7_readAll_21 (by decide) (fun h_29 => ?_) (fun h_29 => ?_)
        · skip
          have r_30 := (⟨(rv_17).1, (eq_rg (h_29) rc_0).2⟩ : Rg 0 0 v_17)
          refine g_iload C 4 dX7_readAll_71 rfl ?_
          exact g_zret (ty := .boolean) (r := v_17) B K rfl (nar_z (rg_w r_30 (by decide) (by decide))) ⟨hU_14, hF_15, hG_16, rg_w r_30 (by decide) (by decide), (by (try simp only [h_26, (nle h_26), (eq_true h_29), if_true, if_false, bqM_pnm, bqM_par, bqM_dnm, bqM_persons, bqM_dishes, bqM_law, bqM_dogs, TB_.w_pnm, TB_.w_par, TB_.w_dnm, TB_.w_persons, TB_.w_dishes, TB_.w_law, TB_.w_dogs, sqM_sl, sqM_so, SP_.w_sl, SP_.w_so, tqM_by_, tqM_wd, tqM_tk, tqM_pl, tqM_vl, tqM_len, tqM_n, tqM_at_, tqM_token, tqM_place, tqM_value, tqM_fault, tqM_fat, TP_.w_by_, TP_.w_wd, TP_.w_tk, TP_.w_pl, TP_.w_vl, TP_.w_len, TP_.w_n, TP_.w_at_, TP_.w_token, TP_.w_place, TP_.w_value, TP_.w_fault, TP_.w_fat] at hQ_24); (try simp only [h_26, (nle h_26), (eq_true h_29), if_true, if_false, bqM_pnm, bqM_par, bqM_dnm, bqM_persons, bqM_dishes, bqM_law, bqM_dogs, TB_.w_pnm, TB_.w_par, TB_.w_dnm, TB_.w_persons, TB_.w_dishes, TB_.w_law, TB_.w_dogs, sqM_sl, sqM_so, SP_.w_sl, SP_.w_so, tqM_by_, tqM_wd, tqM_tk, tqM_pl, tqM_vl, tqM_len, tqM_n, tqM_at_, tqM_token, tqM_place, tqM_value, tqM_fault, tqM_fat, TP_.w_by_, TP_.w_wd, TP_.w_tk, TP_.w_pl, TP_.w_vl, TP_.w_len, TP_.w_n, TP_.w_at_, TP_.w_token, TP_.w_place, TP_.w_value, TP_.w_fault, TP_.w_fat] at u_25); simp only [ebqa1, hs_21, hs_4, etqa0, hs_22, hs_10, esqx, hs_23, hs_11, hQ_24, u_25, h_26, (nle h_26), (eq_true h_29), if_true, if_false, bqM_pnm, bqM_par, bqM_dnm, bqM_persons, bqM_dishes, bqM_law, bqM_dogs, TB_.w_pnm, TB_.w_par, TB_.w_dnm, TB_.w_persons, TB_.w_dishes, TB_.w_law, TB_.w_dogs, sqM_sl, sqM_so, SP_.w_sl, SP_.w_so, tqM_by_, tqM_wd, tqM_tk, tqM_pl, tqM_vl, tqM_len, tqM_n, tqM_at_, tqM_token, tqM_place, tqM_value, tqM_fault, tqM_fat, TP_.w_by_, TP_.w_wd, TP_.w_tk, TP_.w_pl, TP_.w_vl, TP_.w_len, TP_.w_n, TP_.w_at_, TP_.w_token, TP_.w_place, TP_.w_value, TP_.w_fault, TP_.w_fat])⟩ dX7_readAll_73
        · skip
          have n_31 : ¬ v_17 = 0 := h_29
          have r_32 := ne_lo (lo := 1) n_31 rv_17 rc_0 rfl (by decide)
          refine g_aload_n C 1 dX7_readAll_24 rfl rfl ?_
          obtain ⟨x_33, hx_33, rx_33⟩ := ex_get (I := I_12) (a := a0) (j := 8) (lo := (-2147483648)) (hi := 2147483647) hU_14.1 hLa0 (ro_o hka0 (by decide)) rfl
          have f_34 : s_22.token = x_33 := (congrArg TP_.token hs_22).symm.trans hx_33
          refine g_getI C K hLa0 hka0 f_7_57 (v := x_33) hx_33 dX7_readAll_25 ?_
          refine g_bipush C (v := 18) dX7_readAll_28 (by decide) ?_
          refine g_icmp_ne C (tgt := 71) dX7_readAll_30 (by decide) (fun h_35 => ?_) (fun h_35 => ?_)
          · skip
            have n_36 : ¬ x_33 = 18 := h_35
            refine g_iload C 4 dX7_readAll_71 rfl ?_
            exact g_zret (ty := .boolean) (r := v_17) B K rfl (nar_z (rg_w r_32 (by decide) (by decide))) ⟨hU_14, hF_15, hG_16, rg_w r_32 (by decide) (by decide), (by (try simp only [h_26, (nle h_26), h_29, hx_33, f_34, h_35, if_true, if_false, bqM_pnm, bqM_par, bqM_dnm, bqM_persons, bqM_dishes, bqM_law, bqM_dogs, TB_.w_pnm, TB_.w_par, TB_.w_dnm, TB_.w_persons, TB_.w_dishes, TB_.w_law, TB_.w_dogs, sqM_sl, sqM_so, SP_.w_sl, SP_.w_so, tqM_by_, tqM_wd, tqM_tk, tqM_pl, tqM_vl, tqM_len, tqM_n, tqM_at_, tqM_token, tqM_place, tqM_value, tqM_fault, tqM_fat, TP_.w_by_, TP_.w_wd, TP_.w_tk, TP_.w_pl, TP_.w_vl, TP_.w_len, TP_.w_n, TP_.w_at_, TP_.w_token, TP_.w_place, TP_.w_value, TP_.w_fault, TP_.w_fat] at hQ_24); (try simp only [h_26, (nle h_26), h_29, hx_33, f_34, h_35, if_true, if_false, bqM_pnm, bqM_par, bqM_dnm, bqM_persons, bqM_dishes, bqM_law, bqM_dogs, TB_.w_pnm, TB_.w_par, TB_.w_dnm, TB_.w_persons, TB_.w_dishes, TB_.w_law, TB_.w_dogs, sqM_sl, sqM_so, SP_.w_sl, SP_.w_so, tqM_by_, tqM_wd, tqM_tk, tqM_pl, tqM_vl, tqM_len, tqM_n, tqM_at_, tqM_token, tqM_place, tqM_value, tqM_fault, tqM_fat, TP_.w_by_, TP_.w_wd, TP_.w_tk, TP_.w_pl, TP_.w_vl, TP_.w_len, TP_.w_n, TP_.w_at_, TP_.w_token, TP_.w_place, TP_.w_value, TP_.w_fault, TP_.w_fat] at u_25); simp only [ebqa1, hs_21, hs_4, etqa0, hs_22, hs_10, esqx, hs_23, hs_11, hQ_24, u_25, h_26, (nle h_26), h_29, hx_33, f_34, h_35, if_true, if_false, bqM_pnm, bqM_par, bqM_dnm, bqM_persons, bqM_dishes, bqM_law, bqM_dogs, TB_.w_pnm, TB_.w_par, TB_.w_dnm, TB_.w_persons, TB_.w_dishes, TB_.w_law, TB_.w_dogs, sqM_sl, sqM_so, SP_.w_sl, SP_.w_so, tqM_by_, tqM_wd, tqM_tk, tqM_pl, tqM_vl, tqM_len, tqM_n, tqM_at_, tqM_token, tqM_place, tqM_value, tqM_fault, tqM_fat, TP_.w_by_, TP_.w_wd, TP_.w_tk, TP_.w_pl, TP_.w_vl, TP_.w_len, TP_.w_n, TP_.w_at_, TP_.w_token, TP_.w_place, TP_.w_value, TP_.w_fault, TP_.w_fat])⟩ dX7_readAll_73
          · skip
            have r_37 := (⟨(eq_rg (h_35) rc_18).1, (eq_rg (h_35) rc_18).2⟩ : Rg 18 18 x_33)
            refine g_aload_n C 1 dX7_readAll_33 rfl rfl ?_
            refine g_callVV C K (c_X10_advance W9 hLa0 hka0   hU_14) hLa0 hka0 (by decide) rfl v_7_60 rfl ⟨rfl, rfl⟩ ⟨Nat.le_of_ble_eq_true rfl, Nat.le_of_ble_eq_true rfl⟩ (Nat.le_of_ble_eq_true rfl) ⟨Nat.le_of_ble_eq_true rfl, Nat.le_of_ble_eq_true rfl⟩ dX7_readAll_34 rfl (st := []) (fun I_39 J_40 h_41 => ?_)
            obtain ⟨hUI_39, hFI_39, hGJ_40, fx_38⟩ := h_41
            have hF_42 := fq_tr hF_15 hFI_39 (by decide)
            have hG_43 := fq_tr hG_16 hGJ_40 (by decide)
            obtain ⟨s_45, hs_45⟩ : ∃ z, TPq I_39 J_40 a0 b_5 b_6 b_7 b_8 b_9 = z := ⟨_, rfl⟩
            have c_44 : fAdvance (s_22) = s_45 := by have q := fx_38; simp only [etqa0, hs_22, hs_45] at q; exact q.symm
            have hs_46 : TBq I_39 J_40 a1 b_1 b_2 b_3 = s_21 := (bq_fq wbqa1 hFI_39 hGJ_40 (by decide) (by decide)).trans hs_21
            have hs_47 : SPq I_39 J_40 x = s_23 := (sq_fq wsqx hFI_39 hGJ_40 (by decide) (by decide)).trans hs_23
            refine g_aload_n C 0 dX7_readAll_37 rfl rfl ?_
            refine g_aload_n C 1 dX7_readAll_38 rfl rfl ?_
            refine g_aload_n C 2 dX7_readAll_39 rfl rfl ?_
            refine g_iload_n C 3 dX7_readAll_40 rfl rfl ?_
            refine g_callVI C K (c_X7_readOne_1 W9 hLx hkx hLa0 hka0 hLa1 hka1 a2 (ra2) hUI_39) hLx hkx (by decide) rfl v_7_67 rfl ⟨rfl, rfl⟩ ⟨Nat.le_of_ble_eq_true rfl, Nat.le_of_ble_eq_true rfl⟩ (Nat.le_of_ble_eq_true rfl) ⟨Nat.le_of_ble_eq_true rfl, Nat.le_of_ble_eq_true rfl⟩ dX7_readAll_41 rfl (st := []) (fun x_48 I_49 J_50 h_51 => ?_)
            obtain ⟨hUI_49, hFI_49, hGJ_50, rx_48, fx_48⟩ := h_51
            have hF_52 := fq_tr hF_42 hFI_49 (by decide)
            have hG_53 := fq_tr hG_43 hGJ_50 (by decide)
            obtain ⟨s_55, hs_55⟩ : ∃ z, TPq I_49 J_50 a0 b_5 b_6 b_7 b_8 b_9 = z := ⟨_, rfl⟩
            obtain ⟨s_56, hs_56⟩ : ∃ z, SPq I_49 J_50 x = z := ⟨_, rfl⟩
            have c_54 : fOne 8 (s_21) (s_45) (s_23) = (x_48, s_55, s_56) := by have q := fx_48; simp only [ebqa1, etqa0, esqx, hs_46, hs_45, hs_47, hs_55, hs_56] at q; exact q.symm
            have hs_57 : TBq I_49 J_50 a1 b_1 b_2 b_3 = s_21 := (bq_fq wbqa1 hFI_49 hGJ_50 (by decide) (by decide)).trans hs_46
            refine g_if_eq C (tgt := 62) dX7_readAll_44 (by decide) (fun h_58 => ?_) (fun h_58 => ?_)
            · skip
              have r_59 := (⟨(rx_48).1, (eq_rg (h_58) rc_0).2⟩ : Rg 0 0 x_48)
              refine g_iconst C (v := 0) dX7_readAll_62 (by decide) ?_
              refine g_istore C dX7_readAll_63 (by decide) (lo2 := [(4, .int 0), (0, .ref x), (1, .ref a0), (2, .ref a1), (3, .int a2), (5, .int v_18)]) rfl ?_
              obtain ⟨x_60, hx_60, rx_60, tx_60⟩ := ex_add (y := 1) 1 20 r_28 rc_1 (by decide) (by decide) (by decide) (by decide)
              refine g_iinc C dX7_readAll_65 (k := 5) (v := x_60) rfl hx_60 (by decide) (lo2 := [(5, .int x_60), (4, .int 0), (0, .ref x), (1, .ref a0), (2, .ref a1), (3, .int a2)]) rfl ?_
              refine g_goto C (tgt := 12) dX7_readAll_68 (by decide) ?_
              refine g_lo (is := [2, 3, 4, 5, 1, 0]) (lo2 := [(0, .ref x), (1, .ref a0), (2, .ref a1), (3, .int a2), (4, .int 0), (5, .int x_60)]) rfl ?_
              exact ih_12 I_49 J_50 hUI_49 hF_52 hG_53 0 (rg_w rc_0 (by decide) (by decide)) x_60 (rg_w rx_60 (by decide) (by decide)) (by (try simp only [h_26, (nle h_26), h_29, hx_33, f_34, (eq_true h_35), c_44, c_54, (eq_true h_58), hx_60, if_true, if_false, bqM_pnm, bqM_par, bqM_dnm, bqM_persons, bqM_dishes, bqM_law, bqM_dogs, TB_.w_pnm, TB_.w_par, TB_.w_dnm, TB_.w_persons, TB_.w_dishes, TB_.w_law, TB_.w_dogs, sqM_sl, sqM_so, SP_.w_sl, SP_.w_so, tqM_by_, tqM_wd, tqM_tk, tqM_pl, tqM_vl, tqM_len, tqM_n, tqM_at_, tqM_token, tqM_place, tqM_value, tqM_fault, tqM_fat, TP_.w_by_, TP_.w_wd, TP_.w_tk, TP_.w_pl, TP_.w_vl, TP_.w_len, TP_.w_n, TP_.w_at_, TP_.w_token, TP_.w_place, TP_.w_value, TP_.w_fault, TP_.w_fat] at hQ_24); (try simp only [h_26, (nle h_26), h_29, hx_33, f_34, (eq_true h_35), c_44, c_54, (eq_true h_58), hx_60, if_true, if_false, bqM_pnm, bqM_par, bqM_dnm, bqM_persons, bqM_dishes, bqM_law, bqM_dogs, TB_.w_pnm, TB_.w_par, TB_.w_dnm, TB_.w_persons, TB_.w_dishes, TB_.w_law, TB_.w_dogs, sqM_sl, sqM_so, SP_.w_sl, SP_.w_so, tqM_by_, tqM_wd, tqM_tk, tqM_pl, tqM_vl, tqM_len, tqM_n, tqM_at_, tqM_token, tqM_place, tqM_value, tqM_fault, tqM_fat, TP_.w_by_, TP_.w_wd, TP_.w_tk, TP_.w_pl, TP_.w_vl, TP_.w_len, TP_.w_n, TP_.w_at_, TP_.w_token, TP_.w_place, TP_.w_value, TP_.w_fault, TP_.w_fat] at u_25); simp only [ebqa1, hs_57, hs_4, etqa0, hs_55, hs_10, esqx, hs_56, hs_11, hQ_24, u_25, h_26, (nle h_26), h_29, hx_33, f_34, (eq_true h_35), c_44, c_54, (eq_true h_58), hx_60, if_true, if_false, bqM_pnm, bqM_par, bqM_dnm, bqM_persons, bqM_dishes, bqM_law, bqM_dogs, TB_.w_pnm, TB_.w_par, TB_.w_dnm, TB_.w_persons, TB_.w_dishes, TB_.w_law, TB_.w_dogs, sqM_sl, sqM_so, SP_.w_sl, SP_.w_so, tqM_by_, tqM_wd, tqM_tk, tqM_pl, tqM_vl, tqM_len, tqM_n, tqM_at_, tqM_token, tqM_place, tqM_value, tqM_fault, tqM_fat, TP_.w_by_, TP_.w_wd, TP_.w_tk, TP_.w_pl, TP_.w_vl, TP_.w_len, TP_.w_n, TP_.w_at_, TP_.w_token, TP_.w_place, TP_.w_value, TP_.w_fault, TP_.w_fat]) (ms_1 hm_20 (ti_k tx_60 rc_1) (by decide))
            · skip
              have n_61 : ¬ x_48 = 0 := h_58
              have r_62 := ne_lo (lo := 1) n_61 rx_48 rc_0 rfl (by decide)
              refine g_aload_n C 0 dX7_readAll_47 rfl rfl ?_
              refine g_bipush C (v := 18) dX7_readAll_48 (by decide) ?_
              refine g_iconst C (v := 0) dX7_readAll_50 (by decide) ?_
              refine g_iconst C (v := 0) dX7_readAll_51 (by decide) ?_
              refine g_callVI C K (c_X7_addStep W9 hLx hkx 18 0 0 (rg_w rc_0 (by decide) (by decide)) hUI_49  (fun q => absurd q (by decide))) hLx hkx (by decide) rfl v_7_63 rfl ⟨rfl, rfl⟩ ⟨Nat.le_of_ble_eq_true rfl, Nat.le_of_ble_eq_true rfl⟩ (Nat.le_of_ble_eq_true rfl) ⟨Nat.le_of_ble_eq_true rfl, Nat.le_of_ble_eq_true rfl⟩ dX7_readAll_52 rfl (st := []) (fun x_63 I_64 J_65 h_66 => ?_)
              obtain ⟨hUI_64, hFI_64, hGJ_65, rx_63, fx_63⟩ := h_66
              have hF_67 := fq_tr hF_52 hFI_64 (by decide)
              have hG_68 := fq_tr hG_53 hGJ_65 (by decide)
              obtain ⟨s_70, hs_70⟩ : ∃ z, SPq I_64 J_65 x = z := ⟨_, rfl⟩
              have c_69 : fAddStep (s_56) = (x_63, s_70) := by have q := fx_63; simp only [esqx, hs_56, hs_70] at q; exact q.symm
              have hs_71 : TBq I_64 J_65 a1 b_1 b_2 b_3 = s_21 := (bq_fq wbqa1 hFI_64 hGJ_65 (by decide) (by decide)).trans hs_57
              have hs_72 : TPq I_64 J_65 a0 b_5 b_6 b_7 b_8 b_9 = s_55 := (tq_fq wtqa0 hFI_64 hGJ_65 (by decide) (by decide)).trans hs_55
              refine g_if_eq C (tgt := 62) dX7_readAll_55 (by decide) (fun h_73 => ?_) (fun h_73 => ?_)
              · skip
                have r_74 := (⟨(rx_63).1, (eq_rg (h_73) rc_0).2⟩ : Rg 0 0 x_63)
                refine g_iconst C (v := 0) dX7_readAll_62 (by decide) ?_
                refine g_istore C dX7_readAll_63 (by decide) (lo2 := [(4, .int 0), (0, .ref x), (1, .ref a0), (2, .ref a1), (3, .int a2), (5, .int v_18)]) rfl ?_
                obtain ⟨x_75, hx_75, rx_75, tx_75⟩ := ex_add (y := 1) 1 20 r_28 rc_1 (by decide) (by decide) (by decide) (by decide)
                refine g_iinc C dX7_readAll_65 (k := 5) (v := x_75) rfl hx_75 (by decide) (lo2 := [(5, .int x_75), (4, .int 0), (0, .ref x), (1, .ref a0), (2, .ref a1), (3, .int a2)]) rfl ?_
                refine g_goto C (tgt := 12) dX7_readAll_68 (by decide) ?_
                refine g_lo (is := [2, 3, 4, 5, 1, 0]) (lo2 := [(0, .ref x), (1, .ref a0), (2, .ref a1), (3, .int a2), (4, .int 0), (5, .int x_75)]) rfl ?_
                exact ih_12 I_64 J_65 hUI_64 hF_67 hG_68 0 (rg_w rc_0 (by decide) (by decide)) x_75 (rg_w rx_75 (by decide) (by decide)) (by (try simp only [h_26, (nle h_26), h_29, hx_33, f_34, (eq_true h_35), c_44, c_54, h_58, c_69, (eq_true h_73), hx_75, if_true, if_false, bqM_pnm, bqM_par, bqM_dnm, bqM_persons, bqM_dishes, bqM_law, bqM_dogs, TB_.w_pnm, TB_.w_par, TB_.w_dnm, TB_.w_persons, TB_.w_dishes, TB_.w_law, TB_.w_dogs, sqM_sl, sqM_so, SP_.w_sl, SP_.w_so, tqM_by_, tqM_wd, tqM_tk, tqM_pl, tqM_vl, tqM_len, tqM_n, tqM_at_, tqM_token, tqM_place, tqM_value, tqM_fault, tqM_fat, TP_.w_by_, TP_.w_wd, TP_.w_tk, TP_.w_pl, TP_.w_vl, TP_.w_len, TP_.w_n, TP_.w_at_, TP_.w_token, TP_.w_place, TP_.w_value, TP_.w_fault, TP_.w_fat] at hQ_24); (try simp only [h_26, (nle h_26), h_29, hx_33, f_34, (eq_true h_35), c_44, c_54, h_58, c_69, (eq_true h_73), hx_75, if_true, if_false, bqM_pnm, bqM_par, bqM_dnm, bqM_persons, bqM_dishes, bqM_law, bqM_dogs, TB_.w_pnm, TB_.w_par, TB_.w_dnm, TB_.w_persons, TB_.w_dishes, TB_.w_law, TB_.w_dogs, sqM_sl, sqM_so, SP_.w_sl, SP_.w_so, tqM_by_, tqM_wd, tqM_tk, tqM_pl, tqM_vl, tqM_len, tqM_n, tqM_at_, tqM_token, tqM_place, tqM_value, tqM_fault, tqM_fat, TP_.w_by_, TP_.w_wd, TP_.w_tk, TP_.w_pl, TP_.w_vl, TP_.w_len, TP_.w_n, TP_.w_at_, TP_.w_token, TP_.w_place, TP_.w_value, TP_.w_fault, TP_.w_fat] at u_25); simp only [ebqa1, hs_71, hs_4, etqa0, hs_72, hs_10, esqx, hs_70, hs_11, hQ_24, u_25, h_26, (nle h_26), h_29, hx_33, f_34, (eq_true h_35), c_44, c_54, h_58, c_69, (eq_true h_73), hx_75, if_true, if_false, bqM_pnm, bqM_par, bqM_dnm, bqM_persons, bqM_dishes, bqM_law, bqM_dogs, TB_.w_pnm, TB_.w_par, TB_.w_dnm, TB_.w_persons, TB_.w_dishes, TB_.w_law, TB_.w_dogs, sqM_sl, sqM_so, SP_.w_sl, SP_.w_so, tqM_by_, tqM_wd, tqM_tk, tqM_pl, tqM_vl, tqM_len, tqM_n, tqM_at_, tqM_token, tqM_place, tqM_value, tqM_fault, tqM_fat, TP_.w_by_, TP_.w_wd, TP_.w_tk, TP_.w_pl, TP_.w_vl, TP_.w_len, TP_.w_n, TP_.w_at_, TP_.w_token, TP_.w_place, TP_.w_value, TP_.w_fault, TP_.w_fat]) (ms_1 hm_20 (ti_k tx_75 rc_1) (by decide))
              · skip
                have n_76 : ¬ x_63 = 0 := h_73
                have r_77 := ne_lo (lo := 1) n_76 rx_63 rc_0 rfl (by decide)
                refine g_iconst C (v := 1) dX7_readAll_58 (by decide) ?_
                refine g_goto C (tgt := 63) dX7_readAll_59 (by decide) ?_
                refine g_istore C dX7_readAll_63 (by decide) (lo2 := [(4, .int 1), (0, .ref x), (1, .ref a0), (2, .ref a1), (3, .int a2), (5, .int v_18)]) rfl ?_
                obtain ⟨x_78, hx_78, rx_78, tx_78⟩ := ex_add (y := 1) 1 20 r_28 rc_1 (by decide) (by decide) (by decide) (by decide)
                refine g_iinc C dX7_readAll_65 (k := 5) (v := x_78) rfl hx_78 (by decide) (lo2 := [(5, .int x_78), (4, .int 1), (0, .ref x), (1, .ref a0), (2, .ref a1), (3, .int a2)]) rfl ?_
                refine g_goto C (tgt := 12) dX7_readAll_68 (by decide) ?_
                refine g_lo (is := [2, 3, 4, 5, 1, 0]) (lo2 := [(0, .ref x), (1, .ref a0), (2, .ref a1), (3, .int a2), (4, .int 1), (5, .int x_78)]) rfl ?_
                exact ih_12 I_64 J_65 hUI_64 hF_67 hG_68 1 (rg_w rc_1 (by decide) (by decide)) x_78 (rg_w rx_78 (by decide) (by decide)) (by (try simp only [h_26, (nle h_26), h_29, hx_33, f_34, (eq_true h_35), c_44, c_54, h_58, c_69, h_73, hx_78, if_true, if_false, bqM_pnm, bqM_par, bqM_dnm, bqM_persons, bqM_dishes, bqM_law, bqM_dogs, TB_.w_pnm, TB_.w_par, TB_.w_dnm, TB_.w_persons, TB_.w_dishes, TB_.w_law, TB_.w_dogs, sqM_sl, sqM_so, SP_.w_sl, SP_.w_so, tqM_by_, tqM_wd, tqM_tk, tqM_pl, tqM_vl, tqM_len, tqM_n, tqM_at_, tqM_token, tqM_place, tqM_value, tqM_fault, tqM_fat, TP_.w_by_, TP_.w_wd, TP_.w_tk, TP_.w_pl, TP_.w_vl, TP_.w_len, TP_.w_n, TP_.w_at_, TP_.w_token, TP_.w_place, TP_.w_value, TP_.w_fault, TP_.w_fat] at hQ_24); (try simp only [h_26, (nle h_26), h_29, hx_33, f_34, (eq_true h_35), c_44, c_54, h_58, c_69, h_73, hx_78, if_true, if_false, bqM_pnm, bqM_par, bqM_dnm, bqM_persons, bqM_dishes, bqM_law, bqM_dogs, TB_.w_pnm, TB_.w_par, TB_.w_dnm, TB_.w_persons, TB_.w_dishes, TB_.w_law, TB_.w_dogs, sqM_sl, sqM_so, SP_.w_sl, SP_.w_so, tqM_by_, tqM_wd, tqM_tk, tqM_pl, tqM_vl, tqM_len, tqM_n, tqM_at_, tqM_token, tqM_place, tqM_value, tqM_fault, tqM_fat, TP_.w_by_, TP_.w_wd, TP_.w_tk, TP_.w_pl, TP_.w_vl, TP_.w_len, TP_.w_n, TP_.w_at_, TP_.w_token, TP_.w_place, TP_.w_value, TP_.w_fault, TP_.w_fat] at u_25); simp only [ebqa1, hs_71, hs_4, etqa0, hs_72, hs_10, esqx, hs_70, hs_11, hQ_24, u_25, h_26, (nle h_26), h_29, hx_33, f_34, (eq_true h_35), c_44, c_54, h_58, c_69, h_73, hx_78, if_true, if_false, bqM_pnm, bqM_par, bqM_dnm, bqM_persons, bqM_dishes, bqM_law, bqM_dogs, TB_.w_pnm, TB_.w_par, TB_.w_dnm, TB_.w_persons, TB_.w_dishes, TB_.w_law, TB_.w_dogs, sqM_sl, sqM_so, SP_.w_sl, SP_.w_so, tqM_by_, tqM_wd, tqM_tk, tqM_pl, tqM_vl, tqM_len, tqM_n, tqM_at_, tqM_token, tqM_place, tqM_value, tqM_fault, tqM_fat, TP_.w_by_, TP_.w_wd, TP_.w_tk, TP_.w_pl, TP_.w_vl, TP_.w_len, TP_.w_n, TP_.w_at_, TP_.w_token, TP_.w_place, TP_.w_value, TP_.w_fault, TP_.w_fat]) (ms_1 hm_20 (ti_k tx_78 rc_1) (by decide))
  refine g_aload_n C 0 dX7_readAll_0 rfl rfl ?_
  refine g_aload_n C 1 dX7_readAll_1 rfl rfl ?_
  refine g_aload_n C 2 dX7_readAll_2 rfl rfl ?_
  refine g_iload_n C 3 dX7_readAll_3 rfl rfl ?_
  refine g_callVI C K (c_X7_readOne_1 W9 hLx hkx hLa0 hka0 hLa1 hka1 a2 (ra2) hU) hLx hkx (by decide) rfl v_7_67 rfl ⟨rfl, rfl⟩ ⟨Nat.le_of_ble_eq_true rfl, Nat.le_of_ble_eq_true rfl⟩ (Nat.le_of_ble_eq_true rfl) ⟨Nat.le_of_ble_eq_true rfl, Nat.le_of_ble_eq_true rfl⟩ dX7_readAll_4 rfl (st := []) (fun x_79 I_80 J_81 h_82 => ?_)
  obtain ⟨hUI_80, hFI_80, hGJ_81, rx_79, fx_79⟩ := h_82
  have hF_83 := fq_tr hF hFI_80 (by decide)
  have hG_84 := fq_tr hG hGJ_81 (by decide)
  obtain ⟨s_86, hs_86⟩ : ∃ z, TPq I_80 J_81 a0 b_5 b_6 b_7 b_8 b_9 = z := ⟨_, rfl⟩
  obtain ⟨s_87, hs_87⟩ : ∃ z, SPq I_80 J_81 x = z := ⟨_, rfl⟩
  have c_85 : fOne 8 (s_4) (s_10) (s_11) = (x_79, s_86, s_87) := by have q := fx_79; simp only [ebqa1, etqa0, esqx, hs_4, hs_10, hs_11, hs_86, hs_87] at q; exact q.symm
  have hs_88 : TBq I_80 J_81 a1 b_1 b_2 b_3 = s_4 := (bq_fq wbqa1 hFI_80 hGJ_81 (by decide) (by decide)).trans hs_4
  refine g_istore C dX7_readAll_7 (by decide) (lo2 := [(4, .int x_79), (0, .ref x), (1, .ref a0), (2, .ref a1), (3, .int a2)]) rfl ?_
  refine g_iconst C (v := 0) dX7_readAll_9 (by decide) ?_
  refine g_istore C dX7_readAll_10 (by decide) (lo2 := [(5, .int 0), (4, .int x_79), (0, .ref x), (1, .ref a0), (2, .ref a1), (3, .int a2)]) rfl ?_
  refine g_lo (is := [2, 3, 4, 5, 1, 0]) (lo2 := [(0, .ref x), (1, .ref a0), (2, .ref a1), (3, .int a2), (4, .int x_79), (5, .int 0)]) rfl ?_
  exact l_12 21 I_80 J_81 hUI_80 hF_83 hG_84 x_79 (rx_79) 0 (rg_w rc_0 (by decide) (by decide)) (by simp only [fAll, ebqa1, hs_88, hs_4, etqa0, hs_86, hs_10, esqx, hs_87, hs_11, c_85, if_true, if_false, bqM_pnm, bqM_par, bqM_dnm, bqM_persons, bqM_dishes, bqM_law, bqM_dogs, TB_.w_pnm, TB_.w_par, TB_.w_dnm, TB_.w_persons, TB_.w_dishes, TB_.w_law, TB_.w_dogs, sqM_sl, sqM_so, SP_.w_sl, SP_.w_so, tqM_by_, tqM_wd, tqM_tk, tqM_pl, tqM_vl, tqM_len, tqM_n, tqM_at_, tqM_token, tqM_place, tqM_value, tqM_fault, tqM_fat, TP_.w_by_, TP_.w_wd, TP_.w_tk, TP_.w_pl, TP_.w_vl, TP_.w_len, TP_.w_n, TP_.w_at_, TP_.w_token, TP_.w_place, TP_.w_value, TP_.w_fault, TP_.w_fat]) (ms_s (a := 0) (b := 20) (N := 21) (rg_w rc_0 (by decide) (by decide)) (by decide))
set_option maxRecDepth 100000 in
set_option maxHeartbeats 8000000 in
theorem c_X7_readCond_1 {l : Launch} {D : va_G} {cy : Nat → ClassId} {L : List Nat} {κ ln : Nat → Nat} {R : Nat → Nat → Option Nat} {I : Nat → Nat → Int32} {J : Nat → Nat → Int64} {ow : Nat → Nat × Nat} (W9 : ∀ a ∈ L, Shp L κ ln R ow a) {x : Nat} (hLx : x ∈ L) (hkx : κ x = 7) {a0 : Nat} (hLa0 : a0 ∈ L) (hka0 : κ a0 = 10) {a1 : Nat} (hLa1 : a1 ∈ L) (hka1 : κ a1 = 8) (a2 : Int32) (ra2 : Rg 1 1 a2) (hU : Iv L κ R ow I) : CtI l yX7_readCond cX7_readCond 6 (some .boolean) { frames := 27, cells := 0, slots := 0, locals := 662 } D cy L κ ln R I J [.ref x, .ref a0, .ref a1, .int a2] (fun r I2 J2 => Iv L κ R ow I2 ∧ Fq L κ ow [704, 705, 1007, 1008, 1009, 1011, 1012, 52000, 52100, 52200] I I2 ∧ Fq L κ ow [1010] J J2 ∧ Rg 0 1 r ∧ ((r, TPf R I2 J2 a0, SPf R I2 J2 x) = fCond 8 (TBf R I J a1) (TPf R I J a0) (SPf R I J x))) := by
  refine CtI.of (by decide +kernel) (Nat.le_of_ble_eq_true rfl) ?_
  intro p e s m below meth c B K
  have C := B.1
  have hF : Fq L κ ow [704, 705, 1007, 1008, 1009, 1011, 1012, 52000, 52100, 52200] I I := fq_rf
  have hG : Fq L κ ow [1010] J J := fq_rf
  obtain ⟨b_1, hb_1, hb_1L, hb_1k, hb_1n, hb_1o⟩ := shp_a (W9 a1 hLa1) hka1 0 15 7 rfl (by decide)
  obtain ⟨b_2, hb_2, hb_2L, hb_2k, hb_2n, hb_2o⟩ := shp_a (W9 a1 hLa1) hka1 2 14 7 rfl (by decide)
  obtain ⟨b_3, hb_3, hb_3L, hb_3k, hb_3n, hb_3o⟩ := shp_a (W9 a1 hLa1) hka1 3 15 6 rfl (by decide)
  have ebqa1 : ∀ I J, TBf R I J a1 = TBq I J a1 b_1 b_2 b_3 := fun I J => by simp only [TBf, rr_, Option.getD_some, hb_1, hb_2, hb_3]
  have wbqa1 : bqw_ L κ ow a1 b_1 b_2 b_3 := ⟨⟨hLa1, hb_1L, hb_2L, hb_3L⟩, ⟨(ro_o hka1 (by decide)), (ro_a hb_1k (by decide) hb_1o hka1 rfl), (ro_a hb_2k (by decide) hb_2o hka1 rfl), (ro_a hb_3k (by decide) hb_3o hka1 rfl)⟩⟩
  obtain ⟨s_4, hs_4⟩ : ∃ z, TBq I J a1 b_1 b_2 b_3 = z := ⟨_, rfl⟩
  obtain ⟨b_5, hb_5, hb_5L, hb_5k, hb_5n, hb_5o⟩ := shp_a (W9 a0 hLa0) hka0 0 13 940 rfl (by decide)
  obtain ⟨b_6, hb_6, hb_6L, hb_6k, hb_6n, hb_6o⟩ := shp_a (W9 a0 hLa0) hka0 1 15 28 rfl (by decide)
  obtain ⟨b_7, hb_7, hb_7L, hb_7k, hb_7n, hb_7o⟩ := shp_a (W9 a0 hLa0) hka0 2 14 901 rfl (by decide)
  obtain ⟨b_8, hb_8, hb_8L, hb_8k, hb_8n, hb_8o⟩ := shp_a (W9 a0 hLa0) hka0 3 14 901 rfl (by decide)
  obtain ⟨b_9, hb_9, hb_9L, hb_9k, hb_9n, hb_9o⟩ := shp_a (W9 a0 hLa0) hka0 4 15 901 rfl (by decide)
  have etqa0 : ∀ I J, TPf R I J a0 = TPq I J a0 b_5 b_6 b_7 b_8 b_9 := fun I J => by simp only [TPf, rr_, Option.getD_some, hb_5, hb_6, hb_7, hb_8, hb_9]
  have wtqa0 : tqw_ L κ ow a0 b_5 b_6 b_7 b_8 b_9 := ⟨⟨hLa0, hb_5L, hb_6L, hb_7L, hb_8L, hb_9L⟩, ⟨(ro_o hka0 (by decide)), (ro_a hb_5k (by decide) hb_5o hka0 rfl), (ro_a hb_6k (by decide) hb_6o hka0 rfl), (ro_a hb_7k (by decide) hb_7o hka0 rfl), (ro_a hb_8k (by decide) hb_8o hka0 rfl), (ro_a hb_9k (by decide) hb_9o hka0 rfl)⟩⟩
  obtain ⟨s_10, hs_10⟩ : ∃ z, TPq I J a0 b_5 b_6 b_7 b_8 b_9 = z := ⟨_, rfl⟩
  have esqx : ∀ I J, SPf R I J x = SPq I J x := fun I J => by simp only [SPf, rr_, Option.getD_some]
  have wsqx : sqw_ L κ ow x := ⟨hLx, (ro_o hkx (by decide))⟩
  obtain ⟨s_11, hs_11⟩ : ∃ z, SPq I J x = z := ⟨_, rfl⟩
  refine g_lo (is := [0, 1, 2, 3]) (lo2 := [(0, .ref x), (1, .ref a0), (2, .ref a1), (3, .int a2)]) rfl ?_
  have l_12 : ∀ (n_12 : Nat) (I_12 : Nat → Nat → Int32) (J_13 : Nat → Nat → Int64) (hU_14 : Iv L κ R ow I_12) (hF_15 : Fq L κ ow [704, 705, 1007, 1008, 1009, 1011, 1012, 52000, 52100, 52200] I I_12) (hG_16 : Fq L κ ow [1010] J J_13) (v_17 : Int32) (rv_17 : Rg 0 1 v_17) (v_18 : Int32) (rv_18 : Rg 0 20 v_18) (hq_19 : fLp (fAll 8 (TBq I_12 J_13 a1 b_1 b_2 b_3)) 17 v_18 v_17 (TPq I_12 J_13 a0 b_5 b_6 b_7 b_8 b_9) (SPq I_12 J_13 x) = fCond 8 s_4 s_10 s_11) (hm_20 : 20 < (v_18 : Int32).toInt + (n_12 : Int)), WG p l e { frames := 27, cells := 0, slots := 0, locals := 662 } s m ([.ref x, .ref a0, .ref a1, .int a2] : List Value).toArray below meth c 6 0 0 (MQ below (Qi_ D cy L κ ln R (fun r I2 J2 => Iv L κ R ow I2 ∧ Fq L κ ow [704, 705, 1007, 1008, 1009, 1011, 1012, 52000, 52100, 52200] I I2 ∧ Fq L κ ow [1010] J J2 ∧ Rg 0 1 r ∧ ((r, TPf R I2 J2 a0, SPf R I2 J2 x) = fCond 8 (TBf R I J a1) (TPf R I J a0) (SPf R I J x)))) ([.ref x, .ref a0, .ref a1, .int a2] : List Value).toArray s 0 0 (Al_ L)) D cy (Al_ L) s.heap L κ ln R I_12 J_13 12 [(0, .ref x), (1, .ref a0), (2, .ref a1), (3, .int a2), (4, .int v_17), (5, .int v_18)] [] := by
    intro n_12
    induction n_12 with
    | zero =>
      intro I_12 J_13 hU_14 hF_15 hG_16 v_17 rv_17 v_18 rv_18 hq_19 hm_20
      exact ms_0 rv_18 hm_20
    | succ n_12 ih_12 =>
      intro I_12 J_13 hU_14 hF_15 hG_16 v_17 rv_17 v_18 rv_18 hq_19 hm_20
      obtain ⟨s_21, hs_21⟩ : ∃ z, TBq I_12 J_13 a1 b_1 b_2 b_3 = z := ⟨_, rfl⟩
      obtain ⟨s_22, hs_22⟩ : ∃ z, TPq I_12 J_13 a0 b_5 b_6 b_7 b_8 b_9 = z := ⟨_, rfl⟩
      obtain ⟨s_23, hs_23⟩ : ∃ z, SPq I_12 J_13 x = z := ⟨_, rfl⟩
      simp only [hs_21, hs_22, hs_23] at hq_19
      have hQ_24 := hq_19.symm
      have u_25 := fLp_eq (rd := fAll 8 s_21) (k := 17) (i := v_18) (r := v_17) (t := s_22) (s := s_23) (rv_18)
      refine g_iload C 5 dX7_readCond_12 rfl ?_
      refine g_bipush C (v := 20) dX7_readCond_14 (by decide) ?_
      refine g_icmp_ge C (tgt := 71) dX7_readCond_16 (by decide) (fun h_26 => ?_) (fun h_26 => ?_)
      · skip
        have r_27 := le_r (h_26) rc_20 rv_18
        refine g_iload C 4 dX7_readCond_71 rfl ?_
        exact g_zret (ty := .boolean) (r := v_17) B K rfl (nar_z (rv_17)) ⟨hU_14, hF_15, hG_16, rv_17, (by (try simp only [h_26, if_true, if_false, bqM_pnm, bqM_par, bqM_dnm, bqM_persons, bqM_dishes, bqM_law, bqM_dogs, TB_.w_pnm, TB_.w_par, TB_.w_dnm, TB_.w_persons, TB_.w_dishes, TB_.w_law, TB_.w_dogs, sqM_sl, sqM_so, SP_.w_sl, SP_.w_so, tqM_by_, tqM_wd, tqM_tk, tqM_pl, tqM_vl, tqM_len, tqM_n, tqM_at_, tqM_token, tqM_place, tqM_value, tqM_fault, tqM_fat, TP_.w_by_, TP_.w_wd, TP_.w_tk, TP_.w_pl, TP_.w_vl, TP_.w_len, TP_.w_n, TP_.w_at_, TP_.w_token, TP_.w_place, TP_.w_value, TP_.w_fault, TP_.w_fat] at hQ_24); (try simp only [h_26, if_true, if_false, bqM_pnm, bqM_par, bqM_dnm, bqM_persons, bqM_dishes, bqM_law, bqM_dogs, TB_.w_pnm, TB_.w_par, TB_.w_dnm, TB_.w_persons, TB_.w_dishes, TB_.w_law, TB_.w_dogs, sqM_sl, sqM_so, SP_.w_sl, SP_.w_so, tqM_by_, tqM_wd, tqM_tk, tqM_pl, tqM_vl, tqM_len, tqM_n, tqM_at_, tqM_token, tqM_place, tqM_value, tqM_fault, tqM_fat, TP_.w_by_, TP_.w_wd, TP_.w_tk, TP_.w_pl, TP_.w_vl, TP_.w_len, TP_.w_n, TP_.w_at_, TP_.w_token, TP_.w_place, TP_.w_value, TP_.w_fault, TP_.w_fat] at u_25); simp only [ebqa1, hs_21, hs_4, etqa0, hs_22, hs_10, esqx, hs_23, hs_11, hQ_24, u_25, h_26, if_true, if_false, bqM_pnm, bqM_par, bqM_dnm, bqM_persons, bqM_dishes, bqM_law, bqM_dogs, TB_.w_pnm, TB_.w_par, TB_.w_dnm, TB_.w_persons, TB_.w_dishes, TB_.w_law, TB_.w_dogs, sqM_sl, sqM_so, SP_.w_sl, SP_.w_so, tqM_by_, tqM_wd, tqM_tk, tqM_pl, tqM_vl, tqM_len, tqM_n, tqM_at_, tqM_token, tqM_place, tqM_value, tqM_fault, tqM_fat, TP_.w_by_, TP_.w_wd, TP_.w_tk, TP_.w_pl, TP_.w_vl, TP_.w_len, TP_.w_n, TP_.w_at_, TP_.w_token, TP_.w_place, TP_.w_value, TP_.w_fault, TP_.w_fat])⟩ dX7_readCond_73
      · skip
        have r_28 := lt_l (hi := 19) (nle h_26) rv_18 rc_20 (by decide)
        refine g_iload C 4 dX7_readCond_19 rfl ?_
        refine g_if_eq C (tgt := 71) dX7_readCond_21 (by decide) (fun h_29 => ?_) (fun h_29 => ?_)
        · skip
          have r_30 := (⟨(rv_17).1, (eq_rg (h_29) rc_0).2⟩ : Rg 0 0 v_17)
          refine g_iload C 4 dX7_readCond_71 rfl ?_
          exact g_zret (ty := .boolean) (r := v_17) B K rfl (nar_z (rg_w r_30 (by decide) (by decide))) ⟨hU_14, hF_15, hG_16, rg_w r_30 (by decide) (by decide), (by (try simp only [h_26, (nle h_26), (eq_true h_29), if_true, if_false, bqM_pnm, bqM_par, bqM_dnm, bqM_persons, bqM_dishes, bqM_law, bqM_dogs, TB_.w_pnm, TB_.w_par, TB_.w_dnm, TB_.w_persons, TB_.w_dishes, TB_.w_law, TB_.w_dogs, sqM_sl, sqM_so, SP_.w_sl, SP_.w_so, tqM_by_, tqM_wd, tqM_tk, tqM_pl, tqM_vl, tqM_len, tqM_n, tqM_at_, tqM_token, tqM_place, tqM_value, tqM_fault, tqM_fat, TP_.w_by_, TP_.w_wd, TP_.w_tk, TP_.w_pl, TP_.w_vl, TP_.w_len, TP_.w_n, TP_.w_at_, TP_.w_token, TP_.w_place, TP_.w_value, TP_.w_fault, TP_.w_fat] at hQ_24); (try simp only [h_26, (nle h_26), (eq_true h_29), if_true, if_false, bqM_pnm, bqM_par, bqM_dnm, bqM_persons, bqM_dishes, bqM_law, bqM_dogs, TB_.w_pnm, TB_.w_par, TB_.w_dnm, TB_.w_persons, TB_.w_dishes, TB_.w_law, TB_.w_dogs, sqM_sl, sqM_so, SP_.w_sl, SP_.w_so, tqM_by_, tqM_wd, tqM_tk, tqM_pl, tqM_vl, tqM_len, tqM_n, tqM_at_, tqM_token, tqM_place, tqM_value, tqM_fault, tqM_fat, TP_.w_by_, TP_.w_wd, TP_.w_tk, TP_.w_pl, TP_.w_vl, TP_.w_len, TP_.w_n, TP_.w_at_, TP_.w_token, TP_.w_place, TP_.w_value, TP_.w_fault, TP_.w_fat] at u_25); simp only [ebqa1, hs_21, hs_4, etqa0, hs_22, hs_10, esqx, hs_23, hs_11, hQ_24, u_25, h_26, (nle h_26), (eq_true h_29), if_true, if_false, bqM_pnm, bqM_par, bqM_dnm, bqM_persons, bqM_dishes, bqM_law, bqM_dogs, TB_.w_pnm, TB_.w_par, TB_.w_dnm, TB_.w_persons, TB_.w_dishes, TB_.w_law, TB_.w_dogs, sqM_sl, sqM_so, SP_.w_sl, SP_.w_so, tqM_by_, tqM_wd, tqM_tk, tqM_pl, tqM_vl, tqM_len, tqM_n, tqM_at_, tqM_token, tqM_place, tqM_value, tqM_fault, tqM_fat, TP_.w_by_, TP_.w_wd, TP_.w_tk, TP_.w_pl, TP_.w_vl, TP_.w_len, TP_.w_n, TP_.w_at_, TP_.w_token, TP_.w_place, TP_.w_value, TP_.w_fault, TP_.w_fat])⟩ dX7_readCond_73
        · skip
          have n_31 : ¬ v_17 = 0 := h_29
          have r_32 := ne_lo (lo := 1) n_31 rv_17 rc_0 rfl (by decide)
          refine g_aload_n C 1 dX7_readCond_24 rfl rfl ?_
          obtain ⟨x_33, hx_33, rx_33⟩ := ex_get (I := I_12) (a := a0) (j := 8) (lo := (-2147483648)) (hi := 2147483647) hU_14.1 hLa0 (ro_o hka0 (by decide)) rfl
          have f_34 : s_22.token = x_33 := (congrArg TP_.token hs_22).symm.trans hx_33
          refine g_getI C K hLa0 hka0 f_7_57 (v := x_33) hx_33 dX7_readCond_25 ?_
          refine g_bipush C (v := 17) dX7_readCond_28 (by decide) ?_
          refine g_icmp_ne C (tgt := 71) dX7_readCond_30 (by decide) (fun h_35 => ?_) (fun h_35 => ?_)
          · skip
            have n_36 : ¬ x_33 = 17 := h_35
            refine g_iload C 4 dX7_readCond_71 rfl ?_
            exact g_zret (ty := .boolean) (r := v_17) B K rfl (nar_z (rg_w r_32 (by decide) (by decide))) ⟨hU_14, hF_15, hG_16, rg_w r_32 (by decide) (by decide), (by (try simp only [h_26, (nle h_26), h_29, hx_33, f_34, h_35, if_true, if_false, bqM_pnm, bqM_par, bqM_dnm, bqM_persons, bqM_dishes, bqM_law, bqM_dogs, TB_.w_pnm, TB_.w_par, TB_.w_dnm, TB_.w_persons, TB_.w_dishes, TB_.w_law, TB_.w_dogs, sqM_sl, sqM_so, SP_.w_sl, SP_.w_so, tqM_by_, tqM_wd, tqM_tk, tqM_pl, tqM_vl, tqM_len, tqM_n, tqM_at_, tqM_token, tqM_place, tqM_value, tqM_fault, tqM_fat, TP_.w_by_, TP_.w_wd, TP_.w_tk, TP_.w_pl, TP_.w_vl, TP_.w_len, TP_.w_n, TP_.w_at_, TP_.w_token, TP_.w_place, TP_.w_value, TP_.w_fault, TP_.w_fat] at hQ_24); (try simp only [h_26, (nle h_26), h_29, hx_33, f_34, h_35, if_true, if_false, bqM_pnm, bqM_par, bqM_dnm, bqM_persons, bqM_dishes, bqM_law, bqM_dogs, TB_.w_pnm, TB_.w_par, TB_.w_dnm, TB_.w_persons, TB_.w_dishes, TB_.w_law, TB_.w_dogs, sqM_sl, sqM_so, SP_.w_sl, SP_.w_so, tqM_by_, tqM_wd, tqM_tk, tqM_pl, tqM_vl, tqM_len, tqM_n, tqM_at_, tqM_token, tqM_place, tqM_value, tqM_fault, tqM_fat, TP_.w_by_, TP_.w_wd, TP_.w_tk, TP_.w_pl, TP_.w_vl, TP_.w_len, TP_.w_n, TP_.w_at_, TP_.w_token, TP_.w_place, TP_.w_value, TP_.w_fault, TP_.w_fat] at u_25); simp only [ebqa1, hs_21, hs_4, etqa0, hs_22, hs_10, esqx, hs_23, hs_11, hQ_24, u_25, h_26, (nle h_26), h_29, hx_33, f_34, h_35, if_true, if_false, bqM_pnm, bqM_par, bqM_dnm, bqM_persons, bqM_dishes, bqM_law, bqM_dogs, TB_.w_pnm, TB_.w_par, TB_.w_dnm, TB_.w_persons, TB_.w_dishes, TB_.w_law, TB_.w_dogs, sqM_sl, sqM_so, SP_.w_sl, SP_.w_so, tqM_by_, tqM_wd, tqM_tk, tqM_pl, tqM_vl, tqM_len, tqM_n, tqM_at_, tqM_token, tqM_place, tqM_value, tqM_fault, tqM_fat, TP_.w_by_, TP_.w_wd, TP_.w_tk, TP_.w_pl, TP_.w_vl, TP_.w_len, TP_.w_n, TP_.w_at_, TP_.w_token, TP_.w_place, TP_.w_value, TP_.w_fault, TP_.w_fat])⟩ dX7_readCond_73
          · skip
            have r_37 := (⟨(eq_rg (h_35) rc_17).1, (eq_rg (h_35) rc_17).2⟩ : Rg 17 17 x_33)
            refine g_aload_n C 1 dX7_readCond_33 rfl rfl ?_
            refine g_callVV C K (c_X10_advance W9 hLa0 hka0   hU_14) hLa0 hka0 (by decide) rfl v_7_60 rfl ⟨rfl, rfl⟩ ⟨Nat.le_of_ble_eq_true rfl, Nat.le_of_ble_eq_true rfl⟩ (Nat.le_of_ble_eq_true rfl) ⟨Nat.le_of_ble_eq_true rfl, Nat.le_of_ble_eq_true rfl⟩ dX7_readCond_34 rfl (st := []) (fun I_39 J_40 h_41 => ?_)
            obtain ⟨hUI_39, hFI_39, hGJ_40, fx_38⟩ := h_41
            have hF_42 := fq_tr hF_15 hFI_39 (by decide)
            have hG_43 := fq_tr hG_16 hGJ_40 (by decide)
            obtain ⟨s_45, hs_45⟩ : ∃ z, TPq I_39 J_40 a0 b_5 b_6 b_7 b_8 b_9 = z := ⟨_, rfl⟩
            have c_44 : fAdvance (s_22) = s_45 := by have q := fx_38; simp only [etqa0, hs_22, hs_45] at q; exact q.symm
            have hs_46 : TBq I_39 J_40 a1 b_1 b_2 b_3 = s_21 := (bq_fq wbqa1 hFI_39 hGJ_40 (by decide) (by decide)).trans hs_21
            have hs_47 : SPq I_39 J_40 x = s_23 := (sq_fq wsqx hFI_39 hGJ_40 (by decide) (by decide)).trans hs_23
            refine g_aload_n C 0 dX7_readCond_37 rfl rfl ?_
            refine g_aload_n C 1 dX7_readCond_38 rfl rfl ?_
            refine g_aload_n C 2 dX7_readCond_39 rfl rfl ?_
            refine g_iload_n C 3 dX7_readCond_40 rfl rfl ?_
            refine g_callVI C K (c_X7_readAll_1 W9 hLx hkx hLa0 hka0 hLa1 hka1 a2 (ra2) hUI_39) hLx hkx (by decide) rfl v_7_54 rfl ⟨rfl, rfl⟩ ⟨Nat.le_of_ble_eq_true rfl, Nat.le_of_ble_eq_true rfl⟩ (Nat.le_of_ble_eq_true rfl) ⟨Nat.le_of_ble_eq_true rfl, Nat.le_of_ble_eq_true rfl⟩ dX7_readCond_41 rfl (st := []) (fun x_48 I_49 J_50 h_51 => ?_)
            obtain ⟨hUI_49, hFI_49, hGJ_50, rx_48, fx_48⟩ := h_51
            have hF_52 := fq_tr hF_42 hFI_49 (by decide)
            have hG_53 := fq_tr hG_43 hGJ_50 (by decide)
            obtain ⟨s_55, hs_55⟩ : ∃ z, TPq I_49 J_50 a0 b_5 b_6 b_7 b_8 b_9 = z := ⟨_, rfl⟩
            obtain ⟨s_56, hs_56⟩ : ∃ z, SPq I_49 J_50 x = z := ⟨_, rfl⟩
            have c_54 : fAll 8 (s_21) (s_45) (s_23) = (x_48, s_55, s_56) := by have q := fx_48; simp only [ebqa1, etqa0, esqx, hs_46, hs_45, hs_47, hs_55, hs_56] at q; exact q.symm
            have hs_57 : TBq I_49 J_50 a1 b_1 b_2 b_3 = s_21 := (bq_fq wbqa1 hFI_49 hGJ_50 (by decide) (by decide)).trans hs_46
            refine g_if_eq C (tgt := 62) dX7_readCond_44 (by decide) (fun h_58 => ?_) (fun h_58 => ?_)
            · skip
              have r_59 := (⟨(rx_48).1, (eq_rg (h_58) rc_0).2⟩ : Rg 0 0 x_48)
              refine g_iconst C (v := 0) dX7_readCond_62 (by decide) ?_
              refine g_istore C dX7_readCond_63 (by decide) (lo2 := [(4, .int 0), (0, .ref x), (1, .ref a0), (2, .ref a1), (3, .int a2), (5, .int v_18)]) rfl ?_
              obtain ⟨x_60, hx_60, rx_60, tx_60⟩ := ex_add (y := 1) 1 20 r_28 rc_1 (by decide) (by decide) (by decide) (by decide)
              refine g_iinc C dX7_readCond_65 (k := 5) (v := x_60) rfl hx_60 (by decide) (lo2 := [(5, .int x_60), (4, .int 0), (0, .ref x), (1, .ref a0), (2, .ref a1), (3, .int a2)]) rfl ?_
              refine g_goto C (tgt := 12) dX7_readCond_68 (by decide) ?_
              refine g_lo (is := [2, 3, 4, 5, 1, 0]) (lo2 := [(0, .ref x), (1, .ref a0), (2, .ref a1), (3, .int a2), (4, .int 0), (5, .int x_60)]) rfl ?_
              exact ih_12 I_49 J_50 hUI_49 hF_52 hG_53 0 (rg_w rc_0 (by decide) (by decide)) x_60 (rg_w rx_60 (by decide) (by decide)) (by (try simp only [h_26, (nle h_26), h_29, hx_33, f_34, (eq_true h_35), c_44, c_54, (eq_true h_58), hx_60, if_true, if_false, bqM_pnm, bqM_par, bqM_dnm, bqM_persons, bqM_dishes, bqM_law, bqM_dogs, TB_.w_pnm, TB_.w_par, TB_.w_dnm, TB_.w_persons, TB_.w_dishes, TB_.w_law, TB_.w_dogs, sqM_sl, sqM_so, SP_.w_sl, SP_.w_so, tqM_by_, tqM_wd, tqM_tk, tqM_pl, tqM_vl, tqM_len, tqM_n, tqM_at_, tqM_token, tqM_place, tqM_value, tqM_fault, tqM_fat, TP_.w_by_, TP_.w_wd, TP_.w_tk, TP_.w_pl, TP_.w_vl, TP_.w_len, TP_.w_n, TP_.w_at_, TP_.w_token, TP_.w_place, TP_.w_value, TP_.w_fault, TP_.w_fat] at hQ_24); (try simp only [h_26, (nle h_26), h_29, hx_33, f_34, (eq_true h_35), c_44, c_54, (eq_true h_58), hx_60, if_true, if_false, bqM_pnm, bqM_par, bqM_dnm, bqM_persons, bqM_dishes, bqM_law, bqM_dogs, TB_.w_pnm, TB_.w_par, TB_.w_dnm, TB_.w_persons, TB_.w_dishes, TB_.w_law, TB_.w_dogs, sqM_sl, sqM_so, SP_.w_sl, SP_.w_so, tqM_by_, tqM_wd, tqM_tk, tqM_pl, tqM_vl, tqM_len, tqM_n, tqM_at_, tqM_token, tqM_place, tqM_value, tqM_fault, tqM_fat, TP_.w_by_, TP_.w_wd, TP_.w_tk, TP_.w_pl, TP_.w_vl, TP_.w_len, TP_.w_n, TP_.w_at_, TP_.w_token, TP_.w_place, TP_.w_value, TP_.w_fault, TP_.w_fat] at u_25); simp only [ebqa1, hs_57, hs_4, etqa0, hs_55, hs_10, esqx, hs_56, hs_11, hQ_24, u_25, h_26, (nle h_26), h_29, hx_33, f_34, (eq_true h_35), c_44, c_54, (eq_true h_58), hx_60, if_true, if_false, bqM_pnm, bqM_par, bqM_dnm, bqM_persons, bqM_dishes, bqM_law, bqM_dogs, TB_.w_pnm, TB_.w_par, TB_.w_dnm, TB_.w_persons, TB_.w_dishes, TB_.w_law, TB_.w_dogs, sqM_sl, sqM_so, SP_.w_sl, SP_.w_so, tqM_by_, tqM_wd, tqM_tk, tqM_pl, tqM_vl, tqM_len, tqM_n, tqM_at_, tqM_token, tqM_place, tqM_value, tqM_fault, tqM_fat, TP_.w_by_, TP_.w_wd, TP_.w_tk, TP_.w_pl, TP_.w_vl, TP_.w_len, TP_.w_n, TP_.w_at_, TP_.w_token, TP_.w_place, TP_.w_value, TP_.w_fault, TP_.w_fat]) (ms_1 hm_20 (ti_k tx_60 rc_1) (by decide))
            · skip
              have n_61 : ¬ x_48 = 0 := h_58
              have r_62 := ne_lo (lo := 1) n_61 rx_48 rc_0 rfl (by decide)
              refine g_aload_n C 0 dX7_readCond_47 rfl rfl ?_
              refine g_bipush C (v := 17) dX7_readCond_48 (by decide) ?_
              refine g_iconst C (v := 0) dX7_readCond_50 (by decide) ?_
              refine g_iconst C (v := 0) dX7_readCond_51 (by decide) ?_
              refine g_callVI C K (c_X7_addStep W9 hLx hkx 17 0 0 (rg_w rc_0 (by decide) (by decide)) hUI_49  (fun q => absurd q (by decide))) hLx hkx (by decide) rfl v_7_63 rfl ⟨rfl, rfl⟩ ⟨Nat.le_of_ble_eq_true rfl, Nat.le_of_ble_eq_true rfl⟩ (Nat.le_of_ble_eq_true rfl) ⟨Nat.le_of_ble_eq_true rfl, Nat.le_of_ble_eq_true rfl⟩ dX7_readCond_52 rfl (st := []) (fun x_63 I_64 J_65 h_66 => ?_)
              obtain ⟨hUI_64, hFI_64, hGJ_65, rx_63, fx_63⟩ := h_66
              have hF_67 := fq_tr hF_52 hFI_64 (by decide)
              have hG_68 := fq_tr hG_53 hGJ_65 (by decide)
              obtain ⟨s_70, hs_70⟩ : ∃ z, SPq I_64 J_65 x = z := ⟨_, rfl⟩
              have c_69 : fAddStep (s_56) = (x_63, s_70) := by have q := fx_63; simp only [esqx, hs_56, hs_70] at q; exact q.symm
              have hs_71 : TBq I_64 J_65 a1 b_1 b_2 b_3 = s_21 := (bq_fq wbqa1 hFI_64 hGJ_65 (by decide) (by decide)).trans hs_57
              have hs_72 : TPq I_64 J_65 a0 b_5 b_6 b_7 b_8 b_9 = s_55 := (tq_fq wtqa0 hFI_64 hGJ_65 (by decide) (by decide)).trans hs_55
              refine g_if_eq C (tgt := 62) dX7_readCond_55 (by decide) (fun h_73 => ?_) (fun h_73 => ?_)
              · skip
                have r_74 := (⟨(rx_63).1, (eq_rg (h_73) rc_0).2⟩ : Rg 0 0 x_63)
                refine g_iconst C (v := 0) dX7_readCond_62 (by decide) ?_
                refine g_istore C dX7_readCond_63 (by decide) (lo2 := [(4, .int 0), (0, .ref x), (1, .ref a0), (2, .ref a1), (3, .int a2), (5, .int v_18)]) rfl ?_
                obtain ⟨x_75, hx_75, rx_75, tx_75⟩ := ex_add (y := 1) 1 20 r_28 rc_1 (by decide) (by decide) (by decide) (by decide)
                refine g_iinc C dX7_readCond_65 (k := 5) (v := x_75) rfl hx_75 (by decide) (lo2 := [(5, .int x_75), (4, .int 0), (0, .ref x), (1, .ref a0), (2, .ref a1), (3, .int a2)]) rfl ?_
                refine g_goto C (tgt := 12) dX7_readCond_68 (by decide) ?_
                refine g_lo (is := [2, 3, 4, 5, 1, 0]) (lo2 := [(0, .ref x), (1, .ref a0), (2, .ref a1), (3, .int a2), (4, .int 0), (5, .int x_75)]) rfl ?_
                exact ih_12 I_64 J_65 hUI_64 hF_67 hG_68 0 (rg_w rc_0 (by decide) (by decide)) x_75 (rg_w rx_75 (by decide) (by decide)) (by (try simp only [h_26, (nle h_26), h_29, hx_33, f_34, (eq_true h_35), c_44, c_54, h_58, c_69, (eq_true h_73), hx_75, if_true, if_false, bqM_pnm, bqM_par, bqM_dnm, bqM_persons, bqM_dishes, bqM_law, bqM_dogs, TB_.w_pnm, TB_.w_par, TB_.w_dnm, TB_.w_persons, TB_.w_dishes, TB_.w_law, TB_.w_dogs, sqM_sl, sqM_so, SP_.w_sl, SP_.w_so, tqM_by_, tqM_wd, tqM_tk, tqM_pl, tqM_vl, tqM_len, tqM_n, tqM_at_, tqM_token, tqM_place, tqM_value, tqM_fault, tqM_fat, TP_.w_by_, TP_.w_wd, TP_.w_tk, TP_.w_pl, TP_.w_vl, TP_.w_len, TP_.w_n, TP_.w_at_, TP_.w_token, TP_.w_place, TP_.w_value, TP_.w_fault, TP_.w_fat] at hQ_24); (try simp only [h_26, (nle h_26), h_29, hx_33, f_34, (eq_true h_35), c_44, c_54, h_58, c_69, (eq_true h_73), hx_75, if_true, if_false, bqM_pnm, bqM_par, bqM_dnm, bqM_persons, bqM_dishes, bqM_law, bqM_dogs, TB_.w_pnm, TB_.w_par, TB_.w_dnm, TB_.w_persons, TB_.w_dishes, TB_.w_law, TB_.w_dogs, sqM_sl, sqM_so, SP_.w_sl, SP_.w_so, tqM_by_, tqM_wd, tqM_tk, tqM_pl, tqM_vl, tqM_len, tqM_n, tqM_at_, tqM_token, tqM_place, tqM_value, tqM_fault, tqM_fat, TP_.w_by_, TP_.w_wd, TP_.w_tk, TP_.w_pl, TP_.w_vl, TP_.w_len, TP_.w_n, TP_.w_at_, TP_.w_token, TP_.w_place, TP_.w_value, TP_.w_fault, TP_.w_fat] at u_25); simp only [ebqa1, hs_71, hs_4, etqa0, hs_72, hs_10, esqx, hs_70, hs_11, hQ_24, u_25, h_26, (nle h_26), h_29, hx_33, f_34, (eq_true h_35), c_44, c_54, h_58, c_69, (eq_true h_73), hx_75, if_true, if_false, bqM_pnm, bqM_par, bqM_dnm, bqM_persons, bqM_dishes, bqM_law, bqM_dogs, TB_.w_pnm, TB_.w_par, TB_.w_dnm, TB_.w_persons, TB_.w_dishes, TB_.w_law, TB_.w_dogs, sqM_sl, sqM_so, SP_.w_sl, SP_.w_so, tqM_by_, tqM_wd, tqM_tk, tqM_pl, tqM_vl, tqM_len, tqM_n, tqM_at_, tqM_token, tqM_place, tqM_value, tqM_fault, tqM_fat, TP_.w_by_, TP_.w_wd, TP_.w_tk, TP_.w_pl, TP_.w_vl, TP_.w_len, TP_.w_n, TP_.w_at_, TP_.w_token, TP_.w_place, TP_.w_value, TP_.w_fault, TP_.w_fat]) (ms_1 hm_20 (ti_k tx_75 rc_1) (by decide))
              · skip
                have n_76 : ¬ x_63 = 0 := h_73
                have r_77 := ne_lo (lo := 1) n_76 rx_63 rc_0 rfl (by decide)
                refine g_iconst C (v := 1) dX7_readCond_58 (by decide) ?_
                refine g_goto C (tgt := 63) dX7_readCond_59 (by decide) ?_
                refine g_istore C dX7_readCond_63 (by decide) (lo2 := [(4, .int 1), (0, .ref x), (1, .ref a0), (2, .ref a1), (3, .int a2), (5, .int v_18)]) rfl ?_
                obtain ⟨x_78, hx_78, rx_78, tx_78⟩ := ex_add (y := 1) 1 20 r_28 rc_1 (by decide) (by decide) (by decide) (by decide)
                refine g_iinc C dX7_readCond_65 (k := 5) (v := x_78) rfl hx_78 (by decide) (lo2 := [(5, .int x_78), (4, .int 1), (0, .ref x), (1, .ref a0), (2, .ref a1), (3, .int a2)]) rfl ?_
                refine g_goto C (tgt := 12) dX7_readCond_68 (by decide) ?_
                refine g_lo (is := [2, 3, 4, 5, 1, 0]) (lo2 := [(0, .ref x), (1, .ref a0), (2, .ref a1), (3, .int a2), (4, .int 1), (5, .int x_78)]) rfl ?_
                exact ih_12 I_64 J_65 hUI_64 hF_67 hG_68 1 (rg_w rc_1 (by decide) (by decide)) x_78 (rg_w rx_78 (by decide) (by decide)) (by (try simp only [h_26, (nle h_26), h_29, hx_33, f_34, (eq_true h_35), c_44, c_54, h_58, c_69, h_73, hx_78, if_true, if_false, bqM_pnm, bqM_par, bqM_dnm, bqM_persons, bqM_dishes, bqM_law, bqM_dogs, TB_.w_pnm, TB_.w_par, TB_.w_dnm, TB_.w_persons, TB_.w_dishes, TB_.w_law, TB_.w_dogs, sqM_sl, sqM_so, SP_.w_sl, SP_.w_so, tqM_by_, tqM_wd, tqM_tk, tqM_pl, tqM_vl, tqM_len, tqM_n, tqM_at_, tqM_token, tqM_place, tqM_value, tqM_fault, tqM_fat, TP_.w_by_, TP_.w_wd, TP_.w_tk, TP_.w_pl, TP_.w_vl, TP_.w_len, TP_.w_n, TP_.w_at_, TP_.w_token, TP_.w_place, TP_.w_value, TP_.w_fault, TP_.w_fat] at hQ_24); (try simp only [h_26, (nle h_26), h_29, hx_33, f_34, (eq_true h_35), c_44, c_54, h_58, c_69, h_73, hx_78, if_true, if_false, bqM_pnm, bqM_par, bqM_dnm, bqM_persons, bqM_dishes, bqM_law, bqM_dogs, TB_.w_pnm, TB_.w_par, TB_.w_dnm, TB_.w_persons, TB_.w_dishes, TB_.w_law, TB_.w_dogs, sqM_sl, sqM_so, SP_.w_sl, SP_.w_so, tqM_by_, tqM_wd, tqM_tk, tqM_pl, tqM_vl, tqM_len, tqM_n, tqM_at_, tqM_token, tqM_place, tqM_value, tqM_fault, tqM_fat, TP_.w_by_, TP_.w_wd, TP_.w_tk, TP_.w_pl, TP_.w_vl, TP_.w_len, TP_.w_n, TP_.w_at_, TP_.w_token, TP_.w_place, TP_.w_value, TP_.w_fault, TP_.w_fat] at u_25); simp only [ebqa1, hs_71, hs_4, etqa0, hs_72, hs_10, esqx, hs_70, hs_11, hQ_24, u_25, h_26, (nle h_26), h_29, hx_33, f_34, (eq_true h_35), c_44, c_54, h_58, c_69, h_73, hx_78, if_true, if_false, bqM_pnm, bqM_par, bqM_dnm, bqM_persons, bqM_dishes, bqM_law, bqM_dogs, TB_.w_pnm, TB_.w_par, TB_.w_dnm, TB_.w_persons, TB_.w_dishes, TB_.w_law, TB_.w_dogs, sqM_sl, sqM_so, SP_.w_sl, SP_.w_so, tqM_by_, tqM_wd, tqM_tk, tqM_pl, tqM_vl, tqM_len, tqM_n, tqM_at_, tqM_token, tqM_place, tqM_value, tqM_fault, tqM_fat, TP_.w_by_, TP_.w_wd, TP_.w_tk, TP_.w_pl, TP_.w_vl, TP_.w_len, TP_.w_n, TP_.w_at_, TP_.w_token, TP_.w_place, TP_.w_value, TP_.w_fault, TP_.w_fat]) (ms_1 hm_20 (ti_k tx_78 rc_1) (by decide))
  refine g_aload_n C 0 dX7_readCond_0 rfl rfl ?_
  refine g_aload_n C 1 dX7_readCond_1 rfl rfl ?_
  refine g_aload_n C 2 dX7_readCond_2 rfl rfl ?_
  refine g_iload_n C 3 dX7_readCond_3 rfl rfl ?_
  refine g_callVI C K (c_X7_readAll_1 W9 hLx hkx hLa0 hka0 hLa1 hka1 a2 (ra2) hU) hLx hkx (by decide) rfl v_7_54 rfl ⟨rfl, rfl⟩ ⟨Nat.le_of_ble_eq_true rfl, Nat.le_of_ble_eq_true rfl⟩ (Nat.le_of_ble_eq_true rfl) ⟨Nat.le_of_ble_eq_true rfl, Nat.le_of_ble_eq_true rfl⟩ dX7_readCond_4 rfl (st := []) (fun x_79 I_80 J_81 h_82 => ?_)
  obtain ⟨hUI_80, hFI_80, hGJ_81, rx_79, fx_79⟩ := h_82
  have hF_83 := fq_tr hF hFI_80 (by decide)
  have hG_84 := fq_tr hG hGJ_81 (by decide)
  obtain ⟨s_86, hs_86⟩ : ∃ z, TPq I_80 J_81 a0 b_5 b_6 b_7 b_8 b_9 = z := ⟨_, rfl⟩
  obtain ⟨s_87, hs_87⟩ : ∃ z, SPq I_80 J_81 x = z := ⟨_, rfl⟩
  have c_85 : fAll 8 (s_4) (s_10) (s_11) = (x_79, s_86, s_87) := by have q := fx_79; simp only [ebqa1, etqa0, esqx, hs_4, hs_10, hs_11, hs_86, hs_87] at q; exact q.symm
  have hs_88 : TBq I_80 J_81 a1 b_1 b_2 b_3 = s_4 := (bq_fq wbqa1 hFI_80 hGJ_81 (by decide) (by decide)).trans hs_4
  refine g_istore C dX7_readCond_7 (by decide) (lo2 := [(4, .int x_79), (0, .ref x), (1, .ref a0), (2, .ref a1), (3, .int a2)]) rfl ?_
  refine g_iconst C (v := 0) dX7_readCond_9 (by decide) ?_
  refine g_istore C dX7_readCond_10 (by decide) (lo2 := [(5, .int 0), (4, .int x_79), (0, .ref x), (1, .ref a0), (2, .ref a1), (3, .int a2)]) rfl ?_
  refine g_lo (is := [2, 3, 4, 5, 1, 0]) (lo2 := [(0, .ref x), (1, .ref a0), (2, .ref a1), (3, .int a2), (4, .int x_79), (5, .int 0)]) rfl ?_
  exact l_12 21 I_80 J_81 hUI_80 hF_83 hG_84 x_79 (rx_79) 0 (rg_w rc_0 (by decide) (by decide)) (by simp only [fCond, ebqa1, hs_88, hs_4, etqa0, hs_86, hs_10, esqx, hs_87, hs_11, c_85, if_true, if_false, bqM_pnm, bqM_par, bqM_dnm, bqM_persons, bqM_dishes, bqM_law, bqM_dogs, TB_.w_pnm, TB_.w_par, TB_.w_dnm, TB_.w_persons, TB_.w_dishes, TB_.w_law, TB_.w_dogs, sqM_sl, sqM_so, SP_.w_sl, SP_.w_so, tqM_by_, tqM_wd, tqM_tk, tqM_pl, tqM_vl, tqM_len, tqM_n, tqM_at_, tqM_token, tqM_place, tqM_value, tqM_fault, tqM_fat, TP_.w_by_, TP_.w_wd, TP_.w_tk, TP_.w_pl, TP_.w_vl, TP_.w_len, TP_.w_n, TP_.w_at_, TP_.w_token, TP_.w_place, TP_.w_value, TP_.w_fault, TP_.w_fat]) (ms_s (a := 0) (b := 20) (N := 21) (rg_w rc_0 (by decide) (by decide)) (by decide))
set_option maxRecDepth 100000 in
set_option maxHeartbeats 8000000 in
theorem c_X7_readFrom {l : Launch} {D : va_G} {cy : Nat → ClassId} {L : List Nat} {κ ln : Nat → Nat} {R : Nat → Nat → Option Nat} {I : Nat → Nat → Int32} {J : Nat → Nat → Int64} {ow : Nat → Nat × Nat} (W9 : ∀ a ∈ L, Shp L κ ln R ow a) {x : Nat} (hLx : x ∈ L) (hkx : κ x = 7) {a0 : Nat} (hLa0 : a0 ∈ L) (hka0 : κ a0 = 10) {a1 : Nat} (hLa1 : a1 ∈ L) (hka1 : κ a1 = 8) (hU : Iv L κ R ow I) : CtI l yX7_readFrom cX7_readFrom 3 (some .boolean) { frames := 28, cells := 0, slots := 0, locals := 687 } D cy L κ ln R I J [.ref x, .ref a0, .ref a1] (fun r I2 J2 => Iv L κ R ow I2 ∧ Fq L κ ow [704, 705, 1006, 1007, 1008, 1009, 1011, 1012, 52000, 52100, 52200, 70200, 70300] I I2 ∧ Fq L κ ow [1010, 70400] J J2 ∧ Rg 0 1 r ∧ ((r, TPf R I2 J2 a0, SPf R I2 J2 x) = fSenRead (TBf R I J a1) (TPf R I J a0) (SPf R I J x))) := by
  refine CtI.of (by decide +kernel) (Nat.le_of_ble_eq_true rfl) ?_
  intro p e s m below meth c B K
  have C := B.1
  have hF : Fq L κ ow [704, 705, 1006, 1007, 1008, 1009, 1011, 1012, 52000, 52100, 52200, 70200, 70300] I I := fq_rf
  have hG : Fq L κ ow [1010, 70400] J J := fq_rf
  obtain ⟨b_1, hb_1, hb_1L, hb_1k, hb_1n, hb_1o⟩ := shp_a (W9 a1 hLa1) hka1 0 15 7 rfl (by decide)
  obtain ⟨b_2, hb_2, hb_2L, hb_2k, hb_2n, hb_2o⟩ := shp_a (W9 a1 hLa1) hka1 2 14 7 rfl (by decide)
  obtain ⟨b_3, hb_3, hb_3L, hb_3k, hb_3n, hb_3o⟩ := shp_a (W9 a1 hLa1) hka1 3 15 6 rfl (by decide)
  have ebqa1 : ∀ I J, TBf R I J a1 = TBq I J a1 b_1 b_2 b_3 := fun I J => by simp only [TBf, rr_, Option.getD_some, hb_1, hb_2, hb_3]
  have wbqa1 : bqw_ L κ ow a1 b_1 b_2 b_3 := ⟨⟨hLa1, hb_1L, hb_2L, hb_3L⟩, ⟨(ro_o hka1 (by decide)), (ro_a hb_1k (by decide) hb_1o hka1 rfl), (ro_a hb_2k (by decide) hb_2o hka1 rfl), (ro_a hb_3k (by decide) hb_3o hka1 rfl)⟩⟩
  obtain ⟨s_4, hs_4⟩ : ∃ z, TBq I J a1 b_1 b_2 b_3 = z := ⟨_, rfl⟩
  obtain ⟨b_5, hb_5, hb_5L, hb_5k, hb_5n, hb_5o⟩ := shp_a (W9 a0 hLa0) hka0 0 13 940 rfl (by decide)
  obtain ⟨b_6, hb_6, hb_6L, hb_6k, hb_6n, hb_6o⟩ := shp_a (W9 a0 hLa0) hka0 1 15 28 rfl (by decide)
  obtain ⟨b_7, hb_7, hb_7L, hb_7k, hb_7n, hb_7o⟩ := shp_a (W9 a0 hLa0) hka0 2 14 901 rfl (by decide)
  obtain ⟨b_8, hb_8, hb_8L, hb_8k, hb_8n, hb_8o⟩ := shp_a (W9 a0 hLa0) hka0 3 14 901 rfl (by decide)
  obtain ⟨b_9, hb_9, hb_9L, hb_9k, hb_9n, hb_9o⟩ := shp_a (W9 a0 hLa0) hka0 4 15 901 rfl (by decide)
  have etqa0 : ∀ I J, TPf R I J a0 = TPq I J a0 b_5 b_6 b_7 b_8 b_9 := fun I J => by simp only [TPf, rr_, Option.getD_some, hb_5, hb_6, hb_7, hb_8, hb_9]
  have wtqa0 : tqw_ L κ ow a0 b_5 b_6 b_7 b_8 b_9 := ⟨⟨hLa0, hb_5L, hb_6L, hb_7L, hb_8L, hb_9L⟩, ⟨(ro_o hka0 (by decide)), (ro_a hb_5k (by decide) hb_5o hka0 rfl), (ro_a hb_6k (by decide) hb_6o hka0 rfl), (ro_a hb_7k (by decide) hb_7o hka0 rfl), (ro_a hb_8k (by decide) hb_8o hka0 rfl), (ro_a hb_9k (by decide) hb_9o hka0 rfl)⟩⟩
  obtain ⟨s_10, hs_10⟩ : ∃ z, TPq I J a0 b_5 b_6 b_7 b_8 b_9 = z := ⟨_, rfl⟩
  have esqx : ∀ I J, SPf R I J x = SPq I J x := fun I J => by simp only [SPf, rr_, Option.getD_some]
  have wsqx : sqw_ L κ ow x := ⟨hLx, (ro_o hkx (by decide))⟩
  obtain ⟨s_11, hs_11⟩ : ∃ z, SPq I J x = z := ⟨_, rfl⟩
  refine g_lo (is := [0, 1, 2]) (lo2 := [(0, .ref x), (1, .ref a0), (2, .ref a1)]) rfl ?_
  refine g_aload_n C 0 dX7_readFrom_0 rfl rfl ?_
  refine g_callVV C K (c_X7_forget W9 hLx hkx   hU) hLx hkx (by decide) rfl v_7_37 rfl ⟨rfl, rfl⟩ ⟨Nat.le_of_ble_eq_true rfl, Nat.le_of_ble_eq_true rfl⟩ (Nat.le_of_ble_eq_true rfl) ⟨Nat.le_of_ble_eq_true rfl, Nat.le_of_ble_eq_true rfl⟩ dX7_readFrom_1 rfl (st := []) (fun I_13 J_14 h_15 => ?_)
  obtain ⟨hUI_13, hFI_13, hGJ_14, fx_12⟩ := h_15
  have hF_16 := fq_tr hF hFI_13 (by decide)
  have hG_17 := fq_tr hG hGJ_14 (by decide)
  obtain ⟨s_19, hs_19⟩ : ∃ z, SPq I_13 J_14 x = z := ⟨_, rfl⟩
  have c_18 : fForgetS (s_11) = s_19 := by have q := fx_12; simp only [esqx, hs_11, hs_19] at q; exact q.symm
  have hs_20 : TBq I_13 J_14 a1 b_1 b_2 b_3 = s_4 := (bq_fq wbqa1 hFI_13 hGJ_14 (by decide) (by decide)).trans hs_4
  have hs_21 : TPq I_13 J_14 a0 b_5 b_6 b_7 b_8 b_9 = s_10 := (tq_fq wtqa0 hFI_13 hGJ_14 (by decide) (by decide)).trans hs_10
  refine g_aload_n C 1 dX7_readFrom_4 rfl rfl ?_
  refine g_sipush C (v := 200) dX7_readFrom_5 (by decide) ?_
  refine g_callVV C K (c_X10_begin W9 hLa0 hka0 200 (rg_w rc_200 (by decide) (by decide)) hUI_13) hLa0 hka0 (by decide) rfl v_7_40 rfl ⟨rfl, rfl⟩ ⟨Nat.le_of_ble_eq_true rfl, Nat.le_of_ble_eq_true rfl⟩ (Nat.le_of_ble_eq_true rfl) ⟨Nat.le_of_ble_eq_true rfl, Nat.le_of_ble_eq_true rfl⟩ dX7_readFrom_8 rfl (st := []) (fun I_23 J_24 h_25 => ?_)
  obtain ⟨hUI_23, hFI_23, hGJ_24, fx_22⟩ := h_25
  have hF_26 := fq_tr hF_16 hFI_23 (by decide)
  have hG_27 := fq_tr hG_17 hGJ_24 (by decide)
  obtain ⟨s_29, hs_29⟩ : ∃ z, TPq I_23 J_24 a0 b_5 b_6 b_7 b_8 b_9 = z := ⟨_, rfl⟩
  have c_28 : fBegin (200) (s_10) = s_29 := by have q := fx_22; simp only [etqa0, hs_21, hs_29] at q; exact q.symm
  have hs_30 : TBq I_23 J_24 a1 b_1 b_2 b_3 = s_4 := (bq_fq wbqa1 hFI_23 hGJ_24 (by decide) (by decide)).trans hs_20
  have hs_31 : SPq I_23 J_24 x = s_19 := (sq_fq wsqx hFI_23 hGJ_24 (by decide) (by decide)).trans hs_19
  refine g_aload_n C 0 dX7_readFrom_11 rfl rfl ?_
  refine g_aload_n C 1 dX7_readFrom_12 rfl rfl ?_
  refine g_aload_n C 2 dX7_readFrom_13 rfl rfl ?_
  refine g_iconst C (v := 1) dX7_readFrom_14 (by decide) ?_
  refine g_callVI C K (c_X7_readCond_1 W9 hLx hkx hLa0 hka0 hLa1 hka1 1 (rc_1) hUI_23) hLx hkx (by decide) rfl v_7_46 rfl ⟨rfl, rfl⟩ ⟨Nat.le_of_ble_eq_true rfl, Nat.le_of_ble_eq_true rfl⟩ (Nat.le_of_ble_eq_true rfl) ⟨Nat.le_of_ble_eq_true rfl, Nat.le_of_ble_eq_true rfl⟩ dX7_readFrom_15 rfl (st := []) (fun x_32 I_33 J_34 h_35 => ?_)
  obtain ⟨hUI_33, hFI_33, hGJ_34, rx_32, fx_32⟩ := h_35
  have hF_36 := fq_tr hF_26 hFI_33 (by decide)
  have hG_37 := fq_tr hG_27 hGJ_34 (by decide)
  obtain ⟨s_39, hs_39⟩ : ∃ z, TPq I_33 J_34 a0 b_5 b_6 b_7 b_8 b_9 = z := ⟨_, rfl⟩
  obtain ⟨s_40, hs_40⟩ : ∃ z, SPq I_33 J_34 x = z := ⟨_, rfl⟩
  have c_38 : fCond 8 (s_4) (s_29) (s_19) = (x_32, s_39, s_40) := by have q := fx_32; simp only [ebqa1, etqa0, esqx, hs_30, hs_29, hs_31, hs_39, hs_40] at q; exact q.symm
  have hs_41 : TBq I_33 J_34 a1 b_1 b_2 b_3 = s_4 := (bq_fq wbqa1 hFI_33 hGJ_34 (by decide) (by decide)).trans hs_30
  refine g_if_eq C (tgt := 34) dX7_readFrom_18 (by decide) (fun h_42 => ?_) (fun h_42 => ?_)
  · skip
    have r_43 := (⟨(rx_32).1, (eq_rg (h_42) rc_0).2⟩ : Rg 0 0 x_32)
    refine g_iconst C (v := 0) dX7_readFrom_34 (by decide) ?_
    exact g_zret (ty := .boolean) (r := 0) B K rfl (rfl) ⟨hUI_33, hF_36, hG_37, rg_w rc_0 (by decide) (by decide), (by simp only [fSenRead, ebqa1, hs_41, hs_4, etqa0, hs_39, hs_10, esqx, hs_40, hs_11, c_18, c_28, c_38, (eq_true h_42), if_true, if_false, bqM_pnm, bqM_par, bqM_dnm, bqM_persons, bqM_dishes, bqM_law, bqM_dogs, TB_.w_pnm, TB_.w_par, TB_.w_dnm, TB_.w_persons, TB_.w_dishes, TB_.w_law, TB_.w_dogs, sqM_sl, sqM_so, SP_.w_sl, SP_.w_so, tqM_by_, tqM_wd, tqM_tk, tqM_pl, tqM_vl, tqM_len, tqM_n, tqM_at_, tqM_token, tqM_place, tqM_value, tqM_fault, tqM_fat, TP_.w_by_, TP_.w_wd, TP_.w_tk, TP_.w_pl, TP_.w_vl, TP_.w_len, TP_.w_n, TP_.w_at_, TP_.w_token, TP_.w_place, TP_.w_value, TP_.w_fault, TP_.w_fat])⟩ dX7_readFrom_35
  · skip
    have n_44 : ¬ x_32 = 0 := h_42
    have r_45 := ne_lo (lo := 1) n_44 rx_32 rc_0 rfl (by decide)
    refine g_aload_n C 1 dX7_readFrom_21 rfl rfl ?_
    refine g_bipush C (v := 102) dX7_readFrom_22 (by decide) ?_
    refine g_callVI C K (c_X10_take W9 hLa0 hka0 102 (rg_w rc_102 (by decide) (by decide)) hUI_33) hLa0 hka0 (by decide) rfl v_7_50 rfl ⟨rfl, rfl⟩ ⟨Nat.le_of_ble_eq_true rfl, Nat.le_of_ble_eq_true rfl⟩ (Nat.le_of_ble_eq_true rfl) ⟨Nat.le_of_ble_eq_true rfl, Nat.le_of_ble_eq_true rfl⟩ dX7_readFrom_24 rfl (st := []) (fun x_46 I_47 J_48 h_49 => ?_)
    obtain ⟨hUI_47, hFI_47, hGJ_48, rx_46, fx_46⟩ := h_49
    have hF_50 := fq_tr hF_36 hFI_47 (by decide)
    have hG_51 := fq_tr hG_37 hGJ_48 (by decide)
    obtain ⟨s_53, hs_53⟩ : ∃ z, TPq I_47 J_48 a0 b_5 b_6 b_7 b_8 b_9 = z := ⟨_, rfl⟩
    have c_52 : fTake (102) (s_39) = (x_46, s_53) := by have q := fx_46; simp only [etqa0, hs_39, hs_53] at q; exact q.symm
    have hs_54 : TBq I_47 J_48 a1 b_1 b_2 b_3 = s_4 := (bq_fq wbqa1 hFI_47 hGJ_48 (by decide) (by decide)).trans hs_41
    have hs_55 : SPq I_47 J_48 x = s_40 := (sq_fq wsqx hFI_47 hGJ_48 (by decide) (by decide)).trans hs_40
    refine g_if_eq C (tgt := 34) dX7_readFrom_27 (by decide) (fun h_56 => ?_) (fun h_56 => ?_)
    · skip
      have r_57 := (⟨(rx_46).1, (eq_rg (h_56) rc_0).2⟩ : Rg 0 0 x_46)
      refine g_iconst C (v := 0) dX7_readFrom_34 (by decide) ?_
      exact g_zret (ty := .boolean) (r := 0) B K rfl (rfl) ⟨hUI_47, hF_50, hG_51, rg_w rc_0 (by decide) (by decide), (by simp only [fSenRead, ebqa1, hs_54, hs_4, etqa0, hs_53, hs_10, esqx, hs_55, hs_11, c_18, c_28, c_38, h_42, c_52, (eq_true h_56), if_true, if_false, bqM_pnm, bqM_par, bqM_dnm, bqM_persons, bqM_dishes, bqM_law, bqM_dogs, TB_.w_pnm, TB_.w_par, TB_.w_dnm, TB_.w_persons, TB_.w_dishes, TB_.w_law, TB_.w_dogs, sqM_sl, sqM_so, SP_.w_sl, SP_.w_so, tqM_by_, tqM_wd, tqM_tk, tqM_pl, tqM_vl, tqM_len, tqM_n, tqM_at_, tqM_token, tqM_place, tqM_value, tqM_fault, tqM_fat, TP_.w_by_, TP_.w_wd, TP_.w_tk, TP_.w_pl, TP_.w_vl, TP_.w_len, TP_.w_n, TP_.w_at_, TP_.w_token, TP_.w_place, TP_.w_value, TP_.w_fault, TP_.w_fat])⟩ dX7_readFrom_35
    · skip
      have n_58 : ¬ x_46 = 0 := h_56
      have r_59 := ne_lo (lo := 1) n_58 rx_46 rc_0 rfl (by decide)
      refine g_iconst C (v := 1) dX7_readFrom_30 (by decide) ?_
      refine g_goto C (tgt := 35) dX7_readFrom_31 (by decide) ?_
      exact g_zret (ty := .boolean) (r := 1) B K rfl (rfl) ⟨hUI_47, hF_50, hG_51, rg_w rc_1 (by decide) (by decide), (by simp only [fSenRead, ebqa1, hs_54, hs_4, etqa0, hs_53, hs_10, esqx, hs_55, hs_11, c_18, c_28, c_38, h_42, c_52, h_56, if_true, if_false, bqM_pnm, bqM_par, bqM_dnm, bqM_persons, bqM_dishes, bqM_law, bqM_dogs, TB_.w_pnm, TB_.w_par, TB_.w_dnm, TB_.w_persons, TB_.w_dishes, TB_.w_law, TB_.w_dogs, sqM_sl, sqM_so, SP_.w_sl, SP_.w_so, tqM_by_, tqM_wd, tqM_tk, tqM_pl, tqM_vl, tqM_len, tqM_n, tqM_at_, tqM_token, tqM_place, tqM_value, tqM_fault, tqM_fat, TP_.w_by_, TP_.w_wd, TP_.w_tk, TP_.w_pl, TP_.w_vl, TP_.w_len, TP_.w_n, TP_.w_at_, TP_.w_token, TP_.w_place, TP_.w_value, TP_.w_fault, TP_.w_fat])⟩ dX7_readFrom_35
set_option maxRecDepth 100000 in
set_option maxHeartbeats 8000000 in
theorem c_X11_sentence {l : Launch} {D : va_G} {cy : Nat → ClassId} {L : List Nat} {κ ln : Nat → Nat} {R : Nat → Nat → Option Nat} {I : Nat → Nat → Int32} {J : Nat → Nat → Int64} {ow : Nat → Nat × Nat} (W9 : ∀ a ∈ L, Shp L κ ln R ow a) {x : Nat} (hLx : x ∈ L) (hkx : κ x = 11) (hU : Iv L κ R ow I) : CtI l yX11_sentence cX11_sentence 1 (some .int) { frames := 29, cells := 0, slots := 0, locals := 709 } D cy L κ ln R I J [.ref x] (fun r I2 J2 => Iv L κ R ow I2 ∧ Fq L κ ow [704, 705, 1005, 1006, 1007, 1008, 1009, 1011, 1012, 52000, 52100, 52200, 70200, 70300] I I2 ∧ Fq L κ ow [1010, 70400] J J2 ∧ Rg (-2147483648) 2147483647 r ∧ (r = fSent (TBf R I J (rr_ R x 1)) (TPf R I J (rr_ R x 0)) (SPf R I J (rr_ R x 8))) ∧ (I2 (rr_ R x 0) 11 = fSentF (TBf R I J (rr_ R x 1)) (TPf R I J (rr_ R x 0)) (SPf R I J (rr_ R x 8)))) := by
  refine CtI.of (by decide +kernel) (Nat.le_of_ble_eq_true rfl) ?_
  intro p e s m below meth c B K
  have C := B.1
  have hF : Fq L κ ow [704, 705, 1005, 1006, 1007, 1008, 1009, 1011, 1012, 52000, 52100, 52200, 70200, 70300] I I := fq_rf
  have hG : Fq L κ ow [1010, 70400] J J := fq_rf
  obtain ⟨b_1, hb_1, hb_1L, hb_1k⟩ := shp_o (W9 x hLx) hkx 8 7 rfl (by decide)
  obtain ⟨b_2, hb_2, hb_2L, hb_2k⟩ := shp_o (W9 x hLx) hkx 7 7 rfl (by decide)
  obtain ⟨b_3, hb_3, hb_3L, hb_3k⟩ := shp_o (W9 x hLx) hkx 1 8 rfl (by decide)
  obtain ⟨b_4, hb_4, hb_4L, hb_4k⟩ := shp_o (W9 x hLx) hkx 0 10 rfl (by decide)
  obtain ⟨b_5, hb_5, hb_5L, hb_5k, hb_5n, hb_5o⟩ := shp_a (W9 b_3 hb_3L) hb_3k 0 15 7 rfl (by decide)
  obtain ⟨b_6, hb_6, hb_6L, hb_6k, hb_6n, hb_6o⟩ := shp_a (W9 b_3 hb_3L) hb_3k 2 14 7 rfl (by decide)
  obtain ⟨b_7, hb_7, hb_7L, hb_7k, hb_7n, hb_7o⟩ := shp_a (W9 b_3 hb_3L) hb_3k 3 15 6 rfl (by decide)
  have ebqx_1 : ∀ I J, TBf R I J (rr_ R x 1) = TBq I J b_3 b_5 b_6 b_7 := fun I J => by simp only [TBf, rr_, Option.getD_some, hb_5, hb_6, hb_7, hb_3]
  have dbqx_1 : ∀ I J, TBf R I J b_3 = TBq I J b_3 b_5 b_6 b_7 := fun I J => by simp only [TBf, rr_, Option.getD_some, hb_5, hb_6, hb_7, hb_3]
  have wbqx_1 : bqw_ L κ ow b_3 b_5 b_6 b_7 := ⟨⟨hb_3L, hb_5L, hb_6L, hb_7L⟩, ⟨(ro_o hb_3k (by decide)), (ro_a hb_5k (by decide) hb_5o hb_3k rfl), (ro_a hb_6k (by decide) hb_6o hb_3k rfl), (ro_a hb_7k (by decide) hb_7o hb_3k rfl)⟩⟩
  obtain ⟨s_8, hs_8⟩ : ∃ z, TBq I J b_3 b_5 b_6 b_7 = z := ⟨_, rfl⟩
  obtain ⟨b_9, hb_9, hb_9L, hb_9k, hb_9n, hb_9o⟩ := shp_a (W9 b_4 hb_4L) hb_4k 0 13 940 rfl (by decide)
  obtain ⟨b_10, hb_10, hb_10L, hb_10k, hb_10n, hb_10o⟩ := shp_a (W9 b_4 hb_4L) hb_4k 1 15 28 rfl (by decide)
  obtain ⟨b_11, hb_11, hb_11L, hb_11k, hb_11n, hb_11o⟩ := shp_a (W9 b_4 hb_4L) hb_4k 2 14 901 rfl (by decide)
  obtain ⟨b_12, hb_12, hb_12L, hb_12k, hb_12n, hb_12o⟩ := shp_a (W9 b_4 hb_4L) hb_4k 3 14 901 rfl (by decide)
  obtain ⟨b_13, hb_13, hb_13L, hb_13k, hb_13n, hb_13o⟩ := shp_a (W9 b_4 hb_4L) hb_4k 4 15 901 rfl (by decide)
  have etqx_0 : ∀ I J, TPf R I J (rr_ R x 0) = TPq I J b_4 b_9 b_10 b_11 b_12 b_13 := fun I J => by simp only [TPf, rr_, Option.getD_some, hb_9, hb_10, hb_11, hb_12, hb_13, hb_4]
  have dtqx_0 : ∀ I J, TPf R I J b_4 = TPq I J b_4 b_9 b_10 b_11 b_12 b_13 := fun I J => by simp only [TPf, rr_, Option.getD_some, hb_9, hb_10, hb_11, hb_12, hb_13, hb_4]
  have wtqx_0 : tqw_ L κ ow b_4 b_9 b_10 b_11 b_12 b_13 := ⟨⟨hb_4L, hb_9L, hb_10L, hb_11L, hb_12L, hb_13L⟩, ⟨(ro_o hb_4k (by decide)), (ro_a hb_9k (by decide) hb_9o hb_4k rfl), (ro_a hb_10k (by decide) hb_10o hb_4k rfl), (ro_a hb_11k (by decide) hb_11o hb_4k rfl), (ro_a hb_12k (by decide) hb_12o hb_4k rfl), (ro_a hb_13k (by decide) hb_13o hb_4k rfl)⟩⟩
  obtain ⟨s_14, hs_14⟩ : ∃ z, TPq I J b_4 b_9 b_10 b_11 b_12 b_13 = z := ⟨_, rfl⟩
  have esqx_8 : ∀ I J, SPf R I J (rr_ R x 8) = SPq I J b_1 := fun I J => by simp only [SPf, rr_, Option.getD_some, hb_1]
  have dsqx_8 : ∀ I J, SPf R I J b_1 = SPq I J b_1 := fun I J => by simp only [SPf, rr_, Option.getD_some, hb_1]
  have wsqx_8 : sqw_ L κ ow b_1 := ⟨hb_1L, (ro_o hb_1k (by decide))⟩
  obtain ⟨s_15, hs_15⟩ : ∃ z, SPq I J b_1 = z := ⟨_, rfl⟩
  refine g_lo (is := [0]) (lo2 := [(0, .ref x)]) rfl ?_
  refine g_aload_n C 0 dX11_sentence_0 rfl rfl ?_
  refine g_getR C K hLx hkx f_11_63 hb_1 dX11_sentence_1 ?_
  refine g_aload_n C 0 dX11_sentence_4 rfl rfl ?_
  refine g_getR C K hLx hkx f_11_10 hb_4 dX11_sentence_5 ?_
  refine g_aload_n C 0 dX11_sentence_8 rfl rfl ?_
  refine g_getR C K hLx hkx f_11_19 hb_3 dX11_sentence_9 ?_
  refine g_callVI C K (c_X7_readFrom W9 hb_1L hb_1k hb_4L hb_4k hb_3L hb_3k  hU) hb_1L hb_1k (by decide) rfl v_11_362 rfl ⟨rfl, rfl⟩ ⟨Nat.le_of_ble_eq_true rfl, Nat.le_of_ble_eq_true rfl⟩ (Nat.le_of_ble_eq_true rfl) ⟨Nat.le_of_ble_eq_true rfl, Nat.le_of_ble_eq_true rfl⟩ dX11_sentence_12 rfl (st := []) (fun x_16 I_17 J_18 h_19 => ?_)
  obtain ⟨hUI_17, hFI_17, hGJ_18, rx_16, fx_16⟩ := h_19
  have hF_20 := fq_tr hF hFI_17 (by decide)
  have hG_21 := fq_tr hG hGJ_18 (by decide)
  obtain ⟨s_23, hs_23⟩ : ∃ z, TPq I_17 J_18 b_4 b_9 b_10 b_11 b_12 b_13 = z := ⟨_, rfl⟩
  obtain ⟨s_24, hs_24⟩ : ∃ z, SPq I_17 J_18 b_1 = z := ⟨_, rfl⟩
  have c_22 : fSenRead (s_8) (s_14) (s_15) = (x_16, s_23, s_24) := by have q := fx_16; simp only [ebqx_1, dbqx_1, etqx_0, dtqx_0, esqx_8, dsqx_8, hs_8, hs_14, hs_15, hs_23, hs_24] at q; exact q.symm
  have hs_25 : TBq I_17 J_18 b_3 b_5 b_6 b_7 = s_8 := (bq_fq wbqx_1 hFI_17 hGJ_18 (by decide) (by decide)).trans hs_8
  refine g_pop C dX11_sentence_15 rfl ?_
  refine g_aload_n C 0 dX11_sentence_16 rfl rfl ?_
  refine g_getR C K hLx hkx f_11_10 hb_4 dX11_sentence_17 ?_
  refine g_iconst C (v := 0) dX11_sentence_20 (by decide) ?_
  refine h_putI C K hb_4L hb_4k f_11_102 p_10_5 dX11_sentence_21 (fun I_26 hI_26 => ?_)
  have hU_27 := iv_put W9 hUI_17 hI_26 (ro_o hb_4k (by decide)) (lo := 0) (hi := 940) (rfl) (rg_w rc_0 (by decide) (by decide)) rfl
  have hF_28 := fq_puto hF_20 hI_26 hb_4k (by decide) (by decide)
  have hs_29 : TBq I_26 J_18 b_3 b_5 b_6 b_7 = s_8 := by rw [hI_26]; exact (bq_oI wbqx_1 (ro_o hb_4k (by decide)) (by decide)).trans hs_25
  have hs_30 : TPq I_26 J_18 b_4 b_9 b_10 b_11 b_12 b_13 = (TP_.w_len s_23 (0)) := by rw [hI_26]; exact ((tq_len wtqx_0).trans (congrArg (fun z : TP_ => TP_.w_len z (0)) hs_23)).trans rfl
  have hs_31 : SPq I_26 J_18 b_1 = s_24 := by rw [hI_26]; exact (sq_oI wsqx_8 (ro_o hb_4k (by decide)) (by decide)).trans hs_24
  refine g_aload_n C 0 dX11_sentence_24 rfl rfl ?_
  refine g_getR C K hLx hkx f_11_10 hb_4 dX11_sentence_25 ?_
  obtain ⟨x_32, hx_32, rx_32⟩ := ex_get (I := I_26) (a := b_4) (j := 11) (lo := (-2147483648)) (hi := 2147483647) hU_27.1 hb_4L (ro_o hb_4k (by decide)) rfl
  have f_33 : s_23.fault = x_32 := (congrArg TP_.fault hs_30).symm.trans hx_32
  refine g_getI C K hb_4L hb_4k f_11_113 (v := x_32) hx_32 dX11_sentence_28 ?_
  refine g_if_eq C (tgt := 44) dX11_sentence_31 (by decide) (fun h_34 => ?_) (fun h_34 => ?_)
  · skip
    have r_35 := (⟨(eq_rg (h_34) rc_0).1, (eq_rg (h_34) rc_0).2⟩ : Rg 0 0 x_32)
    refine g_aload_n C 0 dX11_sentence_44 rfl rfl ?_
    refine g_getR C K hLx hkx f_11_59 hb_2 dX11_sentence_45 ?_
    refine g_aload_n C 0 dX11_sentence_48 rfl rfl ?_
    refine g_getR C K hLx hkx f_11_63 hb_1 dX11_sentence_49 ?_
    obtain ⟨x_36, hx_36, rx_36⟩ := ex_get (I := I_26) (a := b_1) (j := 5) (lo := (-2147483648)) (hi := 2147483647) hU_27.1 hb_1L (ro_o hb_1k (by decide)) rfl
    have f_37 : s_24.so = x_36 := (congrArg SP_.so hs_31).symm.trans hx_36
    refine g_callVV C K (c_X7_become W9 hb_2L hb_2k hb_1L hb_1k  hU_27) hb_2L hb_2k (by decide) rfl v_11_365 rfl ⟨rfl, rfl⟩ ⟨Nat.le_of_ble_eq_true rfl, Nat.le_of_ble_eq_true rfl⟩ (Nat.le_of_ble_eq_true rfl) ⟨Nat.le_of_ble_eq_true rfl, Nat.le_of_ble_eq_true rfl⟩ dX11_sentence_52 rfl (st := []) (fun I_39 J_40 h_41 => ?_)
    obtain ⟨hUI_39, hFI_39, hGJ_40, ex_38⟩ := h_41
    have hF_42 := fq_tr hF_28 hFI_39 (by decide)
    have hG_43 := fq_tr hG_21 hGJ_40 (by decide)
    have hs_44 : TBq I_39 J_40 b_3 b_5 b_6 b_7 = s_8 := (bq_fq wbqx_1 hFI_39 hGJ_40 (by decide) (by decide)).trans hs_29
    have hs_45 : TPq I_39 J_40 b_4 b_9 b_10 b_11 b_12 b_13 = (TP_.w_len s_23 (0)) := (tq_fq wtqx_0 hFI_39 hGJ_40 (by decide) (by decide)).trans hs_30
    refine g_aload_n C 0 dX11_sentence_55 rfl rfl ?_
    refine g_getR C K hLx hkx f_11_59 hb_2 dX11_sentence_56 ?_
    refine g_getI C K hb_2L hb_2k f_11_368 (v := x_36) (Eq.trans ex_38 hx_36) dX11_sentence_59 ?_
    exact g_zret (ty := .int) (r := x_36) B K rfl (rfl) ⟨hUI_39, hF_42, hG_43, rx_36, (by simp only [fSent, ebqx_1, dbqx_1, hs_44, hs_8, etqx_0, dtqx_0, hs_45, hs_14, esqx_8, dsqx_8, hs_15, c_22, hx_32, f_33, (eq_true h_34), hx_36, f_37, if_true, if_false, bqM_pnm, bqM_par, bqM_dnm, bqM_persons, bqM_dishes, bqM_law, bqM_dogs, TB_.w_pnm, TB_.w_par, TB_.w_dnm, TB_.w_persons, TB_.w_dishes, TB_.w_law, TB_.w_dogs, sqM_sl, sqM_so, SP_.w_sl, SP_.w_so, tqM_by_, tqM_wd, tqM_tk, tqM_pl, tqM_vl, tqM_len, tqM_n, tqM_at_, tqM_token, tqM_place, tqM_value, tqM_fault, tqM_fat, TP_.w_by_, TP_.w_wd, TP_.w_tk, TP_.w_pl, TP_.w_vl, TP_.w_len, TP_.w_n, TP_.w_at_, TP_.w_token, TP_.w_place, TP_.w_value, TP_.w_fault, TP_.w_fat]), (by rw [rr_s hb_4, (fq_at hFI_39 hb_4L hb_4k (by decide) (by decide) hx_32)]; simp only [fSentF, ebqx_1, dbqx_1, hs_44, hs_8, etqx_0, dtqx_0, hs_45, hs_14, esqx_8, dsqx_8, hs_15, c_22, hx_32, f_33, (eq_true h_34), hx_36, f_37, if_true, if_false, bqM_pnm, bqM_par, bqM_dnm, bqM_persons, bqM_dishes, bqM_law, bqM_dogs, TB_.w_pnm, TB_.w_par, TB_.w_dnm, TB_.w_persons, TB_.w_dishes, TB_.w_law, TB_.w_dogs, sqM_sl, sqM_so, SP_.w_sl, SP_.w_so, tqM_by_, tqM_wd, tqM_tk, tqM_pl, tqM_vl, tqM_len, tqM_n, tqM_at_, tqM_token, tqM_place, tqM_value, tqM_fault, tqM_fat, TP_.w_by_, TP_.w_wd, TP_.w_tk, TP_.w_pl, TP_.w_vl, TP_.w_len, TP_.w_n, TP_.w_at_, TP_.w_token, TP_.w_place, TP_.w_value, TP_.w_fault, TP_.w_fat])⟩ dX11_sentence_62
  · skip
    have n_46 : ¬ x_32 = 0 := h_34
    refine g_iconst C (v := (-1)) dX11_sentence_34 (by decide) ?_
    refine g_aload_n C 0 dX11_sentence_35 rfl rfl ?_
    refine g_getR C K hLx hkx f_11_10 hb_4 dX11_sentence_36 ?_
    obtain ⟨x_47, hx_47, rx_47⟩ := ex_get (I := I_26) (a := b_4) (j := 12) (lo := (-2147483648)) (hi := 2147483647) hU_27.1 hb_4L (ro_o hb_4k (by decide)) rfl
    have f_48 : s_23.fat = x_47 := (congrArg TP_.fat hs_30).symm.trans hx_47
    refine g_getI C K hb_4L hb_4k f_11_116 (v := x_47) hx_47 dX11_sentence_39 ?_
    obtain ⟨x_49, hx_49, rx_49, tx_49⟩ := ex_sub (-2147483648) 2147483647 rc_m1 rx_47 (by decide) (by decide) (by decide) (by decide)
    refine g_isub C (v := x_49) dX11_sentence_42 hx_49 ?_
    exact g_zret (ty := .int) (r := x_49) B K rfl (rfl) ⟨hU_27, hF_28, hG_21, rx_49, (by simp only [fSent, ebqx_1, dbqx_1, hs_29, hs_8, etqx_0, dtqx_0, hs_30, hs_14, esqx_8, dsqx_8, hs_31, hs_15, c_22, hx_32, f_33, h_34, hx_47, f_48, hx_49, if_true, if_false, bqM_pnm, bqM_par, bqM_dnm, bqM_persons, bqM_dishes, bqM_law, bqM_dogs, TB_.w_pnm, TB_.w_par, TB_.w_dnm, TB_.w_persons, TB_.w_dishes, TB_.w_law, TB_.w_dogs, sqM_sl, sqM_so, SP_.w_sl, SP_.w_so, tqM_by_, tqM_wd, tqM_tk, tqM_pl, tqM_vl, tqM_len, tqM_n, tqM_at_, tqM_token, tqM_place, tqM_value, tqM_fault, tqM_fat, TP_.w_by_, TP_.w_wd, TP_.w_tk, TP_.w_pl, TP_.w_vl, TP_.w_len, TP_.w_n, TP_.w_at_, TP_.w_token, TP_.w_place, TP_.w_value, TP_.w_fault, TP_.w_fat]), (by rw [rr_s hb_4, hx_32]; simp only [fSentF, ebqx_1, dbqx_1, hs_29, hs_8, etqx_0, dtqx_0, hs_30, hs_14, esqx_8, dsqx_8, hs_31, hs_15, c_22, hx_32, f_33, h_34, hx_47, f_48, hx_49, if_true, if_false, bqM_pnm, bqM_par, bqM_dnm, bqM_persons, bqM_dishes, bqM_law, bqM_dogs, TB_.w_pnm, TB_.w_par, TB_.w_dnm, TB_.w_persons, TB_.w_dishes, TB_.w_law, TB_.w_dogs, sqM_sl, sqM_so, SP_.w_sl, SP_.w_so, tqM_by_, tqM_wd, tqM_tk, tqM_pl, tqM_vl, tqM_len, tqM_n, tqM_at_, tqM_token, tqM_place, tqM_value, tqM_fault, tqM_fat, TP_.w_by_, TP_.w_wd, TP_.w_tk, TP_.w_pl, TP_.w_vl, TP_.w_len, TP_.w_n, TP_.w_at_, TP_.w_token, TP_.w_place, TP_.w_value, TP_.w_fault, TP_.w_fat])⟩ dX11_sentence_43
set_option maxRecDepth 100000 in
set_option maxHeartbeats 8000000 in
theorem c_X7_compares {l : Launch} {D : va_G} {cy : Nat → ClassId} {L : List Nat} {κ ln : Nat → Nat} {R : Nat → Nat → Option Nat} {I : Nat → Nat → Int32} {J : Nat → Nat → Int64} {ow : Nat → Nat × Nat} (W9 : ∀ a ∈ L, Shp L κ ln R ow a) {x : Nat} (hLx : x ∈ L) (hkx : κ x = 7) (a0 : Int32) (a1 : Int32) (ra1 : Rg 0 39 a1) (hU : Iv L κ R ow I) : CtI l yX7_compares cX7_compares 3 (some .boolean) { frames := 0, cells := 0, slots := 0, locals := 0 } D cy L κ ln R I J [.ref x, .int a0, .int a1] (fun r I2 J2 => I = I2 ∧ J = J2 ∧ Rg 0 1 r) := by
  refine CtI.of (by decide +kernel) (Nat.le_of_ble_eq_true rfl) ?_
  intro p e s m below meth c B K
  have C := B.1
  obtain ⟨b_1, hb_1, hb_1L, hb_1k, hb_1n, hb_1o⟩ := shp_a (W9 x hLx) hkx 1 14 40 rfl (by decide)
  obtain ⟨b_2, hb_2, hb_2L, hb_2k, hb_2n, hb_2o⟩ := shp_a (W9 x hLx) hkx 2 14 40 rfl (by decide)
  refine g_lo (is := [0, 1, 2]) (lo2 := [(0, .ref x), (1, .int a0), (2, .int a1)]) rfl ?_
  refine g_aload_n C 0 dX7_compares_0 rfl rfl ?_
  refine g_getR C K hLx hkx f_7_15 hb_1 dX7_compares_1 ?_
  refine g_iload_n C 2 dX7_compares_4 rfl rfl ?_
  obtain ⟨x_3, hx_3, rx_3⟩ := ex_any (z0 := I b_1 (a1.toNatClampNeg))
  refine h_iald C K hb_1L hb_1k (v := x_3) (a1.toNatClampNeg) (rfl) (ix_0 ra1 (by decide)) (ix_lt ra1 (by decide) hb_1n (by decide)) hx_3 dX7_compares_5 ?_
  by_cases c_4 : x_3.toInt = 60
  · skip
    have r_5 := rg_of (a := 60) (b := 60) 60 c_4 (by decide) (by decide)
    refine g_lookup C (tgt := 32) (off := 26) dX7_compares_6 (by decide) (by rw [c_4]; decide) (by decide) ?_
    refine g_iload_n C 1 dX7_compares_32 rfl rfl ?_
    refine g_aload_n C 0 dX7_compares_33 rfl rfl ?_
    refine g_getR C K hLx hkx f_7_18 hb_2 dX7_compares_34 ?_
    refine g_iload_n C 2 dX7_compares_37 rfl rfl ?_
    obtain ⟨x_6, hx_6, rx_6⟩ := ex_any (z0 := I b_2 (a1.toNatClampNeg))
    refine h_iald C K hb_2L hb_2k (v := x_6) (a1.toNatClampNeg) (rfl) (ix_0 ra1 (by decide)) (ix_lt ra1 (by decide) hb_2n (by decide)) hx_6 dX7_compares_38 ?_
    refine g_icmp_ge C (tgt := 46) dX7_compares_39 (by decide) (fun h_7 => ?_) (fun h_7 => ?_)
    · skip
      refine g_iconst C (v := 0) dX7_compares_46 (by decide) ?_
      exact g_zret (ty := .boolean) (r := 0) B K rfl (rfl) ⟨rfl, rfl, rg_w rc_0 (by decide) (by decide)⟩ dX7_compares_47
    · skip
      have r_8 := lt_l (hi := 2147483646) (nle h_7) (rg_all a0) rx_6 (by decide)
      have r_9 := lt_r (lo := (-2147483647)) (nle h_7) (rg_all a0) rx_6 (by decide)
      refine g_iconst C (v := 1) dX7_compares_42 (by decide) ?_
      refine g_goto C (tgt := 47) dX7_compares_43 (by decide) ?_
      exact g_zret (ty := .boolean) (r := 1) B K rfl (rfl) ⟨rfl, rfl, rg_w rc_1 (by decide) (by decide)⟩ dX7_compares_47
  by_cases c_10 : x_3.toInt = 62
  · skip
    have r_11 := rg_of (a := 62) (b := 62) 62 c_10 (by decide) (by decide)
    refine g_lookup C (tgt := 48) (off := 42) dX7_compares_6 (by decide) (by rw [c_10]; decide) (by decide) ?_
    refine g_iload_n C 1 dX7_compares_48 rfl rfl ?_
    refine g_aload_n C 0 dX7_compares_49 rfl rfl ?_
    refine g_getR C K hLx hkx f_7_18 hb_2 dX7_compares_50 ?_
    refine g_iload_n C 2 dX7_compares_53 rfl rfl ?_
    obtain ⟨x_12, hx_12, rx_12⟩ := ex_any (z0 := I b_2 (a1.toNatClampNeg))
    refine h_iald C K hb_2L hb_2k (v := x_12) (a1.toNatClampNeg) (rfl) (ix_0 ra1 (by decide)) (ix_lt ra1 (by decide) hb_2n (by decide)) hx_12 dX7_compares_54 ?_
    refine g_icmp_le C (tgt := 62) dX7_compares_55 (by decide) (fun h_13 => ?_) (fun h_13 => ?_)
    · skip
      refine g_iconst C (v := 0) dX7_compares_62 (by decide) ?_
      exact g_zret (ty := .boolean) (r := 0) B K rfl (rfl) ⟨rfl, rfl, rg_w rc_0 (by decide) (by decide)⟩ dX7_compares_63
    · skip
      have r_14 := lt_l (hi := 2147483646) (nle h_13) rx_12 (rg_all a0) (by decide)
      have r_15 := lt_r (lo := (-2147483647)) (nle h_13) rx_12 (rg_all a0) (by decide)
      refine g_iconst C (v := 1) dX7_compares_58 (by decide) ?_
      refine g_goto C (tgt := 63) dX7_compares_59 (by decide) ?_
      exact g_zret (ty := .boolean) (r := 1) B K rfl (rfl) ⟨rfl, rfl, rg_w rc_1 (by decide) (by decide)⟩ dX7_compares_63
  obtain ⟨q_161, q_162⟩ := rx_3
  refine g_lookup C (tgt := 64) (off := 58) dX7_compares_6 (by decide) (by simp [Op.lookupswitch.offset, Ne.symm c_4, Ne.symm c_10]) (by decide) ?_
  refine g_iload_n C 1 dX7_compares_64 rfl rfl ?_
  refine g_aload_n C 0 dX7_compares_65 rfl rfl ?_
  refine g_getR C K hLx hkx f_7_18 hb_2 dX7_compares_66 ?_
  refine g_iload_n C 2 dX7_compares_69 rfl rfl ?_
  obtain ⟨x_17, hx_17, rx_17⟩ := ex_any (z0 := I b_2 (a1.toNatClampNeg))
  refine h_iald C K hb_2L hb_2k (v := x_17) (a1.toNatClampNeg) (rfl) (ix_0 ra1 (by decide)) (ix_lt ra1 (by decide) hb_2n (by decide)) hx_17 dX7_compares_70 ?_
  refine g_icmp_ne C (tgt := 78) dX7_compares_71 (by decide) (fun h_18 => ?_) (fun h_18 => ?_)
  · skip
    refine g_iconst C (v := 0) dX7_compares_78 (by decide) ?_
    exact g_zret (ty := .boolean) (r := 0) B K rfl (rfl) ⟨rfl, rfl, rg_w rc_0 (by decide) (by decide)⟩ dX7_compares_79
  · skip
    refine g_iconst C (v := 1) dX7_compares_74 (by decide) ?_
    refine g_goto C (tgt := 79) dX7_compares_75 (by decide) ?_
    exact g_zret (ty := .boolean) (r := 1) B K rfl (rfl) ⟨rfl, rfl, rg_w rc_1 (by decide) (by decide)⟩ dX7_compares_79
set_option maxRecDepth 100000 in
set_option maxHeartbeats 8000000 in
theorem c_X7_holds {l : Launch} {D : va_G} {cy : Nat → ClassId} {L : List Nat} {κ ln : Nat → Nat} {R : Nat → Nat → Option Nat} {I : Nat → Nat → Int32} {J : Nat → Nat → Int64} {ow : Nat → Nat × Nat} (W9 : ∀ a ∈ L, Shp L κ ln R ow a) {x : Nat} (hLx : x ∈ L) (hkx : κ x = 7) {a0 : Nat} (hLa0 : a0 ∈ L) (hka0 : κ a0 = 1) (a1 : Int32) (a2 : Int32) (ra1 : Rg 0 39 a1) (ra2 : Rg 0 6 a2) (hU : Iv L κ R ow I) : CtI l yX7_holds cX7_holds 4 (some .boolean) { frames := 1, cells := 0, slots := 0, locals := 22 } D cy L κ ln R I J [.ref x, .ref a0, .int a1, .int a2] (fun r I2 J2 => I = I2 ∧ J = J2 ∧ Rg 0 1 r) := by
  refine CtI.of (by decide +kernel) (Nat.le_of_ble_eq_true rfl) ?_
  intro p e s m below meth c B K
  have C := B.1
  obtain ⟨b_1, hb_1, hb_1L, hb_1k⟩ := shp_o (W9 a0 hLa0) hka0 0 8 rfl (by decide)
  obtain ⟨b_2, hb_2, hb_2L, hb_2k, hb_2n, hb_2o⟩ := shp_a (W9 a0 hLa0) hka0 3 14 7 rfl (by decide)
  obtain ⟨b_3, hb_3, hb_3L, hb_3k, hb_3n, hb_3o⟩ := shp_a (W9 a0 hLa0) hka0 6 14 7 rfl (by decide)
  obtain ⟨b_4, hb_4, hb_4L, hb_4k, hb_4n, hb_4o⟩ := shp_a (W9 x hLx) hkx 2 14 40 rfl (by decide)
  obtain ⟨b_5, hb_5, hb_5L, hb_5k, hb_5n, hb_5o⟩ := shp_a (W9 a0 hLa0) hka0 4 14 7 rfl (by decide)
  obtain ⟨b_6, hb_6, hb_6L, hb_6k, hb_6n, hb_6o⟩ := shp_a (W9 x hLx) hkx 0 14 40 rfl (by decide)
  obtain ⟨b_7, hb_7, hb_7L, hb_7k, hb_7n, hb_7o⟩ := shp_a (W9 b_1 hb_1L) hb_1k 2 14 7 rfl (by decide)
  obtain ⟨b_8, hb_8, hb_8L, hb_8k, hb_8n, hb_8o⟩ := shp_a (W9 b_1 hb_1L) hb_1k 1 14 7 rfl (by decide)
  refine g_lo (is := [0, 1, 2, 3]) (lo2 := [(0, .ref x), (1, .ref a0), (2, .int a1), (3, .int a2)]) rfl ?_
  refine g_aload_n C 0 dX7_holds_0 rfl rfl ?_
  refine g_getR C K hLx hkx f_7_11 hb_6 dX7_holds_1 ?_
  refine g_iload_n C 2 dX7_holds_4 rfl rfl ?_
  obtain ⟨x_9, hx_9, rx_9⟩ := ex_any (z0 := I b_6 (a1.toNatClampNeg))
  refine h_iald C K hb_6L hb_6k (v := x_9) (a1.toNatClampNeg) (rfl) (ix_0 ra1 (by decide)) (ix_lt ra1 (by decide) hb_6n (by decide)) hx_9 dX7_holds_5 ?_
  by_cases c_10 : x_9.toInt = 5
  · skip
    have r_11 := rg_of (a := 5) (b := 5) 5 c_10 (by decide) (by decide)
    refine g_tableIn C (tgt := 154) dX7_holds_6 (by omega) (by omega) (off := 148) (by rw [c_10]; rfl) (by decide) ?_
    refine g_aload_n C 1 dX7_holds_154 rfl rfl ?_
    refine g_getR C K hLa0 hka0 f_7_100 hb_1 dX7_holds_155 ?_
    refine g_getR C K hb_1L hb_1k f_7_130 hb_7 dX7_holds_158 ?_
    refine g_iload_n C 3 dX7_holds_161 rfl rfl ?_
    obtain ⟨x_12, hx_12, rx_12⟩ := ex_get (I := I) (a := b_7) (j := a2.toNatClampNeg) (lo := (-1)) (hi := 6) hU.1 hb_7L (ro_a hb_7k (by decide) hb_7o hb_1k rfl) (rfl)
    refine h_iald C K hb_7L hb_7k (v := x_12) (a2.toNatClampNeg) (rfl) (ix_0 ra2 (by decide)) (ix_lt ra2 (by decide) hb_7n (by decide)) hx_12 dX7_holds_162 ?_
    refine g_aload_n C 0 dX7_holds_163 rfl rfl ?_
    refine g_getR C K hLx hkx f_7_18 hb_4 dX7_holds_164 ?_
    refine g_iload_n C 2 dX7_holds_167 rfl rfl ?_
    obtain ⟨x_13, hx_13, rx_13⟩ := ex_any (z0 := I b_4 (a1.toNatClampNeg))
    refine h_iald C K hb_4L hb_4k (v := x_13) (a1.toNatClampNeg) (rfl) (ix_0 ra1 (by decide)) (ix_lt ra1 (by decide) hb_4n (by decide)) hx_13 dX7_holds_168 ?_
    refine g_icmp_ne C (tgt := 176) dX7_holds_169 (by decide) (fun h_14 => ?_) (fun h_14 => ?_)
    · skip
      refine g_iconst C (v := 0) dX7_holds_176 (by decide) ?_
      exact g_zret (ty := .boolean) (r := 0) B K rfl (rfl) ⟨rfl, rfl, rg_w rc_0 (by decide) (by decide)⟩ dX7_holds_177
    · skip
      have r_15 := (⟨(eq_rg (Eq.symm (h_14)) rx_12).1, (eq_rg (Eq.symm (h_14)) rx_12).2⟩ : Rg (-1) 6 x_13)
      refine g_iconst C (v := 1) dX7_holds_172 (by decide) ?_
      refine g_goto C (tgt := 177) dX7_holds_173 (by decide) ?_
      exact g_zret (ty := .boolean) (r := 1) B K rfl (rfl) ⟨rfl, rfl, rg_w rc_1 (by decide) (by decide)⟩ dX7_holds_177
  by_cases c_16 : x_9.toInt = 6
  · skip
    have r_17 := rg_of (a := 6) (b := 6) 6 c_16 (by decide) (by decide)
    refine g_tableIn C (tgt := 237) dX7_holds_6 (by omega) (by omega) (off := 231) (by rw [c_16]; rfl) (by decide) ?_
    refine g_aload_n C 0 dX7_holds_237 rfl rfl ?_
    refine g_iload_n C 3 dX7_holds_238 rfl rfl ?_
    refine g_iload_n C 2 dX7_holds_239 rfl rfl ?_
    refine g_callVI C K (c_X7_compares W9 hLx hkx a2 a1 (ra1) hU) hLx hkx (by decide) rfl v_7_139 rfl ⟨rfl, rfl⟩ ⟨Nat.le_of_ble_eq_true rfl, Nat.le_of_ble_eq_true rfl⟩ (Nat.le_of_ble_eq_true rfl) ⟨Nat.le_of_ble_eq_true rfl, Nat.le_of_ble_eq_true rfl⟩ dX7_holds_240 rfl (st := []) (fun x_18 I_19 J_20 h_21 => ?_)
    obtain ⟨rfl, rfl, rx_18⟩ := h_21
    exact g_zret (ty := .boolean) (r := x_18) B K rfl (nar_z (rx_18)) ⟨rfl, rfl, rx_18⟩ dX7_holds_243
  by_cases c_22 : x_9.toInt = 7
  · skip
    have r_23 := rg_of (a := 7) (b := 7) 7 c_22 (by decide) (by decide)
    refine g_tableIn C (tgt := 237) dX7_holds_6 (by omega) (by omega) (off := 231) (by rw [c_22]; rfl) (by decide) ?_
    refine g_aload_n C 0 dX7_holds_237 rfl rfl ?_
    refine g_iload_n C 3 dX7_holds_238 rfl rfl ?_
    refine g_iload_n C 2 dX7_holds_239 rfl rfl ?_
    refine g_callVI C K (c_X7_compares W9 hLx hkx a2 a1 (ra1) hU) hLx hkx (by decide) rfl v_7_139 rfl ⟨rfl, rfl⟩ ⟨Nat.le_of_ble_eq_true rfl, Nat.le_of_ble_eq_true rfl⟩ (Nat.le_of_ble_eq_true rfl) ⟨Nat.le_of_ble_eq_true rfl, Nat.le_of_ble_eq_true rfl⟩ dX7_holds_240 rfl (st := []) (fun x_24 I_25 J_26 h_27 => ?_)
    obtain ⟨rfl, rfl, rx_24⟩ := h_27
    exact g_zret (ty := .boolean) (r := x_24) B K rfl (nar_z (rx_24)) ⟨rfl, rfl, rx_24⟩ dX7_holds_243
  by_cases c_28 : x_9.toInt = 8
  · skip
    have r_29 := rg_of (a := 8) (b := 8) 8 c_28 (by decide) (by decide)
    refine g_tableIn C (tgt := 237) dX7_holds_6 (by omega) (by omega) (off := 231) (by rw [c_28]; rfl) (by decide) ?_
    refine g_aload_n C 0 dX7_holds_237 rfl rfl ?_
    refine g_iload_n C 3 dX7_holds_238 rfl rfl ?_
    refine g_iload_n C 2 dX7_holds_239 rfl rfl ?_
    refine g_callVI C K (c_X7_compares W9 hLx hkx a2 a1 (ra1) hU) hLx hkx (by decide) rfl v_7_139 rfl ⟨rfl, rfl⟩ ⟨Nat.le_of_ble_eq_true rfl, Nat.le_of_ble_eq_true rfl⟩ (Nat.le_of_ble_eq_true rfl) ⟨Nat.le_of_ble_eq_true rfl, Nat.le_of_ble_eq_true rfl⟩ dX7_holds_240 rfl (st := []) (fun x_30 I_31 J_32 h_33 => ?_)
    obtain ⟨rfl, rfl, rx_30⟩ := h_33
    exact g_zret (ty := .boolean) (r := x_30) B K rfl (nar_z (rx_30)) ⟨rfl, rfl, rx_30⟩ dX7_holds_243
  by_cases c_34 : x_9.toInt = 9
  · skip
    have r_35 := rg_of (a := 9) (b := 9) 9 c_34 (by decide) (by decide)
    refine g_tableIn C (tgt := 237) dX7_holds_6 (by omega) (by omega) (off := 231) (by rw [c_34]; rfl) (by decide) ?_
    refine g_aload_n C 0 dX7_holds_237 rfl rfl ?_
    refine g_iload_n C 3 dX7_holds_238 rfl rfl ?_
    refine g_iload_n C 2 dX7_holds_239 rfl rfl ?_
    refine g_callVI C K (c_X7_compares W9 hLx hkx a2 a1 (ra1) hU) hLx hkx (by decide) rfl v_7_139 rfl ⟨rfl, rfl⟩ ⟨Nat.le_of_ble_eq_true rfl, Nat.le_of_ble_eq_true rfl⟩ (Nat.le_of_ble_eq_true rfl) ⟨Nat.le_of_ble_eq_true rfl, Nat.le_of_ble_eq_true rfl⟩ dX7_holds_240 rfl (st := []) (fun x_36 I_37 J_38 h_39 => ?_)
    obtain ⟨rfl, rfl, rx_36⟩ := h_39
    exact g_zret (ty := .boolean) (r := x_36) B K rfl (nar_z (rx_36)) ⟨rfl, rfl, rx_36⟩ dX7_holds_243
  by_cases c_40 : x_9.toInt = 10
  · skip
    have r_41 := rg_of (a := 10) (b := 10) 10 c_40 (by decide) (by decide)
    refine g_tableIn C (tgt := 237) dX7_holds_6 (by omega) (by omega) (off := 231) (by rw [c_40]; rfl) (by decide) ?_
    refine g_aload_n C 0 dX7_holds_237 rfl rfl ?_
    refine g_iload_n C 3 dX7_holds_238 rfl rfl ?_
    refine g_iload_n C 2 dX7_holds_239 rfl rfl ?_
    refine g_callVI C K (c_X7_compares W9 hLx hkx a2 a1 (ra1) hU) hLx hkx (by decide) rfl v_7_139 rfl ⟨rfl, rfl⟩ ⟨Nat.le_of_ble_eq_true rfl, Nat.le_of_ble_eq_true rfl⟩ (Nat.le_of_ble_eq_true rfl) ⟨Nat.le_of_ble_eq_true rfl, Nat.le_of_ble_eq_true rfl⟩ dX7_holds_240 rfl (st := []) (fun x_42 I_43 J_44 h_45 => ?_)
    obtain ⟨rfl, rfl, rx_42⟩ := h_45
    exact g_zret (ty := .boolean) (r := x_42) B K rfl (nar_z (rx_42)) ⟨rfl, rfl, rx_42⟩ dX7_holds_243
  by_cases c_46 : x_9.toInt = 11
  · skip
    have r_47 := rg_of (a := 11) (b := 11) 11 c_46 (by decide) (by decide)
    refine g_tableIn C (tgt := 237) dX7_holds_6 (by omega) (by omega) (off := 231) (by rw [c_46]; rfl) (by decide) ?_
    refine g_aload_n C 0 dX7_holds_237 rfl rfl ?_
    refine g_iload_n C 3 dX7_holds_238 rfl rfl ?_
    refine g_iload_n C 2 dX7_holds_239 rfl rfl ?_
    refine g_callVI C K (c_X7_compares W9 hLx hkx a2 a1 (ra1) hU) hLx hkx (by decide) rfl v_7_139 rfl ⟨rfl, rfl⟩ ⟨Nat.le_of_ble_eq_true rfl, Nat.le_of_ble_eq_true rfl⟩ (Nat.le_of_ble_eq_true rfl) ⟨Nat.le_of_ble_eq_true rfl, Nat.le_of_ble_eq_true rfl⟩ dX7_holds_240 rfl (st := []) (fun x_48 I_49 J_50 h_51 => ?_)
    obtain ⟨rfl, rfl, rx_48⟩ := h_51
    exact g_zret (ty := .boolean) (r := x_48) B K rfl (nar_z (rx_48)) ⟨rfl, rfl, rx_48⟩ dX7_holds_243
  by_cases c_52 : x_9.toInt = 12
  · skip
    have r_53 := rg_of (a := 12) (b := 12) 12 c_52 (by decide) (by decide)
    refine g_tableIn C (tgt := 237) dX7_holds_6 (by omega) (by omega) (off := 231) (by rw [c_52]; rfl) (by decide) ?_
    refine g_aload_n C 0 dX7_holds_237 rfl rfl ?_
    refine g_iload_n C 3 dX7_holds_238 rfl rfl ?_
    refine g_iload_n C 2 dX7_holds_239 rfl rfl ?_
    refine g_callVI C K (c_X7_compares W9 hLx hkx a2 a1 (ra1) hU) hLx hkx (by decide) rfl v_7_139 rfl ⟨rfl, rfl⟩ ⟨Nat.le_of_ble_eq_true rfl, Nat.le_of_ble_eq_true rfl⟩ (Nat.le_of_ble_eq_true rfl) ⟨Nat.le_of_ble_eq_true rfl, Nat.le_of_ble_eq_true rfl⟩ dX7_holds_240 rfl (st := []) (fun x_54 I_55 J_56 h_57 => ?_)
    obtain ⟨rfl, rfl, rx_54⟩ := h_57
    exact g_zret (ty := .boolean) (r := x_54) B K rfl (nar_z (rx_54)) ⟨rfl, rfl, rx_54⟩ dX7_holds_243
  by_cases c_58 : x_9.toInt = 13
  · skip
    have r_59 := rg_of (a := 13) (b := 13) 13 c_58 (by decide) (by decide)
    refine g_tableIn C (tgt := 237) dX7_holds_6 (by omega) (by omega) (off := 231) (by rw [c_58]; rfl) (by decide) ?_
    refine g_aload_n C 0 dX7_holds_237 rfl rfl ?_
    refine g_iload_n C 3 dX7_holds_238 rfl rfl ?_
    refine g_iload_n C 2 dX7_holds_239 rfl rfl ?_
    refine g_callVI C K (c_X7_compares W9 hLx hkx a2 a1 (ra1) hU) hLx hkx (by decide) rfl v_7_139 rfl ⟨rfl, rfl⟩ ⟨Nat.le_of_ble_eq_true rfl, Nat.le_of_ble_eq_true rfl⟩ (Nat.le_of_ble_eq_true rfl) ⟨Nat.le_of_ble_eq_true rfl, Nat.le_of_ble_eq_true rfl⟩ dX7_holds_240 rfl (st := []) (fun x_60 I_61 J_62 h_63 => ?_)
    obtain ⟨rfl, rfl, rx_60⟩ := h_63
    exact g_zret (ty := .boolean) (r := x_60) B K rfl (nar_z (rx_60)) ⟨rfl, rfl, rx_60⟩ dX7_holds_243
  by_cases c_64 : x_9.toInt = 14
  · skip
    have r_65 := rg_of (a := 14) (b := 14) 14 c_64 (by decide) (by decide)
    refine g_tableIn C (tgt := 237) dX7_holds_6 (by omega) (by omega) (off := 231) (by rw [c_64]; rfl) (by decide) ?_
    refine g_aload_n C 0 dX7_holds_237 rfl rfl ?_
    refine g_iload_n C 3 dX7_holds_238 rfl rfl ?_
    refine g_iload_n C 2 dX7_holds_239 rfl rfl ?_
    refine g_callVI C K (c_X7_compares W9 hLx hkx a2 a1 (ra1) hU) hLx hkx (by decide) rfl v_7_139 rfl ⟨rfl, rfl⟩ ⟨Nat.le_of_ble_eq_true rfl, Nat.le_of_ble_eq_true rfl⟩ (Nat.le_of_ble_eq_true rfl) ⟨Nat.le_of_ble_eq_true rfl, Nat.le_of_ble_eq_true rfl⟩ dX7_holds_240 rfl (st := []) (fun x_66 I_67 J_68 h_69 => ?_)
    obtain ⟨rfl, rfl, rx_66⟩ := h_69
    exact g_zret (ty := .boolean) (r := x_66) B K rfl (nar_z (rx_66)) ⟨rfl, rfl, rx_66⟩ dX7_holds_243
  by_cases c_70 : x_9.toInt = 15
  · skip
    have r_71 := rg_of (a := 15) (b := 15) 15 c_70 (by decide) (by decide)
    refine g_tableIn C (tgt := 237) dX7_holds_6 (by omega) (by omega) (off := 231) (by rw [c_70]; rfl) (by decide) ?_
    refine g_aload_n C 0 dX7_holds_237 rfl rfl ?_
    refine g_iload_n C 3 dX7_holds_238 rfl rfl ?_
    refine g_iload_n C 2 dX7_holds_239 rfl rfl ?_
    refine g_callVI C K (c_X7_compares W9 hLx hkx a2 a1 (ra1) hU) hLx hkx (by decide) rfl v_7_139 rfl ⟨rfl, rfl⟩ ⟨Nat.le_of_ble_eq_true rfl, Nat.le_of_ble_eq_true rfl⟩ (Nat.le_of_ble_eq_true rfl) ⟨Nat.le_of_ble_eq_true rfl, Nat.le_of_ble_eq_true rfl⟩ dX7_holds_240 rfl (st := []) (fun x_72 I_73 J_74 h_75 => ?_)
    obtain ⟨rfl, rfl, rx_72⟩ := h_75
    exact g_zret (ty := .boolean) (r := x_72) B K rfl (nar_z (rx_72)) ⟨rfl, rfl, rx_72⟩ dX7_holds_243
  by_cases c_76 : x_9.toInt = 16
  · skip
    have r_77 := rg_of (a := 16) (b := 16) 16 c_76 (by decide) (by decide)
    refine g_tableIn C (tgt := 237) dX7_holds_6 (by omega) (by omega) (off := 231) (by rw [c_76]; rfl) (by decide) ?_
    refine g_aload_n C 0 dX7_holds_237 rfl rfl ?_
    refine g_iload_n C 3 dX7_holds_238 rfl rfl ?_
    refine g_iload_n C 2 dX7_holds_239 rfl rfl ?_
    refine g_callVI C K (c_X7_compares W9 hLx hkx a2 a1 (ra1) hU) hLx hkx (by decide) rfl v_7_139 rfl ⟨rfl, rfl⟩ ⟨Nat.le_of_ble_eq_true rfl, Nat.le_of_ble_eq_true rfl⟩ (Nat.le_of_ble_eq_true rfl) ⟨Nat.le_of_ble_eq_true rfl, Nat.le_of_ble_eq_true rfl⟩ dX7_holds_240 rfl (st := []) (fun x_78 I_79 J_80 h_81 => ?_)
    obtain ⟨rfl, rfl, rx_78⟩ := h_81
    exact g_zret (ty := .boolean) (r := x_78) B K rfl (nar_z (rx_78)) ⟨rfl, rfl, rx_78⟩ dX7_holds_243
  by_cases c_82 : x_9.toInt = 17
  · skip
    have r_83 := rg_of (a := 17) (b := 17) 17 c_82 (by decide) (by decide)
    refine g_tableIn C (tgt := 237) dX7_holds_6 (by omega) (by omega) (off := 231) (by rw [c_82]; rfl) (by decide) ?_
    refine g_aload_n C 0 dX7_holds_237 rfl rfl ?_
    refine g_iload_n C 3 dX7_holds_238 rfl rfl ?_
    refine g_iload_n C 2 dX7_holds_239 rfl rfl ?_
    refine g_callVI C K (c_X7_compares W9 hLx hkx a2 a1 (ra1) hU) hLx hkx (by decide) rfl v_7_139 rfl ⟨rfl, rfl⟩ ⟨Nat.le_of_ble_eq_true rfl, Nat.le_of_ble_eq_true rfl⟩ (Nat.le_of_ble_eq_true rfl) ⟨Nat.le_of_ble_eq_true rfl, Nat.le_of_ble_eq_true rfl⟩ dX7_holds_240 rfl (st := []) (fun x_84 I_85 J_86 h_87 => ?_)
    obtain ⟨rfl, rfl, rx_84⟩ := h_87
    exact g_zret (ty := .boolean) (r := x_84) B K rfl (nar_z (rx_84)) ⟨rfl, rfl, rx_84⟩ dX7_holds_243
  by_cases c_88 : x_9.toInt = 18
  · skip
    have r_89 := rg_of (a := 18) (b := 18) 18 c_88 (by decide) (by decide)
    refine g_tableIn C (tgt := 237) dX7_holds_6 (by omega) (by omega) (off := 231) (by rw [c_88]; rfl) (by decide) ?_
    refine g_aload_n C 0 dX7_holds_237 rfl rfl ?_
    refine g_iload_n C 3 dX7_holds_238 rfl rfl ?_
    refine g_iload_n C 2 dX7_holds_239 rfl rfl ?_
    refine g_callVI C K (c_X7_compares W9 hLx hkx a2 a1 (ra1) hU) hLx hkx (by decide) rfl v_7_139 rfl ⟨rfl, rfl⟩ ⟨Nat.le_of_ble_eq_true rfl, Nat.le_of_ble_eq_true rfl⟩ (Nat.le_of_ble_eq_true rfl) ⟨Nat.le_of_ble_eq_true rfl, Nat.le_of_ble_eq_true rfl⟩ dX7_holds_240 rfl (st := []) (fun x_90 I_91 J_92 h_93 => ?_)
    obtain ⟨rfl, rfl, rx_90⟩ := h_93
    exact g_zret (ty := .boolean) (r := x_90) B K rfl (nar_z (rx_90)) ⟨rfl, rfl, rx_90⟩ dX7_holds_243
  by_cases c_94 : x_9.toInt = 19
  · skip
    have r_95 := rg_of (a := 19) (b := 19) 19 c_94 (by decide) (by decide)
    refine g_tableIn C (tgt := 237) dX7_holds_6 (by omega) (by omega) (off := 231) (by rw [c_94]; rfl) (by decide) ?_
    refine g_aload_n C 0 dX7_holds_237 rfl rfl ?_
    refine g_iload_n C 3 dX7_holds_238 rfl rfl ?_
    refine g_iload_n C 2 dX7_holds_239 rfl rfl ?_
    refine g_callVI C K (c_X7_compares W9 hLx hkx a2 a1 (ra1) hU) hLx hkx (by decide) rfl v_7_139 rfl ⟨rfl, rfl⟩ ⟨Nat.le_of_ble_eq_true rfl, Nat.le_of_ble_eq_true rfl⟩ (Nat.le_of_ble_eq_true rfl) ⟨Nat.le_of_ble_eq_true rfl, Nat.le_of_ble_eq_true rfl⟩ dX7_holds_240 rfl (st := []) (fun x_96 I_97 J_98 h_99 => ?_)
    obtain ⟨rfl, rfl, rx_96⟩ := h_99
    exact g_zret (ty := .boolean) (r := x_96) B K rfl (nar_z (rx_96)) ⟨rfl, rfl, rx_96⟩ dX7_holds_243
  by_cases c_100 : x_9.toInt = 20
  · skip
    have r_101 := rg_of (a := 20) (b := 20) 20 c_100 (by decide) (by decide)
    refine g_tableIn C (tgt := 108) dX7_holds_6 (by omega) (by omega) (off := 102) (by rw [c_100]; rfl) (by decide) ?_
    refine g_aload_n C 1 dX7_holds_108 rfl rfl ?_
    refine g_iload_n C 3 dX7_holds_109 rfl rfl ?_
    refine g_callVI C K (c_X1_lives W9 hLa0 hka0 a2 (ra2) hU) hLa0 hka0 (by decide) rfl v_7_121 rfl ⟨rfl, rfl⟩ ⟨Nat.le_of_ble_eq_true rfl, Nat.le_of_ble_eq_true rfl⟩ (Nat.le_of_ble_eq_true rfl) ⟨Nat.le_of_ble_eq_true rfl, Nat.le_of_ble_eq_true rfl⟩ dX7_holds_110 rfl (st := []) (fun x_102 I_103 J_104 h_105 => ?_)
    obtain ⟨rfl, rfl, rx_102⟩ := h_105
    refine g_if_ne C (tgt := 120) dX7_holds_113 (by decide) (fun h_106 => ?_) (fun h_106 => ?_)
    · skip
      have n_107 : ¬ x_102 = 0 := h_106
      have r_108 := ne_lo (lo := 1) n_107 rx_102 rc_0 rfl (by decide)
      refine g_iconst C (v := 0) dX7_holds_120 (by decide) ?_
      exact g_zret (ty := .boolean) (r := 0) B K rfl (rfl) ⟨rfl, rfl, rg_w rc_0 (by decide) (by decide)⟩ dX7_holds_121
    · skip
      have r_109 := (⟨(rx_102).1, (eq_rg (h_106) rc_0).2⟩ : Rg 0 0 x_102)
      refine g_iconst C (v := 1) dX7_holds_116 (by decide) ?_
      refine g_goto C (tgt := 121) dX7_holds_117 (by decide) ?_
      exact g_zret (ty := .boolean) (r := 1) B K rfl (rfl) ⟨rfl, rfl, rg_w rc_1 (by decide) (by decide)⟩ dX7_holds_121
  by_cases c_110 : x_9.toInt = 21
  · skip
    have r_111 := rg_of (a := 21) (b := 21) 21 c_110 (by decide) (by decide)
    refine g_tableIn C (tgt := 122) dX7_holds_6 (by omega) (by omega) (off := 116) (by rw [c_110]; rfl) (by decide) ?_
    refine g_aload_n C 1 dX7_holds_122 rfl rfl ?_
    obtain ⟨x_112, hx_112, rx_112⟩ := ex_get (I := I) (a := a0) (j := 8) (lo := (-2147483648)) (hi := 2147483647) hU.1 hLa0 (ro_o hka0 (by decide)) rfl
    refine g_getI C K hLa0 hka0 f_7_124 (v := x_112) hx_112 dX7_holds_123 ?_
    refine g_iload_n C 3 dX7_holds_126 rfl rfl ?_
    obtain ⟨x_113, hx_113, rx_113⟩ := ex_any (z0 := x_112 >>> (a2 &&& 31))
    refine g_ishr C (v := x_113) dX7_holds_127 hx_113 ?_
    refine g_iconst C (v := 1) dX7_holds_128 (by decide) ?_
    obtain ⟨x_114, hx_114, rx_114⟩ := ex_andr (x := x_113) (y := 1) (b := 1) (rg_w rc_1 (by decide) (by decide))
    refine g_iand C (v := x_114) dX7_holds_129 hx_114 ?_
    refine g_if_eq C (tgt := 137) dX7_holds_130 (by decide) (fun h_115 => ?_) (fun h_115 => ?_)
    · skip
      have r_116 := (⟨(rx_114).1, (eq_rg (h_115) rc_0).2⟩ : Rg 0 0 x_114)
      refine g_iconst C (v := 0) dX7_holds_137 (by decide) ?_
      exact g_zret (ty := .boolean) (r := 0) B K rfl (rfl) ⟨rfl, rfl, rg_w rc_0 (by decide) (by decide)⟩ dX7_holds_138
    · skip
      have n_117 : ¬ x_114 = 0 := h_115
      have r_118 := ne_lo (lo := 1) n_117 rx_114 rc_0 rfl (by decide)
      refine g_iconst C (v := 1) dX7_holds_133 (by decide) ?_
      refine g_goto C (tgt := 138) dX7_holds_134 (by decide) ?_
      exact g_zret (ty := .boolean) (r := 1) B K rfl (rfl) ⟨rfl, rfl, rg_w rc_1 (by decide) (by decide)⟩ dX7_holds_138
  by_cases c_119 : x_9.toInt = 22
  · skip
    have r_120 := rg_of (a := 22) (b := 22) 22 c_119 (by decide) (by decide)
    refine g_tableIn C (tgt := 139) dX7_holds_6 (by omega) (by omega) (off := 133) (by rw [c_119]; rfl) (by decide) ?_
    refine g_aload_n C 1 dX7_holds_139 rfl rfl ?_
    refine g_getR C K hLa0 hka0 f_7_127 hb_2 dX7_holds_140 ?_
    refine g_iload_n C 3 dX7_holds_143 rfl rfl ?_
    obtain ⟨x_121, hx_121, rx_121⟩ := ex_any (z0 := I b_2 (a2.toNatClampNeg))
    refine h_iald C K hb_2L hb_2k (v := x_121) (a2.toNatClampNeg) (rfl) (ix_0 ra2 (by decide)) (ix_lt ra2 (by decide) hb_2n (by decide)) hx_121 dX7_holds_144 ?_
    refine g_if_ne C (tgt := 152) dX7_holds_145 (by decide) (fun h_122 => ?_) (fun h_122 => ?_)
    · skip
      have n_123 : ¬ x_121 = 0 := h_122
      refine g_iconst C (v := 0) dX7_holds_152 (by decide) ?_
      exact g_zret (ty := .boolean) (r := 0) B K rfl (rfl) ⟨rfl, rfl, rg_w rc_0 (by decide) (by decide)⟩ dX7_holds_153
    · skip
      have r_124 := (⟨(eq_rg (h_122) rc_0).1, (eq_rg (h_122) rc_0).2⟩ : Rg 0 0 x_121)
      refine g_iconst C (v := 1) dX7_holds_148 (by decide) ?_
      refine g_goto C (tgt := 153) dX7_holds_149 (by decide) ?_
      exact g_zret (ty := .boolean) (r := 1) B K rfl (rfl) ⟨rfl, rfl, rg_w rc_1 (by decide) (by decide)⟩ dX7_holds_153
  by_cases c_125 : x_9.toInt = 23
  · skip
    have r_126 := rg_of (a := 23) (b := 23) 23 c_125 (by decide) (by decide)
    refine g_tableIn C (tgt := 178) dX7_holds_6 (by omega) (by omega) (off := 172) (by rw [c_125]; rfl) (by decide) ?_
    refine g_aload_n C 1 dX7_holds_178 rfl rfl ?_
    refine g_iload_n C 3 dX7_holds_179 rfl rfl ?_
    refine g_aload_n C 0 dX7_holds_180 rfl rfl ?_
    refine g_getR C K hLx hkx f_7_18 hb_4 dX7_holds_181 ?_
    refine g_iload_n C 2 dX7_holds_184 rfl rfl ?_
    obtain ⟨x_127, hx_127, rx_127⟩ := ex_any (z0 := I b_4 (a1.toNatClampNeg))
    refine h_iald C K hb_4L hb_4k (v := x_127) (a1.toNatClampNeg) (rfl) (ix_0 ra1 (by decide)) (ix_lt ra1 (by decide) hb_4n (by decide)) hx_127 dX7_holds_185 ?_
    have r_128 := eq_rg (Eq.symm hx_127) (hU.2.1 x hLx hkx _ _ hb_6 hb_4 _ (Eq.trans hx_9 (rg_1k r_126 rc_23)))
    refine g_callVI C K (c_X1_onPlate W9 hLa0 hka0 a2 x_127 (ra2) (r_128) hU) hLa0 hka0 (by decide) rfl v_7_133 rfl ⟨rfl, rfl⟩ ⟨Nat.le_of_ble_eq_true rfl, Nat.le_of_ble_eq_true rfl⟩ (Nat.le_of_ble_eq_true rfl) ⟨Nat.le_of_ble_eq_true rfl, Nat.le_of_ble_eq_true rfl⟩ dX7_holds_186 rfl (st := []) (fun x_129 I_130 J_131 h_132 => ?_)
    obtain ⟨rfl, rfl, rx_129, fx_129⟩ := h_132
    refine g_if_le C (tgt := 196) dX7_holds_189 (by decide) (fun h_133 => ?_) (fun h_133 => ?_)
    · skip
      have r_134 := le_l (h_133) rx_129 rc_0
      refine g_iconst C (v := 0) dX7_holds_196 (by decide) ?_
      exact g_zret (ty := .boolean) (r := 0) B K rfl (rfl) ⟨rfl, rfl, rg_w rc_0 (by decide) (by decide)⟩ dX7_holds_197
    · skip
      have r_135 := lt_r (lo := 1) (nle h_133) rc_0 rx_129 (by decide)
      refine g_iconst C (v := 1) dX7_holds_192 (by decide) ?_
      refine g_goto C (tgt := 197) dX7_holds_193 (by decide) ?_
      exact g_zret (ty := .boolean) (r := 1) B K rfl (rfl) ⟨rfl, rfl, rg_w rc_1 (by decide) (by decide)⟩ dX7_holds_197
  by_cases c_136 : x_9.toInt = 24
  · skip
    have r_137 := rg_of (a := 24) (b := 24) 24 c_136 (by decide) (by decide)
    refine g_tableIn C (tgt := 198) dX7_holds_6 (by omega) (by omega) (off := 192) (by rw [c_136]; rfl) (by decide) ?_
    refine g_aload_n C 0 dX7_holds_198 rfl rfl ?_
    refine g_aload_n C 1 dX7_holds_199 rfl rfl ?_
    refine g_getR C K hLa0 hka0 f_7_100 hb_1 dX7_holds_200 ?_
    refine g_getR C K hb_1L hb_1k f_7_136 hb_8 dX7_holds_203 ?_
    refine g_iload_n C 3 dX7_holds_206 rfl rfl ?_
    obtain ⟨x_138, hx_138, rx_138⟩ := ex_any (z0 := I b_8 (a2.toNatClampNeg))
    refine h_iald C K hb_8L hb_8k (v := x_138) (a2.toNatClampNeg) (rfl) (ix_0 ra2 (by decide)) (ix_lt ra2 (by decide) hb_8n (by decide)) hx_138 dX7_holds_207 ?_
    refine g_iload_n C 2 dX7_holds_208 rfl rfl ?_
    refine g_callVI C K (c_X7_compares W9 hLx hkx x_138 a1 (ra1) hU) hLx hkx (by decide) rfl v_7_139 rfl ⟨rfl, rfl⟩ ⟨Nat.le_of_ble_eq_true rfl, Nat.le_of_ble_eq_true rfl⟩ (Nat.le_of_ble_eq_true rfl) ⟨Nat.le_of_ble_eq_true rfl, Nat.le_of_ble_eq_true rfl⟩ dX7_holds_209 rfl (st := []) (fun x_139 I_140 J_141 h_142 => ?_)
    obtain ⟨rfl, rfl, rx_139⟩ := h_142
    exact g_zret (ty := .boolean) (r := x_139) B K rfl (nar_z (rx_139)) ⟨rfl, rfl, rx_139⟩ dX7_holds_212
  by_cases c_143 : x_9.toInt = 25
  · skip
    have r_144 := rg_of (a := 25) (b := 25) 25 c_143 (by decide) (by decide)
    refine g_tableIn C (tgt := 213) dX7_holds_6 (by omega) (by omega) (off := 207) (by rw [c_143]; rfl) (by decide) ?_
    refine g_aload_n C 0 dX7_holds_213 rfl rfl ?_
    refine g_aload_n C 1 dX7_holds_214 rfl rfl ?_
    refine g_getR C K hLa0 hka0 f_7_143 hb_5 dX7_holds_215 ?_
    refine g_iload_n C 3 dX7_holds_218 rfl rfl ?_
    obtain ⟨x_145, hx_145, rx_145⟩ := ex_any (z0 := I b_5 (a2.toNatClampNeg))
    refine h_iald C K hb_5L hb_5k (v := x_145) (a2.toNatClampNeg) (rfl) (ix_0 ra2 (by decide)) (ix_lt ra2 (by decide) hb_5n (by decide)) hx_145 dX7_holds_219 ?_
    refine g_iload_n C 2 dX7_holds_220 rfl rfl ?_
    refine g_callVI C K (c_X7_compares W9 hLx hkx x_145 a1 (ra1) hU) hLx hkx (by decide) rfl v_7_139 rfl ⟨rfl, rfl⟩ ⟨Nat.le_of_ble_eq_true rfl, Nat.le_of_ble_eq_true rfl⟩ (Nat.le_of_ble_eq_true rfl) ⟨Nat.le_of_ble_eq_true rfl, Nat.le_of_ble_eq_true rfl⟩ dX7_holds_221 rfl (st := []) (fun x_146 I_147 J_148 h_149 => ?_)
    obtain ⟨rfl, rfl, rx_146⟩ := h_149
    exact g_zret (ty := .boolean) (r := x_146) B K rfl (nar_z (rx_146)) ⟨rfl, rfl, rx_146⟩ dX7_holds_224
  by_cases c_150 : x_9.toInt = 26
  · skip
    have r_151 := rg_of (a := 26) (b := 26) 26 c_150 (by decide) (by decide)
    refine g_tableIn C (tgt := 225) dX7_holds_6 (by omega) (by omega) (off := 219) (by rw [c_150]; rfl) (by decide) ?_
    refine g_aload_n C 0 dX7_holds_225 rfl rfl ?_
    refine g_aload_n C 1 dX7_holds_226 rfl rfl ?_
    refine g_getR C K hLa0 hka0 f_7_146 hb_3 dX7_holds_227 ?_
    refine g_iload_n C 3 dX7_holds_230 rfl rfl ?_
    obtain ⟨x_152, hx_152, rx_152⟩ := ex_any (z0 := I b_3 (a2.toNatClampNeg))
    refine h_iald C K hb_3L hb_3k (v := x_152) (a2.toNatClampNeg) (rfl) (ix_0 ra2 (by decide)) (ix_lt ra2 (by decide) hb_3n (by decide)) hx_152 dX7_holds_231 ?_
    refine g_iload_n C 2 dX7_holds_232 rfl rfl ?_
    refine g_callVI C K (c_X7_compares W9 hLx hkx x_152 a1 (ra1) hU) hLx hkx (by decide) rfl v_7_139 rfl ⟨rfl, rfl⟩ ⟨Nat.le_of_ble_eq_true rfl, Nat.le_of_ble_eq_true rfl⟩ (Nat.le_of_ble_eq_true rfl) ⟨Nat.le_of_ble_eq_true rfl, Nat.le_of_ble_eq_true rfl⟩ dX7_holds_233 rfl (st := []) (fun x_153 I_154 J_155 h_156 => ?_)
    obtain ⟨rfl, rfl, rx_153⟩ := h_156
    exact g_zret (ty := .boolean) (r := x_153) B K rfl (nar_z (rx_153)) ⟨rfl, rfl, rx_153⟩ dX7_holds_236
  obtain ⟨q_1571, q_1572⟩ := rx_9
  refine g_tableOut C (tgt := 237) dX7_holds_6 (by omega) (by decide) ?_
  refine g_aload_n C 0 dX7_holds_237 rfl rfl ?_
  refine g_iload_n C 3 dX7_holds_238 rfl rfl ?_
  refine g_iload_n C 2 dX7_holds_239 rfl rfl ?_
  refine g_callVI C K (c_X7_compares W9 hLx hkx a2 a1 (ra1) hU) hLx hkx (by decide) rfl v_7_139 rfl ⟨rfl, rfl⟩ ⟨Nat.le_of_ble_eq_true rfl, Nat.le_of_ble_eq_true rfl⟩ (Nat.le_of_ble_eq_true rfl) ⟨Nat.le_of_ble_eq_true rfl, Nat.le_of_ble_eq_true rfl⟩ dX7_holds_240 rfl (st := []) (fun x_158 I_159 J_160 h_161 => ?_)
  obtain ⟨rfl, rfl, rx_158⟩ := h_161
  exact g_zret (ty := .boolean) (r := x_158) B K rfl (nar_z (rx_158)) ⟨rfl, rfl, rx_158⟩ dX7_holds_243
set_option maxRecDepth 100000 in
set_option maxHeartbeats 8000000 in
theorem c_X7_thoseOf {l : Launch} {D : va_G} {cy : Nat → ClassId} {L : List Nat} {κ ln : Nat → Nat} {R : Nat → Nat → Option Nat} {I : Nat → Nat → Int32} {J : Nat → Nat → Int64} {ow : Nat → Nat × Nat} (W9 : ∀ a ∈ L, Shp L κ ln R ow a) {x : Nat} (hLx : x ∈ L) (hkx : κ x = 7) {a0 : Nat} (hLa0 : a0 ∈ L) (hka0 : κ a0 = 1) (a1 : Int32) (ra1 : Rg 0 39 a1) (hU : Iv L κ R ow I) : CtI l yX7_thoseOf cX7_thoseOf 5 (some .int) { frames := 2, cells := 0, slots := 0, locals := 45 } D cy L κ ln R I J [.ref x, .ref a0, .int a1] (fun r I2 J2 => I = I2 ∧ J = J2 ∧ Rg 0 127 r) := by
  refine CtI.of (by decide +kernel) (Nat.le_of_ble_eq_true rfl) ?_
  intro p e s m below meth c B K
  have C := B.1
  obtain ⟨b_1, hb_1, hb_1L, hb_1k⟩ := shp_o (W9 a0 hLa0) hka0 0 8 rfl (by decide)
  refine g_lo (is := [0, 1, 2]) (lo2 := [(0, .ref x), (1, .ref a0), (2, .int a1)]) rfl ?_
  have l_5 : ∀ (n_5 : Nat) (v_2 : Int32) (rv_2 : Rg 0 39 v_2) (v_3 : Int32) (rv_3 : Rg 0 127 v_3) (v_4 : Int32) (rv_4 : Rg 0 7 v_4) (hm_5 : 7 < (v_4 : Int32).toInt + (n_5 : Int)), WG p l e { frames := 2, cells := 0, slots := 0, locals := 45 } s m ([.ref x, .ref a0, .int a1] : List Value).toArray below meth c 5 0 0 (MQ below (Qi_ D cy L κ ln R (fun r I2 J2 => I = I2 ∧ J = J2 ∧ Rg 0 127 r)) ([.ref x, .ref a0, .int a1] : List Value).toArray s 0 0 (Al_ L)) D cy (Al_ L) s.heap L κ ln R I J 5 [(0, .ref x), (1, .ref a0), (2, .int v_2), (3, .int v_3), (4, .int v_4)] [] := by
    intro n_5
    induction n_5 with
    | zero =>
      intro v_2 rv_2 v_3 rv_3 v_4 rv_4 hm_5
      exact ms_0 rv_4 hm_5
    | succ n_5 ih_5 =>
      intro v_2 rv_2 v_3 rv_3 v_4 rv_4 hm_5
      have j_35 : ∀ (v_6 : Int32) (rv_6 : Rg 0 39 v_6) (v_7 : Int32) (rv_7 : Rg 0 127 v_7) (v_8 : Int32) (rv_8 : Rg 0 6 v_8) (v_9 : Int32) (rv_9 : Rg 1 7 v_9) (q_10 : I b_1 5 = v_9) (hm_11 : 7 < (v_8 : Int32).toInt + ((n_5 + 1 : Nat) : Int)), WG p l e { frames := 2, cells := 0, slots := 0, locals := 45 } s m ([.ref x, .ref a0, .int a1] : List Value).toArray below meth c 5 0 0 (MQ below (Qi_ D cy L κ ln R (fun r I2 J2 => I = I2 ∧ J = J2 ∧ Rg 0 127 r)) ([.ref x, .ref a0, .int a1] : List Value).toArray s 0 0 (Al_ L)) D cy (Al_ L) s.heap L κ ln R I J 35 [(0, .ref x), (1, .ref a0), (2, .int v_6), (3, .int v_7), (4, .int v_8)] [] := by
        intro v_6 rv_6 v_7 rv_7 v_8 rv_8 v_9 rv_9 q_10 hm_11
        obtain ⟨x_12, hx_12, rx_12, tx_12⟩ := ex_add (y := 1) 1 7 rv_8 rc_1 (by decide) (by decide) (by decide) (by decide)
        refine g_iinc C dX7_thoseOf_35 (k := 4) (v := x_12) rfl hx_12 (by decide) (lo2 := [(4, .int x_12), (0, .ref x), (1, .ref a0), (2, .int v_6), (3, .int v_7)]) rfl ?_
        refine g_goto C (tgt := 5) dX7_thoseOf_38 (by decide) ?_
        refine g_lo (is := [1, 2, 3, 4, 0]) (lo2 := [(0, .ref x), (1, .ref a0), (2, .int v_6), (3, .int v_7), (4, .int x_12)]) rfl ?_
        exact ih_5 v_6 (rv_6) v_7 (rv_7) x_12 (rg_w rx_12 (by decide) (by decide)) (ms_1 hm_11 (ti_k tx_12 rc_1) (by decide))
      refine g_iload C 4 dX7_thoseOf_5 rfl ?_
      refine g_aload_n C 1 dX7_thoseOf_7 rfl rfl ?_
      refine g_getR C K hLa0 hka0 f_7_100 hb_1 dX7_thoseOf_8 ?_
      obtain ⟨x_13, hx_13, rx_13⟩ := ex_get (I := I) (a := b_1) (j := 5) (lo := 0) (hi := 7) hU.1 hb_1L (ro_o hb_1k (by decide)) rfl
      refine g_getI C K hb_1L hb_1k f_7_114 (v := x_13) hx_13 dX7_thoseOf_11 ?_
      refine g_icmp_ge C (tgt := 41) dX7_thoseOf_14 (by decide) (fun h_14 => ?_) (fun h_14 => ?_)
      · skip
        refine g_iload_n C 3 dX7_thoseOf_41 rfl rfl ?_
        exact g_zret (ty := .int) (r := v_3) B K rfl (rfl) ⟨rfl, rfl, rv_3⟩ dX7_thoseOf_42
      · skip
        have r_15 := lt_l (hi := 6) (nle h_14) rv_4 rx_13 (by decide)
        have r_16 := lt_r (lo := 1) (nle h_14) rv_4 rx_13 (by decide)
        refine g_aload_n C 0 dX7_thoseOf_17 rfl rfl ?_
        refine g_aload_n C 1 dX7_thoseOf_18 rfl rfl ?_
        refine g_iload_n C 2 dX7_thoseOf_19 rfl rfl ?_
        refine g_iload C 4 dX7_thoseOf_20 rfl ?_
        refine g_callVI C K (c_X7_holds W9 hLx hkx hLa0 hka0 v_2 v_4 (rv_2) (r_15) hU) hLx hkx (by decide) rfl v_7_117 rfl ⟨rfl, rfl⟩ ⟨Nat.le_of_ble_eq_true rfl, Nat.le_of_ble_eq_true rfl⟩ (Nat.le_of_ble_eq_true rfl) ⟨Nat.le_of_ble_eq_true rfl, Nat.le_of_ble_eq_true rfl⟩ dX7_thoseOf_22 rfl (st := []) (fun x_17 I_18 J_19 h_20 => ?_)
        obtain ⟨rfl, rfl, rx_17⟩ := h_20
        refine g_if_eq C (tgt := 35) dX7_thoseOf_25 (by decide) (fun h_21 => ?_) (fun h_21 => ?_)
        · skip
          have r_22 := (⟨(rx_17).1, (eq_rg (h_21) rc_0).2⟩ : Rg 0 0 x_17)
          refine g_lo (is := [0, 1, 2, 3, 4]) (lo2 := [(0, .ref x), (1, .ref a0), (2, .int v_2), (3, .int v_3), (4, .int v_4)]) rfl ?_
          exact j_35 v_2 (rv_2) v_3 (rv_3) v_4 (r_15) x_13 (r_16) hx_13 hm_5
        · skip
          have n_23 : ¬ x_17 = 0 := h_21
          have r_24 := ne_lo (lo := 1) n_23 rx_17 rc_0 rfl (by decide)
          refine g_iload_n C 3 dX7_thoseOf_28 rfl rfl ?_
          refine g_iconst C (v := 1) dX7_thoseOf_29 (by decide) ?_
          refine g_iload C 4 dX7_thoseOf_30 rfl ?_
          obtain ⟨x_25, hx_25, rx_25⟩ := ex_shl (x := 1) (y := v_4) 6 64 rfl (r_15) (by decide)
          refine g_ishl C (v := x_25) dX7_thoseOf_32 hx_25 ?_
          obtain ⟨x_26, hx_26, rx_26⟩ := ex_or 7 (x := v_3) (y := x_25) (b := 127) (c := 64) (rv_3) (rg_w rx_25 (by decide) (by decide)) (by decide) (by decide) (by decide) 127 (by decide)
          refine g_ior C (v := x_26) dX7_thoseOf_33 hx_26 ?_
          refine g_istore_n C dX7_thoseOf_34 rfl (by decide) (lo2 := [(3, .int x_26), (0, .ref x), (1, .ref a0), (2, .int v_2), (4, .int v_4)]) rfl ?_
          refine g_lo (is := [1, 2, 3, 0, 4]) (lo2 := [(0, .ref x), (1, .ref a0), (2, .int v_2), (3, .int x_26), (4, .int v_4)]) rfl ?_
          exact j_35 v_2 (rv_2) x_26 (rx_26) v_4 (r_15) x_13 (r_16) hx_13 hm_5
  refine g_iconst C (v := 0) dX7_thoseOf_0 (by decide) ?_
  refine g_istore_n C dX7_thoseOf_1 rfl (by decide) (lo2 := [(3, .int 0), (0, .ref x), (1, .ref a0), (2, .int a1)]) rfl ?_
  refine g_iconst C (v := 0) dX7_thoseOf_2 (by decide) ?_
  refine g_istore C dX7_thoseOf_3 (by decide) (lo2 := [(4, .int 0), (3, .int 0), (0, .ref x), (1, .ref a0), (2, .int a1)]) rfl ?_
  refine g_lo (is := [2, 3, 4, 1, 0]) (lo2 := [(0, .ref x), (1, .ref a0), (2, .int a1), (3, .int 0), (4, .int 0)]) rfl ?_
  exact l_5 8 a1 (ra1) 0 (rg_w rc_0 (by decide) (by decide)) 0 (rg_w rc_0 (by decide) (by decide)) (ms_s (a := 0) (b := 7) (N := 8) (rg_w rc_0 (by decide) (by decide)) (by decide))
set_option maxRecDepth 100000 in
set_option maxHeartbeats 8000000 in
theorem c_X7_personsIn {l : Launch} {D : va_G} {cy : Nat → ClassId} {L : List Nat} {κ ln : Nat → Nat} {R : Nat → Nat → Option Nat} {I : Nat → Nat → Int32} {J : Nat → Nat → Int64} {ow : Nat → Nat × Nat} (W9 : ∀ a ∈ L, Shp L κ ln R ow a) {x : Nat} (hLx : x ∈ L) (hkx : κ x = 7) {a0 : Nat} (hLa0 : a0 ∈ L) (hka0 : κ a0 = 1) (hU : Iv L κ R ow I) : CtI l yX7_personsIn cX7_personsIn 6 (some .int) { frames := 3, cells := 0, slots := 0, locals := 69 } D cy L κ ln R I J [.ref x, .ref a0] (fun r I2 J2 => Iv L κ R ow I2 ∧ Fq L κ ow [52300] I I2 ∧ Fq L κ ow [] J J2 ∧ Rg (-2147483648) 2147483647 r) := by
  refine CtI.of (by decide +kernel) (Nat.le_of_ble_eq_true rfl) ?_
  intro p e s m below meth c B K
  have C := B.1
  have hF : Fq L κ ow [52300] I I := fq_rf
  have hG : Fq L κ ow [] J J := fq_rf
  obtain ⟨b_1, hb_1, hb_1L, hb_1k, hb_1n, hb_1o⟩ := shp_a (W9 x hLx) hkx 3 14 40 rfl (by decide)
  obtain ⟨b_2, hb_2, hb_2L, hb_2k⟩ := shp_o (W9 a0 hLa0) hka0 0 8 rfl (by decide)
  obtain ⟨b_3, hb_3, hb_3L, hb_3k, hb_3n, hb_3o⟩ := shp_a (W9 x hLx) hkx 0 14 40 rfl (by decide)
  refine g_lo (is := [0, 1]) (lo2 := [(0, .ref x), (1, .ref a0)]) rfl ?_
  have l_13 : ∀ (n_13 : Nat) (I_4 : Nat → Nat → Int32) (J_5 : Nat → Nat → Int64) (hU_6 : Iv L κ R ow I_4) (hF_7 : Fq L κ ow [52300] I I_4) (hG_8 : Fq L κ ow [] J J_5) (v_9 : Int32) (rv_9 : Rg 0 127 v_9) (v_10 : Int32) (rv_10 : Rg (-1) 39 v_10) (v_11 : Int32) (rv_11 : Rg 0 40 v_11) (hm_12 : 40 < (v_11 : Int32).toInt + (n_13 : Int)), WG p l e { frames := 3, cells := 0, slots := 0, locals := 69 } s m ([.ref x, .ref a0] : List Value).toArray below meth c 6 0 0 (MQ below (Qi_ D cy L κ ln R (fun r I2 J2 => Iv L κ R ow I2 ∧ Fq L κ ow [52300] I I2 ∧ Fq L κ ow [] J J2 ∧ Rg (-2147483648) 2147483647 r)) ([.ref x, .ref a0] : List Value).toArray s 0 0 (Al_ L)) D cy (Al_ L) s.heap L κ ln R I_4 J_5 13 [(0, .ref x), (1, .ref a0), (2, .int v_9), (3, .int v_10), (4, .int v_11)] [] := by
    intro n_13
    induction n_13 with
    | zero =>
      intro I_4 J_5 hU_6 hF_7 hG_8 v_9 rv_9 v_10 rv_10 v_11 rv_11 hm_12
      exact ms_0 rv_11 hm_12
    | succ n_13 ih_13 =>
      intro I_4 J_5 hU_6 hF_7 hG_8 v_9 rv_9 v_10 rv_10 v_11 rv_11 hm_12
      have j_155 : ∀ (I_13 : Nat → Nat → Int32) (J_14 : Nat → Nat → Int64) (hU_15 : Iv L κ R ow I_13) (hF_16 : Fq L κ ow [52300] I I_13) (hG_17 : Fq L κ ow [] J J_14) (v_18 : Int32) (rv_18 : Rg 0 127 v_18) (v_19 : Int32) (rv_19 : Rg (-1) 39 v_19) (v_20 : Int32) (rv_20 : Rg 0 39 v_20) (v_21 : Int32) (v_22 : Int32) (rv_22 : Rg 1 40 v_22) (q_23 : I_13 x 4 = v_22) (hm_24 : 40 < (v_20 : Int32).toInt + ((n_13 + 1 : Nat) : Int)), WG p l e { frames := 3, cells := 0, slots := 0, locals := 69 } s m ([.ref x, .ref a0] : List Value).toArray below meth c 6 0 0 (MQ below (Qi_ D cy L κ ln R (fun r I2 J2 => Iv L κ R ow I2 ∧ Fq L κ ow [52300] I I2 ∧ Fq L κ ow [] J J2 ∧ Rg (-2147483648) 2147483647 r)) ([.ref x, .ref a0] : List Value).toArray s 0 0 (Al_ L)) D cy (Al_ L) s.heap L κ ln R I_13 J_14 155 [(0, .ref x), (1, .ref a0), (2, .int v_18), (3, .int v_19), (4, .int v_20), (5, .int v_21)] [] := by
        intro I_13 J_14 hU_15 hF_16 hG_17 v_18 rv_18 v_19 rv_19 v_20 rv_20 v_21 v_22 rv_22 q_23 hm_24
        obtain ⟨x_25, hx_25, rx_25, tx_25⟩ := ex_add (y := 1) 1 40 rv_20 rc_1 (by decide) (by decide) (by decide) (by decide)
        refine g_iinc C dX7_personsIn_155 (k := 4) (v := x_25) rfl hx_25 (by decide) (lo2 := [(4, .int x_25), (0, .ref x), (1, .ref a0), (2, .int v_18), (3, .int v_19), (5, .int v_21)]) rfl ?_
        refine g_goto C (tgt := 13) dX7_personsIn_158 (by decide) ?_
        refine g_lo (is := [1, 2, 3, 4, 0]) (lo2 := [(0, .ref x), (1, .ref a0), (2, .int v_18), (3, .int v_19), (4, .int x_25)]) rfl ?_
        exact ih_13 I_13 J_14 hU_15 hF_16 hG_17 v_18 (rv_18) v_19 (rv_19) x_25 (rg_w rx_25 (by decide) (by decide)) (ms_1 hm_24 (ti_k tx_25 rc_1) (by decide))
      have j_131 : ∀ (I_26 : Nat → Nat → Int32) (J_27 : Nat → Nat → Int64) (hU_28 : Iv L κ R ow I_26) (hF_29 : Fq L κ ow [52300] I I_26) (hG_30 : Fq L κ ow [] J J_27) (v_31 : Int32) (rv_31 : Rg 0 127 v_31) (v_32 : Int32) (rv_32 : Rg (-1) 39 v_32) (v_33 : Int32) (rv_33 : Rg 0 39 v_33) (v_34 : Int32) (v_35 : Int32) (rv_35 : Rg 1 40 v_35) (q_36 : I_26 x 4 = v_35) (hm_37 : 40 < (v_33 : Int32).toInt + ((n_13 + 1 : Nat) : Int)), WG p l e { frames := 3, cells := 0, slots := 0, locals := 69 } s m ([.ref x, .ref a0] : List Value).toArray below meth c 6 0 0 (MQ below (Qi_ D cy L κ ln R (fun r I2 J2 => Iv L κ R ow I2 ∧ Fq L κ ow [52300] I I2 ∧ Fq L κ ow [] J J2 ∧ Rg (-2147483648) 2147483647 r)) ([.ref x, .ref a0] : List Value).toArray s 0 0 (Al_ L)) D cy (Al_ L) s.heap L κ ln R I_26 J_27 131 [(0, .ref x), (1, .ref a0), (2, .int v_31), (3, .int v_32), (4, .int v_33), (5, .int v_34)] [] := by
        intro I_26 J_27 hU_28 hF_29 hG_30 v_31 rv_31 v_32 rv_32 v_33 rv_33 v_34 v_35 rv_35 q_36 hm_37
        refine g_iload_n C 3 dX7_personsIn_131 rfl rfl ?_
        refine g_iconst C (v := 1) dX7_personsIn_132 (by decide) ?_
        obtain ⟨x_38, hx_38, rx_38, tx_38⟩ := ex_add 0 40 rv_32 rc_1 (by decide) (by decide) (by decide) (by decide)
        refine g_iadd C (v := x_38) dX7_personsIn_133 hx_38 ?_
        refine g_bipush C (v := 40) dX7_personsIn_134 (by decide) ?_
        refine g_icmp_ge C (tgt := 155) dX7_personsIn_136 (by decide) (fun h_39 => ?_) (fun h_39 => ?_)
        · skip
          have r_40 := le_r (h_39) rc_40 rx_38
          refine g_lo (is := [0, 1, 2, 3, 4, 5]) (lo2 := [(0, .ref x), (1, .ref a0), (2, .int v_31), (3, .int v_32), (4, .int v_33), (5, .int v_34)]) rfl ?_
          exact j_155 I_26 J_27 hU_28 hF_29 hG_30 v_31 (rv_31) v_32 (rv_32) v_33 (rv_33) v_34 v_35 (rv_35) q_36 hm_37
        · skip
          have r_41 := lt_l (hi := 39) (nle h_39) rx_38 rc_40 (by decide)
          refine g_iinc C dX7_personsIn_139 (k := 3) (v := x_38) rfl hx_38 (by decide) (lo2 := [(3, .int x_38), (0, .ref x), (1, .ref a0), (2, .int v_31), (4, .int v_33), (5, .int v_34)]) rfl ?_
          refine g_aload_n C 1 dX7_personsIn_142 rfl rfl ?_
          refine g_getR C K hLx hkx f_7_21 hb_1 dX7_personsIn_143 ?_
          refine g_iload_n C 0 dX7_personsIn_146 rfl rfl ?_
          refine g_aload_n C 1 dX7_personsIn_147 rfl rfl ?_
          refine g_aload_n C 2 dX7_personsIn_148 rfl rfl ?_
          refine g_iload C 4 dX7_personsIn_149 rfl ?_
          refine g_callVI C K (c_X7_thoseOf W9 hLx hkx hLa0 hka0 v_33 (rv_33) hU_28) hLx hkx (by decide) rfl v_7_110 rfl ⟨rfl, rfl⟩ ⟨Nat.le_of_ble_eq_true rfl, Nat.le_of_ble_eq_true rfl⟩ (Nat.le_of_ble_eq_true rfl) ⟨Nat.le_of_ble_eq_true rfl, Nat.le_of_ble_eq_true rfl⟩ dX7_personsIn_151 rfl (st := [.int x_38, .ref b_1]) (fun x_42 I_43 J_44 h_45 => ?_)
          obtain ⟨rfl, rfl, rx_42⟩ := h_45
          refine h_iast C K hb_1L hb_1k (x_38.toNatClampNeg) (rfl) (ix_0 r_41 (by decide)) (ix_lt r_41 (by decide) hb_1n (by decide)) dX7_personsIn_154 (fun I_46 hI_46 => ?_)
          have hU_47 := iv_put W9 hU_28 hI_46 (ro_a hb_1k (by decide) hb_1o hkx rfl) (lo := (-2147483648)) (hi := 2147483647) (rfl) (rg_all _) rfl
          have hF_48 := fq_puta hF_29 hI_46 (ro_a hb_1k (by decide) hb_1o hkx rfl) (by decide) (by decide)
          refine g_lo (is := [1, 2, 3, 0, 4, 5]) (lo2 := [(0, .ref x), (1, .ref a0), (2, .int v_31), (3, .int x_38), (4, .int v_33), (5, .int v_34)]) rfl ?_
          exact j_155 I_46 J_27 hU_47 hF_48 hG_30 v_31 (rv_31) x_38 (rg_w r_41 (by decide) (by decide)) v_33 (rv_33) v_34 v_35 (rv_35) (kp_k (κ := κ) hI_46 (by rw [hkx, hb_1k]; decide) q_36) hm_37
      have j_96 : ∀ (I_49 : Nat → Nat → Int32) (J_50 : Nat → Nat → Int64) (hU_51 : Iv L κ R ow I_49) (hF_52 : Fq L κ ow [52300] I I_49) (hG_53 : Fq L κ ow [] J J_50) (v_54 : Int32) (rv_54 : Rg 0 127 v_54) (v_55 : Int32) (rv_55 : Rg (-1) 39 v_55) (v_56 : Int32) (rv_56 : Rg 0 39 v_56) (v_57 : Int32) (v_58 : Int32) (rv_58 : Rg 1 40 v_58) (q_59 : I_49 x 4 = v_58) (hm_60 : 40 < (v_56 : Int32).toInt + ((n_13 + 1 : Nat) : Int)), WG p l e { frames := 3, cells := 0, slots := 0, locals := 69 } s m ([.ref x, .ref a0] : List Value).toArray below meth c 6 0 0 (MQ below (Qi_ D cy L κ ln R (fun r I2 J2 => Iv L κ R ow I2 ∧ Fq L κ ow [52300] I I2 ∧ Fq L κ ow [] J J2 ∧ Rg (-2147483648) 2147483647 r)) ([.ref x, .ref a0] : List Value).toArray s 0 0 (Al_ L)) D cy (Al_ L) s.heap L κ ln R I_49 J_50 96 [(0, .ref x), (1, .ref a0), (2, .int v_54), (3, .int v_55), (4, .int v_56), (5, .int v_57)] [] := by
        intro I_49 J_50 hU_51 hF_52 hG_53 v_54 rv_54 v_55 rv_55 v_56 rv_56 v_57 v_58 rv_58 q_59 hm_60
        refine g_iload C 5 dX7_personsIn_96 rfl ?_
        refine g_bipush C (v := 18) dX7_personsIn_98 (by decide) ?_
        refine g_icmp_ne C (tgt := 131) dX7_personsIn_100 (by decide) (fun h_61 => ?_) (fun h_61 => ?_)
        · skip
          have n_62 : ¬ v_57 = 18 := h_61
          refine g_lo (is := [0, 1, 2, 3, 4, 5]) (lo2 := [(0, .ref x), (1, .ref a0), (2, .int v_54), (3, .int v_55), (4, .int v_56), (5, .int v_57)]) rfl ?_
          exact j_131 I_49 J_50 hU_51 hF_52 hG_53 v_54 (rv_54) v_55 (rv_55) v_56 (rv_56) v_57 v_58 (rv_58) q_59 hm_60
        · skip
          have r_63 := (⟨(eq_rg (h_61) rc_18).1, (eq_rg (h_61) rc_18).2⟩ : Rg 18 18 v_57)
          refine g_iload_n C 3 dX7_personsIn_103 rfl rfl ?_
          refine g_iconst C (v := 1) dX7_personsIn_104 (by decide) ?_
          refine g_icmp_lt C (tgt := 131) dX7_personsIn_105 (by decide) (fun h_64 => ?_) (fun h_64 => ?_)
          · skip
            have r_65 := lt_l (hi := 0) (h_64) rv_55 rc_1 (by decide)
            refine g_lo (is := [0, 1, 2, 3, 4, 5]) (lo2 := [(0, .ref x), (1, .ref a0), (2, .int v_54), (3, .int v_55), (4, .int v_56), (5, .int v_57)]) rfl ?_
            exact j_131 I_49 J_50 hU_51 hF_52 hG_53 v_54 (rv_54) v_55 (rg_w r_65 (by decide) (by decide)) v_56 (rv_56) v_57 v_58 (rv_58) q_59 hm_60
          · skip
            have r_66 := le_r (nlt h_64) rc_1 rv_55
            obtain ⟨x_67, hx_67, rx_67, tx_67⟩ := ex_add (y := (-1)) 0 38 r_66 rc_m1 (by decide) (by decide) (by decide) (by decide)
            refine g_iinc C dX7_personsIn_108 (k := 3) (v := x_67) rfl hx_67 (by decide) (lo2 := [(3, .int x_67), (0, .ref x), (1, .ref a0), (2, .int v_54), (4, .int v_56), (5, .int v_57)]) rfl ?_
            refine g_aload_n C 1 dX7_personsIn_111 rfl rfl ?_
            refine g_getR C K hLx hkx f_7_21 hb_1 dX7_personsIn_112 ?_
            refine g_iload_n C 0 dX7_personsIn_115 rfl rfl ?_
            refine g_dup2 C dX7_personsIn_116 rfl rfl ?_
            obtain ⟨x_68, hx_68, rx_68⟩ := ex_any (z0 := I_49 b_1 (x_67.toNatClampNeg))
            refine h_iald C K hb_1L hb_1k (v := x_68) (x_67.toNatClampNeg) (rfl) (ix_0 rx_67 (by decide)) (ix_lt rx_67 (by decide) hb_1n (by decide)) hx_68 dX7_personsIn_117 ?_
            refine g_aload_n C 1 dX7_personsIn_118 rfl rfl ?_
            refine g_getR C K hLx hkx f_7_21 hb_1 dX7_personsIn_119 ?_
            refine g_iload_n C 0 dX7_personsIn_122 rfl rfl ?_
            refine g_iconst C (v := 1) dX7_personsIn_123 (by decide) ?_
            obtain ⟨x_69, hx_69, rx_69, tx_69⟩ := ex_add 1 39 rx_67 rc_1 (by decide) (by decide) (by decide) (by decide)
            refine g_iadd C (v := x_69) dX7_personsIn_124 hx_69 ?_
            obtain ⟨x_70, hx_70, rx_70⟩ := ex_any (z0 := I_49 b_1 (x_69.toNatClampNeg))
            refine h_iald C K hb_1L hb_1k (v := x_70) (x_69.toNatClampNeg) (rfl) (ix_0 rx_69 (by decide)) (ix_lt rx_69 (by decide) hb_1n (by decide)) hx_70 dX7_personsIn_125 ?_
            obtain ⟨x_71, hx_71, rx_71⟩ := ex_any (z0 := x_68 &&& x_70)
            refine g_iand C (v := x_71) dX7_personsIn_126 hx_71 ?_
            refine h_iast C K hb_1L hb_1k (x_67.toNatClampNeg) (rfl) (ix_0 rx_67 (by decide)) (ix_lt rx_67 (by decide) hb_1n (by decide)) dX7_personsIn_127 (fun I_72 hI_72 => ?_)
            have hU_73 := iv_put W9 hU_51 hI_72 (ro_a hb_1k (by decide) hb_1o hkx rfl) (lo := (-2147483648)) (hi := 2147483647) (rfl) (rx_71) rfl
            have hF_74 := fq_puta hF_52 hI_72 (ro_a hb_1k (by decide) hb_1o hkx rfl) (by decide) (by decide)
            refine g_goto C (tgt := 155) dX7_personsIn_128 (by decide) ?_
            refine g_lo (is := [1, 2, 3, 0, 4, 5]) (lo2 := [(0, .ref x), (1, .ref a0), (2, .int v_54), (3, .int x_67), (4, .int v_56), (5, .int v_57)]) rfl ?_
            exact j_155 I_72 J_50 hU_73 hF_74 hG_53 v_54 (rv_54) x_67 (rg_w rx_67 (by decide) (by decide)) v_56 (rv_56) v_57 v_58 (rv_58) (kp_k (κ := κ) hI_72 (by rw [hkx, hb_1k]; decide) q_59) hm_60
      have j_61 : ∀ (I_75 : Nat → Nat → Int32) (J_76 : Nat → Nat → Int64) (hU_77 : Iv L κ R ow I_75) (hF_78 : Fq L κ ow [52300] I I_75) (hG_79 : Fq L κ ow [] J J_76) (v_80 : Int32) (rv_80 : Rg 0 127 v_80) (v_81 : Int32) (rv_81 : Rg (-1) 39 v_81) (v_82 : Int32) (rv_82 : Rg 0 39 v_82) (v_83 : Int32) (v_84 : Int32) (rv_84 : Rg 1 40 v_84) (q_85 : I_75 x 4 = v_84) (hm_86 : 40 < (v_82 : Int32).toInt + ((n_13 + 1 : Nat) : Int)), WG p l e { frames := 3, cells := 0, slots := 0, locals := 69 } s m ([.ref x, .ref a0] : List Value).toArray below meth c 6 0 0 (MQ below (Qi_ D cy L κ ln R (fun r I2 J2 => Iv L κ R ow I2 ∧ Fq L κ ow [52300] I I2 ∧ Fq L κ ow [] J J2 ∧ Rg (-2147483648) 2147483647 r)) ([.ref x, .ref a0] : List Value).toArray s 0 0 (Al_ L)) D cy (Al_ L) s.heap L κ ln R I_75 J_76 61 [(0, .ref x), (1, .ref a0), (2, .int v_80), (3, .int v_81), (4, .int v_82), (5, .int v_83)] [] := by
        intro I_75 J_76 hU_77 hF_78 hG_79 v_80 rv_80 v_81 rv_81 v_82 rv_82 v_83 v_84 rv_84 q_85 hm_86
        refine g_iload C 5 dX7_personsIn_61 rfl ?_
        refine g_bipush C (v := 17) dX7_personsIn_63 (by decide) ?_
        refine g_icmp_ne C (tgt := 96) dX7_personsIn_65 (by decide) (fun h_87 => ?_) (fun h_87 => ?_)
        · skip
          have n_88 : ¬ v_83 = 17 := h_87
          refine g_lo (is := [0, 1, 2, 3, 4, 5]) (lo2 := [(0, .ref x), (1, .ref a0), (2, .int v_80), (3, .int v_81), (4, .int v_82), (5, .int v_83)]) rfl ?_
          exact j_96 I_75 J_76 hU_77 hF_78 hG_79 v_80 (rv_80) v_81 (rv_81) v_82 (rv_82) v_83 v_84 (rv_84) q_85 hm_86
        · skip
          have r_89 := (⟨(eq_rg (h_87) rc_17).1, (eq_rg (h_87) rc_17).2⟩ : Rg 17 17 v_83)
          refine g_iload_n C 3 dX7_personsIn_68 rfl rfl ?_
          refine g_iconst C (v := 1) dX7_personsIn_69 (by decide) ?_
          refine g_icmp_lt C (tgt := 96) dX7_personsIn_70 (by decide) (fun h_90 => ?_) (fun h_90 => ?_)
          · skip
            have r_91 := lt_l (hi := 0) (h_90) rv_81 rc_1 (by decide)
            refine g_lo (is := [0, 1, 2, 3, 4, 5]) (lo2 := [(0, .ref x), (1, .ref a0), (2, .int v_80), (3, .int v_81), (4, .int v_82), (5, .int v_83)]) rfl ?_
            exact j_96 I_75 J_76 hU_77 hF_78 hG_79 v_80 (rv_80) v_81 (rg_w r_91 (by decide) (by decide)) v_82 (rv_82) v_83 v_84 (rv_84) q_85 hm_86
          · skip
            have r_92 := le_r (nlt h_90) rc_1 rv_81
            obtain ⟨x_93, hx_93, rx_93, tx_93⟩ := ex_add (y := (-1)) 0 38 r_92 rc_m1 (by decide) (by decide) (by decide) (by decide)
            refine g_iinc C dX7_personsIn_73 (k := 3) (v := x_93) rfl hx_93 (by decide) (lo2 := [(3, .int x_93), (0, .ref x), (1, .ref a0), (2, .int v_80), (4, .int v_82), (5, .int v_83)]) rfl ?_
            refine g_aload_n C 1 dX7_personsIn_76 rfl rfl ?_
            refine g_getR C K hLx hkx f_7_21 hb_1 dX7_personsIn_77 ?_
            refine g_iload_n C 0 dX7_personsIn_80 rfl rfl ?_
            refine g_dup2 C dX7_personsIn_81 rfl rfl ?_
            obtain ⟨x_94, hx_94, rx_94⟩ := ex_any (z0 := I_75 b_1 (x_93.toNatClampNeg))
            refine h_iald C K hb_1L hb_1k (v := x_94) (x_93.toNatClampNeg) (rfl) (ix_0 rx_93 (by decide)) (ix_lt rx_93 (by decide) hb_1n (by decide)) hx_94 dX7_personsIn_82 ?_
            refine g_aload_n C 1 dX7_personsIn_83 rfl rfl ?_
            refine g_getR C K hLx hkx f_7_21 hb_1 dX7_personsIn_84 ?_
            refine g_iload_n C 0 dX7_personsIn_87 rfl rfl ?_
            refine g_iconst C (v := 1) dX7_personsIn_88 (by decide) ?_
            obtain ⟨x_95, hx_95, rx_95, tx_95⟩ := ex_add 1 39 rx_93 rc_1 (by decide) (by decide) (by decide) (by decide)
            refine g_iadd C (v := x_95) dX7_personsIn_89 hx_95 ?_
            obtain ⟨x_96, hx_96, rx_96⟩ := ex_any (z0 := I_75 b_1 (x_95.toNatClampNeg))
            refine h_iald C K hb_1L hb_1k (v := x_96) (x_95.toNatClampNeg) (rfl) (ix_0 rx_95 (by decide)) (ix_lt rx_95 (by decide) hb_1n (by decide)) hx_96 dX7_personsIn_90 ?_
            obtain ⟨x_97, hx_97, rx_97⟩ := ex_any (z0 := x_94 ||| x_96)
            refine g_ior C (v := x_97) dX7_personsIn_91 hx_97 ?_
            refine h_iast C K hb_1L hb_1k (x_93.toNatClampNeg) (rfl) (ix_0 rx_93 (by decide)) (ix_lt rx_93 (by decide) hb_1n (by decide)) dX7_personsIn_92 (fun I_98 hI_98 => ?_)
            have hU_99 := iv_put W9 hU_77 hI_98 (ro_a hb_1k (by decide) hb_1o hkx rfl) (lo := (-2147483648)) (hi := 2147483647) (rfl) (rx_97) rfl
            have hF_100 := fq_puta hF_78 hI_98 (ro_a hb_1k (by decide) hb_1o hkx rfl) (by decide) (by decide)
            refine g_goto C (tgt := 155) dX7_personsIn_93 (by decide) ?_
            refine g_lo (is := [1, 2, 3, 0, 4, 5]) (lo2 := [(0, .ref x), (1, .ref a0), (2, .int v_80), (3, .int x_93), (4, .int v_82), (5, .int v_83)]) rfl ?_
            exact j_155 I_98 J_76 hU_99 hF_100 hG_79 v_80 (rv_80) x_93 (rg_w rx_93 (by decide) (by decide)) v_82 (rv_82) v_83 v_84 (rv_84) (kp_k (κ := κ) hI_98 (by rw [hkx, hb_1k]; decide) q_85) hm_86
      refine g_iload C 4 dX7_personsIn_13 rfl ?_
      refine g_aload_n C 0 dX7_personsIn_15 rfl rfl ?_
      obtain ⟨x_101, hx_101, rx_101⟩ := ex_get (I := I_4) (a := x) (j := 4) (lo := 0) (hi := 40) hU_6.1 hLx (ro_o hkx (by decide)) rfl
      refine g_getI C K hLx hkx f_7_24 (v := x_101) hx_101 dX7_personsIn_16 ?_
      refine g_icmp_ge C (tgt := 161) dX7_personsIn_19 (by decide) (fun h_102 => ?_) (fun h_102 => ?_)
      · skip
        refine g_iload_n C 3 dX7_personsIn_161 rfl rfl ?_
        refine g_if_lt C (tgt := 174) dX7_personsIn_162 (by decide) (fun h_103 => ?_) (fun h_103 => ?_)
        · skip
          have r_104 := lt_l (hi := (-1)) (h_103) rv_10 rc_0 (by decide)
          refine g_iconst C (v := 0) dX7_personsIn_174 (by decide) ?_
          exact g_zret (ty := .int) (r := 0) B K rfl (rfl) ⟨hU_6, hF_7, hG_8, rg_all _⟩ dX7_personsIn_175
        · skip
          have r_105 := le_r (nlt h_103) rc_0 rv_10
          refine g_aload_n C 0 dX7_personsIn_165 rfl rfl ?_
          refine g_getR C K hLx hkx f_7_21 hb_1 dX7_personsIn_166 ?_
          refine g_iload_n C 3 dX7_personsIn_169 rfl rfl ?_
          obtain ⟨x_106, hx_106, rx_106⟩ := ex_any (z0 := I_4 b_1 (v_10.toNatClampNeg))
          refine h_iald C K hb_1L hb_1k (v := x_106) (v_10.toNatClampNeg) (rfl) (ix_0 r_105 (by decide)) (ix_lt r_105 (by decide) hb_1n (by decide)) hx_106 dX7_personsIn_170 ?_
          refine g_goto C (tgt := 175) dX7_personsIn_171 (by decide) ?_
          exact g_zret (ty := .int) (r := x_106) B K rfl (rfl) ⟨hU_6, hF_7, hG_8, rx_106⟩ dX7_personsIn_175
      · skip
        have r_107 := lt_l (hi := 39) (nle h_102) rv_11 rx_101 (by decide)
        have r_108 := lt_r (lo := 1) (nle h_102) rv_11 rx_101 (by decide)
        refine g_aload_n C 0 dX7_personsIn_22 rfl rfl ?_
        refine g_getR C K hLx hkx f_7_11 hb_3 dX7_personsIn_23 ?_
        refine g_iload C 4 dX7_personsIn_26 rfl ?_
        obtain ⟨x_109, hx_109, rx_109⟩ := ex_any (z0 := I_4 b_3 (v_11.toNatClampNeg))
        refine h_iald C K hb_3L hb_3k (v := x_109) (v_11.toNatClampNeg) (rfl) (ix_0 r_107 (by decide)) (ix_lt r_107 (by decide) hb_3n (by decide)) hx_109 dX7_personsIn_28 ?_
        refine g_istore C dX7_personsIn_29 (by decide) (lo2 := [(5, .int x_109), (0, .ref x), (1, .ref a0), (2, .int v_9), (3, .int v_10), (4, .int v_11)]) rfl ?_
        refine g_iload C 0 dX7_personsIn_31 rfl ?_
        refine g_bipush C (v := 19) dX7_personsIn_33 (by decide) ?_
        refine g_icmp_ne C (tgt := 61) dX7_personsIn_35 (by decide) (fun h_110 => ?_) (fun h_110 => ?_)
        · skip
          have n_111 : ¬ x_109 = 19 := h_110
          refine g_lo (is := [1, 2, 3, 4, 5, 0]) (lo2 := [(0, .ref x), (1, .ref a0), (2, .int v_9), (3, .int v_10), (4, .int v_11), (5, .int x_109)]) rfl ?_
          exact j_61 I_4 J_5 hU_6 hF_7 hG_8 v_9 (rv_9) v_10 (rv_10) v_11 (r_107) x_109 x_101 (r_108) hx_101 hm_12
        · skip
          have r_112 := (⟨(eq_rg (h_110) rc_19).1, (eq_rg (h_110) rc_19).2⟩ : Rg 19 19 x_109)
          refine g_iload_n C 4 dX7_personsIn_38 rfl rfl ?_
          refine g_if_lt C (tgt := 61) dX7_personsIn_39 (by decide) (fun h_113 => ?_) (fun h_113 => ?_)
          · skip
            have r_114 := lt_l (hi := (-1)) (h_113) rv_10 rc_0 (by decide)
            refine g_lo (is := [1, 2, 3, 4, 5, 0]) (lo2 := [(0, .ref x), (1, .ref a0), (2, .int v_9), (3, .int v_10), (4, .int v_11), (5, .int x_109)]) rfl ?_
            exact j_61 I_4 J_5 hU_6 hF_7 hG_8 v_9 (rv_9) v_10 (rg_w r_114 (by decide) (by decide)) v_11 (r_107) x_109 x_101 (r_108) hx_101 hm_12
          · skip
            have r_115 := le_r (nlt h_113) rc_0 rv_10
            refine g_aload_n C 1 dX7_personsIn_42 rfl rfl ?_
            refine g_getR C K hLx hkx f_7_21 hb_1 dX7_personsIn_43 ?_
            refine g_iload_n C 4 dX7_personsIn_46 rfl rfl ?_
            refine g_iload_n C 3 dX7_personsIn_47 rfl rfl ?_
            refine g_aload_n C 1 dX7_personsIn_48 rfl rfl ?_
            refine g_getR C K hLx hkx f_7_21 hb_1 dX7_personsIn_49 ?_
            refine g_iload_n C 4 dX7_personsIn_52 rfl rfl ?_
            obtain ⟨x_116, hx_116, rx_116⟩ := ex_any (z0 := I_4 b_1 (v_10.toNatClampNeg))
            refine h_iald C K hb_1L hb_1k (v := x_116) (v_10.toNatClampNeg) (rfl) (ix_0 r_115 (by decide)) (ix_lt r_115 (by decide) hb_1n (by decide)) hx_116 dX7_personsIn_53 ?_
            refine g_iconst C (v := (-1)) dX7_personsIn_54 (by decide) ?_
            obtain ⟨x_117, hx_117, rx_117⟩ := ex_any (z0 := x_116 ^^^ (-1))
            refine g_ixor C (v := x_117) dX7_personsIn_55 hx_117 ?_
            obtain ⟨x_118, hx_118, rx_118⟩ := ex_andl (x := v_9) (y := x_117) (b := 127) (rv_9)
            refine g_iand C (v := x_118) dX7_personsIn_56 hx_118 ?_
            refine h_iast C K hb_1L hb_1k (v_10.toNatClampNeg) (rfl) (ix_0 r_115 (by decide)) (ix_lt r_115 (by decide) hb_1n (by decide)) dX7_personsIn_57 (fun I_119 hI_119 => ?_)
            have hU_120 := iv_put W9 hU_6 hI_119 (ro_a hb_1k (by decide) hb_1o hkx rfl) (lo := (-2147483648)) (hi := 2147483647) (rfl) (rg_all _) rfl
            have hF_121 := fq_puta hF_7 hI_119 (ro_a hb_1k (by decide) hb_1o hkx rfl) (by decide) (by decide)
            refine g_goto C (tgt := 155) dX7_personsIn_58 (by decide) ?_
            refine g_lo (is := [1, 2, 3, 4, 5, 0]) (lo2 := [(0, .ref x), (1, .ref a0), (2, .int v_9), (3, .int v_10), (4, .int v_11), (5, .int x_109)]) rfl ?_
            exact j_155 I_119 J_5 hU_120 hF_121 hG_8 v_9 (rv_9) v_10 (rg_w r_115 (by decide) (by decide)) v_11 (r_107) x_109 x_101 (r_108) (kp_k (κ := κ) hI_119 (by rw [hkx, hb_1k]; decide) hx_101) hm_12
  refine g_aload_n C 1 dX7_personsIn_0 rfl rfl ?_
  refine g_getR C K hLa0 hka0 f_7_100 hb_2 dX7_personsIn_1 ?_
  refine g_callVI C K (c_X8_everybody W9 hb_2L hb_2k   hU) hb_2L hb_2k (by decide) rfl v_7_106 rfl ⟨rfl, rfl⟩ ⟨Nat.le_of_ble_eq_true rfl, Nat.le_of_ble_eq_true rfl⟩ (Nat.le_of_ble_eq_true rfl) ⟨Nat.le_of_ble_eq_true rfl, Nat.le_of_ble_eq_true rfl⟩ dX7_personsIn_4 rfl (st := []) (fun x_122 I_123 J_124 h_125 => ?_)
  obtain ⟨rfl, rfl, rx_122⟩ := h_125
  refine g_istore_n C dX7_personsIn_7 rfl (by decide) (lo2 := [(2, .int x_122), (0, .ref x), (1, .ref a0)]) rfl ?_
  refine g_iconst C (v := (-1)) dX7_personsIn_8 (by decide) ?_
  refine g_istore_n C dX7_personsIn_9 rfl (by decide) (lo2 := [(3, .int (-1)), (2, .int x_122), (0, .ref x), (1, .ref a0)]) rfl ?_
  refine g_iconst C (v := 0) dX7_personsIn_10 (by decide) ?_
  refine g_istore C dX7_personsIn_11 (by decide) (lo2 := [(4, .int 0), (3, .int (-1)), (2, .int x_122), (0, .ref x), (1, .ref a0)]) rfl ?_
  refine g_lo (is := [3, 4, 2, 1, 0]) (lo2 := [(0, .ref x), (1, .ref a0), (2, .int x_122), (3, .int (-1)), (4, .int 0)]) rfl ?_
  exact l_13 41 I J hU hF hG x_122 (rx_122) (-1) (rg_w rc_m1 (by decide) (by decide)) 0 (rg_w rc_0 (by decide) (by decide)) (ms_s (a := 0) (b := 40) (N := 41) (rg_w rc_0 (by decide) (by decide)) (by decide))
set_option maxRecDepth 100000 in
set_option maxHeartbeats 8000000 in
theorem c_X11_said {l : Launch} {D : va_G} {cy : Nat → ClassId} {L : List Nat} {κ ln : Nat → Nat} {R : Nat → Nat → Option Nat} {I : Nat → Nat → Int32} {J : Nat → Nat → Int64} {ow : Nat → Nat × Nat} (W9 : ∀ a ∈ L, Shp L κ ln R ow a) {x : Nat} (hLx : x ∈ L) (hkx : κ x = 11) (a0 : Int32) (hU : Iv L κ R ow I) : CtI l yX11_said cX11_said 5 (some .int) { frames := 4, cells := 0, slots := 0, locals := 94 } D cy L κ ln R I J [.ref x, .int a0] (fun r I2 J2 => Iv L κ R ow I2 ∧ Fq L κ ow [52300] I I2 ∧ Fq L κ ow [] J J2 ∧ Rg (-1) 63 r) := by
  refine CtI.of (by decide +kernel) (Nat.le_of_ble_eq_true rfl) ?_
  intro p e s m below meth c B K
  have C := B.1
  have hF : Fq L κ ow [52300] I I := fq_rf
  have hG : Fq L κ ow [] J J := fq_rf
  obtain ⟨b_1, hb_1, hb_1L, hb_1k⟩ := shp_o (W9 x hLx) hkx 7 7 rfl (by decide)
  obtain ⟨b_2, hb_2, hb_2L, hb_2k⟩ := shp_o (W9 x hLx) hkx 1 8 rfl (by decide)
  obtain ⟨b_3, hb_3, hb_3L, hb_3k⟩ := shp_o (W9 x hLx) hkx 2 1 rfl (by decide)
  refine g_lo (is := [0, 1]) (lo2 := [(0, .ref x), (1, .int a0)]) rfl ?_
  have l_39 : ∀ (n_39 : Nat) (I_4 : Nat → Nat → Int32) (J_5 : Nat → Nat → Int64) (hU_6 : Iv L κ R ow I_4) (hF_7 : Fq L κ ow [52300] I I_4) (hG_8 : Fq L κ ow [] J J_5) (v_9 : Int32) (nv_9_m1 : ¬ v_9 = (-1)) (v_10 : Int32) (v_11 : Int32) (v_12 : Int32) (rv_12 : Rg 0 7 v_12) (v_13 : Int32) (nv_13_0 : ¬ v_13 = 0) (q_14 : I_4 b_1 5 = v_13) (hm_15 : 7 < (v_12 : Int32).toInt + (n_39 : Int)), WG p l e { frames := 4, cells := 0, slots := 0, locals := 94 } s m ([.ref x, .int a0] : List Value).toArray below meth c 5 0 0 (MQ below (Qi_ D cy L κ ln R (fun r I2 J2 => Iv L κ R ow I2 ∧ Fq L κ ow [52300] I I2 ∧ Fq L κ ow [] J J2 ∧ Rg (-1) 63 r)) ([.ref x, .int a0] : List Value).toArray s 0 0 (Al_ L)) D cy (Al_ L) s.heap L κ ln R I_4 J_5 39 [(0, .ref x), (1, .int v_9), (2, .int v_10), (3, .int v_11), (4, .int v_12)] [] := by
    intro n_39
    induction n_39 with
    | zero =>
      intro I_4 J_5 hU_6 hF_7 hG_8 v_9 nv_9_m1 v_10 v_11 v_12 rv_12 v_13 nv_13_0 q_14 hm_15
      exact ms_0 rv_12 hm_15
    | succ n_39 ih_39 =>
      intro I_4 J_5 hU_6 hF_7 hG_8 v_9 nv_9_m1 v_10 v_11 v_12 rv_12 v_13 nv_13_0 q_14 hm_15
      have j_71 : ∀ (I_16 : Nat → Nat → Int32) (J_17 : Nat → Nat → Int64) (hU_18 : Iv L κ R ow I_16) (hF_19 : Fq L κ ow [52300] I I_16) (hG_20 : Fq L κ ow [] J J_17) (v_21 : Int32) (nv_21_m1 : ¬ v_21 = (-1)) (v_22 : Int32) (v_23 : Int32) (v_24 : Int32) (rv_24 : Rg 0 6 v_24) (v_25 : Int32) (rv_25 : Rg 1 7 v_25) (v_26 : Int32) (nv_26_0 : ¬ v_26 = 0) (q_27 : I_16 b_2 5 = v_25) (q_28 : I_16 b_1 5 = v_26) (hm_29 : 7 < (v_24 : Int32).toInt + ((n_39 + 1 : Nat) : Int)), WG p l e { frames := 4, cells := 0, slots := 0, locals := 94 } s m ([.ref x, .int a0] : List Value).toArray below meth c 5 0 0 (MQ below (Qi_ D cy L κ ln R (fun r I2 J2 => Iv L κ R ow I2 ∧ Fq L κ ow [52300] I I2 ∧ Fq L κ ow [] J J2 ∧ Rg (-1) 63 r)) ([.ref x, .int a0] : List Value).toArray s 0 0 (Al_ L)) D cy (Al_ L) s.heap L κ ln R I_16 J_17 71 [(0, .ref x), (1, .int v_21), (2, .int v_22), (3, .int v_23), (4, .int v_24)] [] := by
        intro I_16 J_17 hU_18 hF_19 hG_20 v_21 nv_21_m1 v_22 v_23 v_24 rv_24 v_25 rv_25 v_26 nv_26_0 q_27 q_28 hm_29
        obtain ⟨x_30, hx_30, rx_30, tx_30⟩ := ex_add (y := 1) 1 7 rv_24 rc_1 (by decide) (by decide) (by decide) (by decide)
        refine g_iinc C dX11_said_71 (k := 4) (v := x_30) rfl hx_30 (by decide) (lo2 := [(4, .int x_30), (0, .ref x), (1, .int v_21), (2, .int v_22), (3, .int v_23)]) rfl ?_
        refine g_goto C (tgt := 39) dX11_said_74 (by decide) ?_
        refine g_lo (is := [1, 2, 3, 4, 0]) (lo2 := [(0, .ref x), (1, .int v_21), (2, .int v_22), (3, .int v_23), (4, .int x_30)]) rfl ?_
        exact ih_39 I_16 J_17 hU_18 hF_19 hG_20 v_21 (nv_21_m1) v_22 v_23 x_30 (rg_w rx_30 (by decide) (by decide)) v_26 (nv_26_0) q_28 (ms_1 hm_29 (ti_k tx_30 rc_1) (by decide))
      refine g_iload C 4 dX11_said_39 rfl ?_
      refine g_aload_n C 0 dX11_said_41 rfl rfl ?_
      refine g_getR C K hLx hkx f_11_19 hb_2 dX11_said_42 ?_
      obtain ⟨x_31, hx_31, rx_31⟩ := ex_get (I := I_4) (a := b_2) (j := 5) (lo := 0) (hi := 7) hU_6.1 hb_2L (ro_o hb_2k (by decide)) rfl
      refine g_getI C K hb_2L hb_2k f_11_213 (v := x_31) hx_31 dX11_said_45 ?_
      refine g_icmp_ge C (tgt := 77) dX11_said_48 (by decide) (fun h_32 => ?_) (fun h_32 => ?_)
      · skip
        refine g_iconst C (v := (-1)) dX11_said_77 (by decide) ?_
        exact g_zret (ty := .int) (r := (-1)) B K rfl (rfl) ⟨hU_6, hF_7, hG_8, rg_w rc_m1 (by decide) (by decide)⟩ dX11_said_78
      · skip
        have r_33 := lt_l (hi := 6) (nle h_32) rv_12 rx_31 (by decide)
        have r_34 := lt_r (lo := 1) (nle h_32) rv_12 rx_31 (by decide)
        refine g_iload_n C 2 dX11_said_51 rfl rfl ?_
        refine g_iload C 4 dX11_said_52 rfl ?_
        obtain ⟨x_35, hx_35, rx_35⟩ := ex_any (z0 := v_10 >>> (v_12 &&& 31))
        refine g_ishr C (v := x_35) dX11_said_54 hx_35 ?_
        refine g_iconst C (v := 1) dX11_said_55 (by decide) ?_
        obtain ⟨x_36, hx_36, rx_36⟩ := ex_andr (x := x_35) (y := 1) (b := 1) (rg_w rc_1 (by decide) (by decide))
        refine g_iand C (v := x_36) dX11_said_56 hx_36 ?_
        refine g_if_eq C (tgt := 71) dX11_said_57 (by decide) (fun h_37 => ?_) (fun h_37 => ?_)
        · skip
          have r_38 := (⟨(rx_36).1, (eq_rg (h_37) rc_0).2⟩ : Rg 0 0 x_36)
          refine g_lo (is := [0, 1, 2, 3, 4]) (lo2 := [(0, .ref x), (1, .int v_9), (2, .int v_10), (3, .int v_11), (4, .int v_12)]) rfl ?_
          exact j_71 I_4 J_5 hU_6 hF_7 hG_8 v_9 (nv_9_m1) v_10 v_11 v_12 (r_33) x_31 (r_34) v_13 (nv_13_0) hx_31 q_14 hm_15
        · skip
          have n_39 : ¬ x_36 = 0 := h_37
          have r_40 := ne_lo (lo := 1) n_39 rx_36 rc_0 rfl (by decide)
          refine g_iload_n C 3 dX11_said_60 rfl rfl ?_
          refine g_iload_n C 1 dX11_said_61 rfl rfl ?_
          refine g_icmp_ne C (tgt := 68) dX11_said_62 (by decide) (fun h_41 => ?_) (fun h_41 => ?_)
          · skip
            obtain ⟨x_42, hx_42, rx_42⟩ := ex_any (z0 := v_11 + 1)
            refine g_iinc C dX11_said_68 (k := 3) (v := x_42) rfl hx_42 (by decide) (lo2 := [(3, .int x_42), (0, .ref x), (1, .int v_9), (2, .int v_10), (4, .int v_12)]) rfl ?_
            refine g_lo (is := [1, 2, 3, 0, 4]) (lo2 := [(0, .ref x), (1, .int v_9), (2, .int v_10), (3, .int x_42), (4, .int v_12)]) rfl ?_
            exact j_71 I_4 J_5 hU_6 hF_7 hG_8 v_9 (nv_9_m1) v_10 x_42 v_12 (r_33) x_31 (r_34) v_13 (nv_13_0) hx_31 q_14 hm_15
          · skip
            refine g_iload C 4 dX11_said_65 rfl ?_
            exact g_zret (ty := .int) (r := v_12) B K rfl (rfl) ⟨hU_6, hF_7, hG_8, rg_w r_33 (by decide) (by decide)⟩ dX11_said_67
  refine g_aload_n C 0 dX11_said_0 rfl rfl ?_
  refine g_getR C K hLx hkx f_11_59 hb_1 dX11_said_1 ?_
  obtain ⟨x_43, hx_43, rx_43⟩ := ex_get (I := I) (a := b_1) (j := 5) (lo := (-2147483648)) (hi := 2147483647) hU.1 hb_1L (ro_o hb_1k (by decide)) rfl
  refine g_getI C K hb_1L hb_1k f_11_368 (v := x_43) hx_43 dX11_said_4 ?_
  refine g_if_ne C (tgt := 12) dX11_said_7 (by decide) (fun h_44 => ?_) (fun h_44 => ?_)
  · skip
    have n_45 : ¬ x_43 = 0 := h_44
    refine g_aload_n C 0 dX11_said_12 rfl rfl ?_
    refine g_getR C K hLx hkx f_11_59 hb_1 dX11_said_13 ?_
    refine g_aload_n C 0 dX11_said_16 rfl rfl ?_
    refine g_getR C K hLx hkx f_11_28 hb_3 dX11_said_17 ?_
    refine g_callVI C K (c_X7_personsIn W9 hb_1L hb_1k hb_3L hb_3k  hU) hb_1L hb_1k (by decide) rfl v_11_371 rfl ⟨rfl, rfl⟩ ⟨Nat.le_of_ble_eq_true rfl, Nat.le_of_ble_eq_true rfl⟩ (Nat.le_of_ble_eq_true rfl) ⟨Nat.le_of_ble_eq_true rfl, Nat.le_of_ble_eq_true rfl⟩ dX11_said_20 rfl (st := []) (fun x_46 I_47 J_48 h_49 => ?_)
    obtain ⟨hUI_47, hFI_47, hGJ_48, rx_46⟩ := h_49
    have hF_50 := fq_tr hF hFI_47 (by decide)
    have hG_51 := fq_tr hG hGJ_48 (by decide)
    refine g_istore_n C dX11_said_23 rfl (by decide) (lo2 := [(2, .int x_46), (0, .ref x), (1, .int a0)]) rfl ?_
    refine g_iload_n C 2 dX11_said_24 rfl rfl ?_
    refine g_iconst C (v := (-1)) dX11_said_25 (by decide) ?_
    refine g_icmp_ne C (tgt := 34) dX11_said_26 (by decide) (fun h_52 => ?_) (fun h_52 => ?_)
    · skip
      have n_53 : ¬ a0 = (-1) := h_52
      refine g_iconst C (v := 0) dX11_said_34 (by decide) ?_
      refine g_istore_n C dX11_said_35 rfl (by decide) (lo2 := [(3, .int 0), (2, .int x_46), (0, .ref x), (1, .int a0)]) rfl ?_
      refine g_iconst C (v := 0) dX11_said_36 (by decide) ?_
      refine g_istore C dX11_said_37 (by decide) (lo2 := [(4, .int 0), (3, .int 0), (2, .int x_46), (0, .ref x), (1, .int a0)]) rfl ?_
      refine g_lo (is := [3, 4, 2, 1, 0]) (lo2 := [(0, .ref x), (1, .int a0), (2, .int x_46), (3, .int 0), (4, .int 0)]) rfl ?_
      exact l_39 8 I_47 J_48 hUI_47 hF_50 hG_51 a0 (n_53) x_46 0 0 (rg_w rc_0 (by decide) (by decide)) x_43 (n_45) (fq_at hFI_47 hb_1L hb_1k (by decide) (by decide) hx_43) (ms_s (a := 0) (b := 7) (N := 8) (rg_w rc_0 (by decide) (by decide)) (by decide))
    · skip
      have r_54 := (⟨(eq_rg (h_52) rc_m1).1, (eq_rg (h_52) rc_m1).2⟩ : Rg (-1) (-1) a0)
      refine g_iload_n C 0 dX11_said_29 rfl rfl ?_
      refine g_callSI C K (c_J6_bitCount_0f7a4 W9 x_46  hUI_47) s_11_374 rfl ⟨rfl, rfl⟩ ⟨Nat.le_of_ble_eq_true rfl, Nat.le_of_ble_eq_true rfl⟩ (Nat.le_of_ble_eq_true rfl) ⟨Nat.le_of_ble_eq_true rfl, Nat.le_of_ble_eq_true rfl⟩ dX11_said_30 rfl (st := []) (fun x_55 I_56 J_57 h_58 => ?_)
      obtain ⟨rfl, rfl, rx_55, ex_55⟩ := h_58
      exact g_zret (ty := .int) (r := x_55) B K rfl (rfl) ⟨hUI_47, hF_50, hG_51, rg_w rx_55 (by decide) (by decide)⟩ dX11_said_33
  · skip
    have r_59 := (⟨(eq_rg (h_44) rc_0).1, (eq_rg (h_44) rc_0).2⟩ : Rg 0 0 x_43)
    refine g_iconst C (v := (-1)) dX11_said_10 (by decide) ?_
    exact g_zret (ty := .int) (r := (-1)) B K rfl (rfl) ⟨hU, hF, hG, rg_w rc_m1 (by decide) (by decide)⟩ dX11_said_11
