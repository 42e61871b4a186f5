theorem dX12_ask_0 : decode cX12_ask 0 = .ok (.aload_n 0, 1) := by decide +kernel
theorem dX12_ask_1 : decode cX12_ask 1 = .ok (.iconst 0, 1) := by decide +kernel
theorem dX12_ask_2 : decode cX12_ask 2 = .ok (.putfield 82, 3) := by decide +kernel
theorem dX12_ask_5 : decode cX12_ask 5 = .ok (.aload_n 0, 1) := by decide +kernel
theorem dX12_ask_6 : decode cX12_ask 6 = .ok (.getfield 58, 3) := by decide +kernel
theorem dX12_ask_9 : decode cX12_ask 9 = .ok (.ireturn, 1) := by decide +kernel
theorem dX12_eaters_0 : decode cX12_eaters 0 = .ok (.aload_n 0, 1) := by decide +kernel
theorem dX12_eaters_1 : decode cX12_eaters 1 = .ok (.iconst 0, 1) := by decide +kernel
theorem dX12_eaters_2 : decode cX12_eaters 2 = .ok (.putfield 82, 3) := by decide +kernel
theorem dX12_eaters_5 : decode cX12_eaters 5 = .ok (.aload_n 0, 1) := by decide +kernel
theorem dX12_eaters_6 : decode cX12_eaters 6 = .ok (.invokevirtual 162, 3) := by decide +kernel
theorem dX12_eaters_9 : decode cX12_eaters 9 = .ok (.iconst 2, 1) := by decide +kernel
theorem dX12_eaters_10 : decode cX12_eaters 10 = .ok (.if_icmp .ne 16, 3) := by decide +kernel
theorem dX12_eaters_13 : decode cX12_eaters 13 = .ok (.aload_n 0, 1) := by decide +kernel
theorem dX12_eaters_14 : decode cX12_eaters 14 = .ok (.aload_n 0, 1) := by decide +kernel
theorem dX12_eaters_15 : decode cX12_eaters 15 = .ok (.getfield 7, 3) := by decide +kernel
theorem dX12_eaters_18 : decode cX12_eaters 18 = .ok (.iconst 0, 1) := by decide +kernel
theorem dX12_eaters_19 : decode cX12_eaters 19 = .ok (.iaload, 1) := by decide +kernel
theorem dX12_eaters_20 : decode cX12_eaters 20 = .ok (.invokevirtual 250, 3) := by decide +kernel
theorem dX12_eaters_23 : decode cX12_eaters 23 = .ok (.ifCond .ne 5, 3) := by decide +kernel
theorem dX12_eaters_26 : decode cX12_eaters 26 = .ok (.iconst (-1), 1) := by decide +kernel
theorem dX12_eaters_27 : decode cX12_eaters 27 = .ok (.ireturn, 1) := by decide +kernel
theorem dX12_eaters_28 : decode cX12_eaters 28 = .ok (.iconst 0, 1) := by decide +kernel
theorem dX12_eaters_29 : decode cX12_eaters 29 = .ok (.istore_n 1, 1) := by decide +kernel
theorem dX12_eaters_30 : decode cX12_eaters 30 = .ok (.iconst 1, 1) := by decide +kernel
theorem dX12_eaters_31 : decode cX12_eaters 31 = .ok (.aload_n 0, 1) := by decide +kernel
theorem dX12_eaters_32 : decode cX12_eaters 32 = .ok (.getfield 13, 3) := by decide +kernel
theorem dX12_eaters_35 : decode cX12_eaters 35 = .ok (.iconst 0, 1) := by decide +kernel
theorem dX12_eaters_36 : decode cX12_eaters 36 = .ok (.iaload, 1) := by decide +kernel
theorem dX12_eaters_37 : decode cX12_eaters 37 = .ok (.ishl, 1) := by decide +kernel
theorem dX12_eaters_38 : decode cX12_eaters 38 = .ok (.iconst 1, 1) := by decide +kernel
theorem dX12_eaters_39 : decode cX12_eaters 39 = .ok (.isub, 1) := by decide +kernel
theorem dX12_eaters_40 : decode cX12_eaters 40 = .ok (.istore_n 2, 1) := by decide +kernel
theorem dX12_eaters_41 : decode cX12_eaters 41 = .ok (.iconst 0, 1) := by decide +kernel
theorem dX12_eaters_42 : decode cX12_eaters 42 = .ok (.istore_n 3, 1) := by decide +kernel
theorem dX12_eaters_43 : decode cX12_eaters 43 = .ok (.iload_n 3, 1) := by decide +kernel
theorem dX12_eaters_44 : decode cX12_eaters 44 = .ok (.bipush 7, 2) := by decide +kernel
theorem dX12_eaters_46 : decode cX12_eaters 46 = .ok (.if_icmp .ge 16, 3) := by decide +kernel
theorem dX12_eaters_49 : decode cX12_eaters 49 = .ok (.aload_n 0, 1) := by decide +kernel
theorem dX12_eaters_50 : decode cX12_eaters 50 = .ok (.getfield 51, 3) := by decide +kernel
theorem dX12_eaters_53 : decode cX12_eaters 53 = .ok (.iload_n 3, 1) := by decide +kernel
theorem dX12_eaters_54 : decode cX12_eaters 54 = .ok (.iconst 0, 1) := by decide +kernel
theorem dX12_eaters_55 : decode cX12_eaters 55 = .ok (.iastore, 1) := by decide +kernel
theorem dX12_eaters_56 : decode cX12_eaters 56 = .ok (.iinc 3 1, 3) := by decide +kernel
theorem dX12_eaters_59 : decode cX12_eaters 59 = .ok (.goto (-16), 3) := by decide +kernel
theorem dX12_eaters_62 : decode cX12_eaters 62 = .ok (.iconst 0, 1) := by decide +kernel
theorem dX12_eaters_63 : decode cX12_eaters 63 = .ok (.istore_n 3, 1) := by decide +kernel
theorem dX12_eaters_64 : decode cX12_eaters 64 = .ok (.iload_n 3, 1) := by decide +kernel
theorem dX12_eaters_65 : decode cX12_eaters 65 = .ok (.iconst 1, 1) := by decide +kernel
theorem dX12_eaters_66 : decode cX12_eaters 66 = .ok (.aload_n 0, 1) := by decide +kernel
theorem dX12_eaters_67 : decode cX12_eaters 67 = .ok (.getfield 13, 3) := by decide +kernel
theorem dX12_eaters_70 : decode cX12_eaters 70 = .ok (.iconst 0, 1) := by decide +kernel
theorem dX12_eaters_71 : decode cX12_eaters 71 = .ok (.iaload, 1) := by decide +kernel
theorem dX12_eaters_72 : decode cX12_eaters 72 = .ok (.ishl, 1) := by decide +kernel
theorem dX12_eaters_73 : decode cX12_eaters 73 = .ok (.if_icmp .ge 111, 3) := by decide +kernel
theorem dX12_eaters_76 : decode cX12_eaters 76 = .ok (.iconst 0, 1) := by decide +kernel
theorem dX12_eaters_77 : decode cX12_eaters 77 = .ok (.istore 4, 2) := by decide +kernel
theorem dX12_eaters_79 : decode cX12_eaters 79 = .ok (.iconst 0, 1) := by decide +kernel
theorem dX12_eaters_80 : decode cX12_eaters 80 = .ok (.istore 5, 2) := by decide +kernel
theorem dX12_eaters_82 : decode cX12_eaters 82 = .ok (.iload 5, 2) := by decide +kernel
theorem dX12_eaters_84 : decode cX12_eaters 84 = .ok (.bipush 7, 2) := by decide +kernel
theorem dX12_eaters_86 : decode cX12_eaters 86 = .ok (.if_icmp .ge 35, 3) := by decide +kernel
theorem dX12_eaters_89 : decode cX12_eaters 89 = .ok (.iload_n 3, 1) := by decide +kernel
theorem dX12_eaters_90 : decode cX12_eaters 90 = .ok (.iload 5, 2) := by decide +kernel
theorem dX12_eaters_92 : decode cX12_eaters 92 = .ok (.invokestatic 231, 3) := by decide +kernel
theorem dX12_eaters_95 : decode cX12_eaters 95 = .ok (.ifCond .eq 20, 3) := by decide +kernel
theorem dX12_eaters_98 : decode cX12_eaters 98 = .ok (.iload 4, 2) := by decide +kernel
theorem dX12_eaters_100 : decode cX12_eaters 100 = .ok (.aload_n 0, 1) := by decide +kernel
theorem dX12_eaters_101 : decode cX12_eaters 101 = .ok (.iload 5, 2) := by decide +kernel
theorem dX12_eaters_103 : decode cX12_eaters 103 = .ok (.aload_n 0, 1) := by decide +kernel
theorem dX12_eaters_104 : decode cX12_eaters 104 = .ok (.getfield 7, 3) := by decide +kernel
theorem dX12_eaters_107 : decode cX12_eaters 107 = .ok (.iconst 0, 1) := by decide +kernel
theorem dX12_eaters_108 : decode cX12_eaters 108 = .ok (.iaload, 1) := by decide +kernel
theorem dX12_eaters_109 : decode cX12_eaters 109 = .ok (.invokevirtual 234, 3) := by decide +kernel
theorem dX12_eaters_112 : decode cX12_eaters 112 = .ok (.iadd, 1) := by decide +kernel
theorem dX12_eaters_113 : decode cX12_eaters 113 = .ok (.istore 4, 2) := by decide +kernel
theorem dX12_eaters_115 : decode cX12_eaters 115 = .ok (.iinc 5 1, 3) := by decide +kernel
theorem dX12_eaters_118 : decode cX12_eaters 118 = .ok (.goto (-36), 3) := by decide +kernel
theorem dX12_eaters_121 : decode cX12_eaters 121 = .ok (.iload 4, 2) := by decide +kernel
theorem dX12_eaters_123 : decode cX12_eaters 123 = .ok (.aload_n 0, 1) := by decide +kernel
theorem dX12_eaters_124 : decode cX12_eaters 124 = .ok (.getfield 7, 3) := by decide +kernel
theorem dX12_eaters_127 : decode cX12_eaters 127 = .ok (.iconst 1, 1) := by decide +kernel
theorem dX12_eaters_128 : decode cX12_eaters 128 = .ok (.iaload, 1) := by decide +kernel
theorem dX12_eaters_129 : decode cX12_eaters 129 = .ok (.if_icmp .eq 6, 3) := by decide +kernel
theorem dX12_eaters_132 : decode cX12_eaters 132 = .ok (.goto 46, 3) := by decide +kernel
theorem dX12_eaters_135 : decode cX12_eaters 135 = .ok (.iinc 1 1, 3) := by decide +kernel
theorem dX12_eaters_138 : decode cX12_eaters 138 = .ok (.iload_n 2, 1) := by decide +kernel
theorem dX12_eaters_139 : decode cX12_eaters 139 = .ok (.iload_n 3, 1) := by decide +kernel
theorem dX12_eaters_140 : decode cX12_eaters 140 = .ok (.iand, 1) := by decide +kernel
theorem dX12_eaters_141 : decode cX12_eaters 141 = .ok (.istore_n 2, 1) := by decide +kernel
theorem dX12_eaters_142 : decode cX12_eaters 142 = .ok (.iconst 0, 1) := by decide +kernel
theorem dX12_eaters_143 : decode cX12_eaters 143 = .ok (.istore 5, 2) := by decide +kernel
theorem dX12_eaters_145 : decode cX12_eaters 145 = .ok (.iload 5, 2) := by decide +kernel
theorem dX12_eaters_147 : decode cX12_eaters 147 = .ok (.bipush 7, 2) := by decide +kernel
theorem dX12_eaters_149 : decode cX12_eaters 149 = .ok (.if_icmp .ge 29, 3) := by decide +kernel
theorem dX12_eaters_152 : decode cX12_eaters 152 = .ok (.iload_n 3, 1) := by decide +kernel
theorem dX12_eaters_153 : decode cX12_eaters 153 = .ok (.iload 5, 2) := by decide +kernel
theorem dX12_eaters_155 : decode cX12_eaters 155 = .ok (.invokestatic 231, 3) := by decide +kernel
theorem dX12_eaters_158 : decode cX12_eaters 158 = .ok (.ifCond .eq 14, 3) := by decide +kernel
theorem dX12_eaters_161 : decode cX12_eaters 161 = .ok (.aload_n 0, 1) := by decide +kernel
theorem dX12_eaters_162 : decode cX12_eaters 162 = .ok (.getfield 51, 3) := by decide +kernel
theorem dX12_eaters_165 : decode cX12_eaters 165 = .ok (.iload 5, 2) := by decide +kernel
theorem dX12_eaters_167 : decode cX12_eaters 167 = .ok (.dup2, 1) := by decide +kernel
theorem dX12_eaters_168 : decode cX12_eaters 168 = .ok (.iaload, 1) := by decide +kernel
theorem dX12_eaters_169 : decode cX12_eaters 169 = .ok (.iconst 1, 1) := by decide +kernel
theorem dX12_eaters_170 : decode cX12_eaters 170 = .ok (.iadd, 1) := by decide +kernel
theorem dX12_eaters_171 : decode cX12_eaters 171 = .ok (.iastore, 1) := by decide +kernel
theorem dX12_eaters_172 : decode cX12_eaters 172 = .ok (.iinc 5 1, 3) := by decide +kernel
theorem dX12_eaters_175 : decode cX12_eaters 175 = .ok (.goto (-30), 3) := by decide +kernel
theorem dX12_eaters_178 : decode cX12_eaters 178 = .ok (.iinc 3 1, 3) := by decide +kernel
theorem dX12_eaters_181 : decode cX12_eaters 181 = .ok (.goto (-117), 3) := by decide +kernel
theorem dX12_eaters_184 : decode cX12_eaters 184 = .ok (.iload_n 1, 1) := by decide +kernel
theorem dX12_eaters_185 : decode cX12_eaters 185 = .ok (.ifCond .ne 5, 3) := by decide +kernel
theorem dX12_eaters_188 : decode cX12_eaters 188 = .ok (.iconst 0, 1) := by decide +kernel
theorem dX12_eaters_189 : decode cX12_eaters 189 = .ok (.ireturn, 1) := by decide +kernel
theorem dX12_eaters_190 : decode cX12_eaters 190 = .ok (.aload_n 0, 1) := by decide +kernel
theorem dX12_eaters_191 : decode cX12_eaters 191 = .ok (.iload_n 2, 1) := by decide +kernel
theorem dX12_eaters_192 : decode cX12_eaters 192 = .ok (.putfield 54, 3) := by decide +kernel
theorem dX12_eaters_195 : decode cX12_eaters 195 = .ok (.aload_n 0, 1) := by decide +kernel
theorem dX12_eaters_196 : decode cX12_eaters 196 = .ok (.iconst (-1), 1) := by decide +kernel
theorem dX12_eaters_197 : decode cX12_eaters 197 = .ok (.putfield 58, 3) := by decide +kernel
theorem dX12_eaters_200 : decode cX12_eaters 200 = .ok (.iconst 0, 1) := by decide +kernel
theorem dX12_eaters_201 : decode cX12_eaters 201 = .ok (.istore_n 3, 1) := by decide +kernel
theorem dX12_eaters_202 : decode cX12_eaters 202 = .ok (.iload_n 3, 1) := by decide +kernel
theorem dX12_eaters_203 : decode cX12_eaters 203 = .ok (.aload_n 0, 1) := by decide +kernel
theorem dX12_eaters_204 : decode cX12_eaters 204 = .ok (.getfield 13, 3) := by decide +kernel
theorem dX12_eaters_207 : decode cX12_eaters 207 = .ok (.iconst 0, 1) := by decide +kernel
theorem dX12_eaters_208 : decode cX12_eaters 208 = .ok (.iaload, 1) := by decide +kernel
theorem dX12_eaters_209 : decode cX12_eaters 209 = .ok (.if_icmp .ge 54, 3) := by decide +kernel
theorem dX12_eaters_212 : decode cX12_eaters 212 = .ok (.aload_n 0, 1) := by decide +kernel
theorem dX12_eaters_213 : decode cX12_eaters 213 = .ok (.getfield 58, 3) := by decide +kernel
theorem dX12_eaters_216 : decode cX12_eaters 216 = .ok (.iconst (-1), 1) := by decide +kernel
theorem dX12_eaters_217 : decode cX12_eaters 217 = .ok (.if_icmp .eq 35, 3) := by decide +kernel
theorem dX12_eaters_220 : decode cX12_eaters 220 = .ok (.iconst 2, 1) := by decide +kernel
theorem dX12_eaters_221 : decode cX12_eaters 221 = .ok (.aload_n 0, 1) := by decide +kernel
theorem dX12_eaters_222 : decode cX12_eaters 222 = .ok (.getfield 51, 3) := by decide +kernel
theorem dX12_eaters_225 : decode cX12_eaters 225 = .ok (.iload_n 3, 1) := by decide +kernel
theorem dX12_eaters_226 : decode cX12_eaters 226 = .ok (.iaload, 1) := by decide +kernel
theorem dX12_eaters_227 : decode cX12_eaters 227 = .ok (.imul, 1) := by decide +kernel
theorem dX12_eaters_228 : decode cX12_eaters 228 = .ok (.iload_n 1, 1) := by decide +kernel
theorem dX12_eaters_229 : decode cX12_eaters 229 = .ok (.isub, 1) := by decide +kernel
theorem dX12_eaters_230 : decode cX12_eaters 230 = .ok (.invokestatic 318, 3) := by decide +kernel
theorem dX12_eaters_233 : decode cX12_eaters 233 = .ok (.iconst 2, 1) := by decide +kernel
theorem dX12_eaters_234 : decode cX12_eaters 234 = .ok (.aload_n 0, 1) := by decide +kernel
theorem dX12_eaters_235 : decode cX12_eaters 235 = .ok (.getfield 51, 3) := by decide +kernel
theorem dX12_eaters_238 : decode cX12_eaters 238 = .ok (.aload_n 0, 1) := by decide +kernel
theorem dX12_eaters_239 : decode cX12_eaters 239 = .ok (.getfield 58, 3) := by decide +kernel
theorem dX12_eaters_242 : decode cX12_eaters 242 = .ok (.iaload, 1) := by decide +kernel
theorem dX12_eaters_243 : decode cX12_eaters 243 = .ok (.imul, 1) := by decide +kernel
theorem dX12_eaters_244 : decode cX12_eaters 244 = .ok (.iload_n 1, 1) := by decide +kernel
theorem dX12_eaters_245 : decode cX12_eaters 245 = .ok (.isub, 1) := by decide +kernel
theorem dX12_eaters_246 : decode cX12_eaters 246 = .ok (.invokestatic 318, 3) := by decide +kernel
theorem dX12_eaters_249 : decode cX12_eaters 249 = .ok (.if_icmp .ge 8, 3) := by decide +kernel
theorem dX12_eaters_252 : decode cX12_eaters 252 = .ok (.aload_n 0, 1) := by decide +kernel
theorem dX12_eaters_253 : decode cX12_eaters 253 = .ok (.iload_n 3, 1) := by decide +kernel
theorem dX12_eaters_254 : decode cX12_eaters 254 = .ok (.putfield 58, 3) := by decide +kernel
theorem dX12_eaters_257 : decode cX12_eaters 257 = .ok (.iinc 3 1, 3) := by decide +kernel
theorem dX12_eaters_260 : decode cX12_eaters 260 = .ok (.goto (-58), 3) := by decide +kernel
theorem dX12_eaters_263 : decode cX12_eaters 263 = .ok (.iload_n 1, 1) := by decide +kernel
theorem dX12_eaters_264 : decode cX12_eaters 264 = .ok (.ireturn, 1) := by decide +kernel
theorem dX12_order_0 : decode cX12_order 0 = .ok (.aload_n 0, 1) := by decide +kernel
theorem dX12_order_1 : decode cX12_order 1 = .ok (.iconst 0, 1) := by decide +kernel
theorem dX12_order_2 : decode cX12_order 2 = .ok (.putfield 82, 3) := by decide +kernel
theorem dX12_order_5 : decode cX12_order 5 = .ok (.aload_n 0, 1) := by decide +kernel
theorem dX12_order_6 : decode cX12_order 6 = .ok (.ldc_w 308, 3) := by decide +kernel
theorem dX12_order_9 : decode cX12_order 9 = .ok (.putfield 298, 3) := by decide +kernel
theorem dX12_order_12 : decode cX12_order 12 = .ok (.aload_n 0, 1) := by decide +kernel
theorem dX12_order_13 : decode cX12_order 13 = .ok (.aload_n 0, 1) := by decide +kernel
theorem dX12_order_14 : decode cX12_order 14 = .ok (.invokevirtual 309, 3) := by decide +kernel
theorem dX12_order_17 : decode cX12_order 17 = .ok (.invokestatic 312, 3) := by decide +kernel
theorem dX12_order_20 : decode cX12_order 20 = .ok (.putfield 315, 3) := by decide +kernel
theorem dX12_order_23 : decode cX12_order 23 = .ok (.aload_n 0, 1) := by decide +kernel
theorem dX12_order_24 : decode cX12_order 24 = .ok (.iconst 0, 1) := by decide +kernel
theorem dX12_order_25 : decode cX12_order 25 = .ok (.aload_n 0, 1) := by decide +kernel
theorem dX12_order_26 : decode cX12_order 26 = .ok (.invokevirtual 309, 3) := by decide +kernel
theorem dX12_order_29 : decode cX12_order 29 = .ok (.invokevirtual 304, 3) := by decide +kernel
theorem dX12_order_32 : decode cX12_order 32 = .ok (.aload_n 0, 1) := by decide +kernel
theorem dX12_order_33 : decode cX12_order 33 = .ok (.getfield 298, 3) := by decide +kernel
theorem dX12_order_36 : decode cX12_order 36 = .ok (.ireturn, 1) := by decide +kernel
theorem dX12_orderAt_0 : decode cX12_orderAt 0 = .ok (.aload_n 0, 1) := by decide +kernel
theorem dX12_orderAt_1 : decode cX12_orderAt 1 = .ok (.iconst 0, 1) := by decide +kernel
theorem dX12_orderAt_2 : decode cX12_orderAt 2 = .ok (.putfield 82, 3) := by decide +kernel
theorem dX12_orderAt_5 : decode cX12_orderAt 5 = .ok (.iload_n 1, 1) := by decide +kernel
theorem dX12_orderAt_6 : decode cX12_orderAt 6 = .ok (.iconst 0, 1) := by decide +kernel
theorem dX12_orderAt_7 : decode cX12_orderAt 7 = .ok (.aload_n 0, 1) := by decide +kernel
theorem dX12_orderAt_8 : decode cX12_orderAt 8 = .ok (.getfield 315, 3) := by decide +kernel
theorem dX12_orderAt_11 : decode cX12_orderAt 11 = .ok (.iconst 1, 1) := by decide +kernel
theorem dX12_orderAt_12 : decode cX12_orderAt 12 = .ok (.isub, 1) := by decide +kernel
theorem dX12_orderAt_13 : decode cX12_orderAt 13 = .ok (.invokestatic 149, 3) := by decide +kernel
theorem dX12_orderAt_16 : decode cX12_orderAt 16 = .ok (.ifCond .eq 12, 3) := by decide +kernel
theorem dX12_orderAt_19 : decode cX12_orderAt 19 = .ok (.aload_n 0, 1) := by decide +kernel
theorem dX12_orderAt_20 : decode cX12_orderAt 20 = .ok (.getfield 45, 3) := by decide +kernel
theorem dX12_orderAt_23 : decode cX12_orderAt 23 = .ok (.iload_n 1, 1) := by decide +kernel
theorem dX12_orderAt_24 : decode cX12_orderAt 24 = .ok (.iaload, 1) := by decide +kernel
theorem dX12_orderAt_25 : decode cX12_orderAt 25 = .ok (.goto 4, 3) := by decide +kernel
theorem dX12_orderAt_28 : decode cX12_orderAt 28 = .ok (.iconst (-1), 1) := by decide +kernel
theorem dX12_orderAt_29 : decode cX12_orderAt 29 = .ok (.ireturn, 1) := by decide +kernel
theorem dX12_orderFrom_88 : decode cX12_orderFrom 88 = .ok (.iconst 0, 1) := by decide +kernel
theorem dX12_orderFrom_89 : decode cX12_orderFrom 89 = .ok (.istore_n 3, 1) := by decide +kernel
theorem dX12_orderFrom_90 : decode cX12_orderFrom 90 = .ok (.iload_n 3, 1) := by decide +kernel
theorem dX12_orderFrom_91 : decode cX12_orderFrom 91 = .ok (.bipush 75, 2) := by decide +kernel
theorem dX12_orderFrom_93 : decode cX12_orderFrom 93 = .ok (.if_icmp .ge 29, 3) := by decide +kernel
theorem dX12_orderFrom_96 : decode cX12_orderFrom 96 = .ok (.aload_n 0, 1) := by decide +kernel
theorem dX12_orderFrom_97 : decode cX12_orderFrom 97 = .ok (.getfield 48, 3) := by decide +kernel
theorem dX12_orderFrom_100 : decode cX12_orderFrom 100 = .ok (.bipush 75, 2) := by decide +kernel
theorem dX12_orderFrom_102 : decode cX12_orderFrom 102 = .ok (.iload_n 1, 1) := by decide +kernel
theorem dX12_orderFrom_103 : decode cX12_orderFrom 103 = .ok (.imul, 1) := by decide +kernel
theorem dX12_orderFrom_104 : decode cX12_orderFrom 104 = .ok (.iload_n 3, 1) := by decide +kernel
theorem dX12_orderFrom_105 : decode cX12_orderFrom 105 = .ok (.iadd, 1) := by decide +kernel
theorem dX12_orderFrom_106 : decode cX12_orderFrom 106 = .ok (.aload_n 0, 1) := by decide +kernel
theorem dX12_orderFrom_107 : decode cX12_orderFrom 107 = .ok (.getfield 13, 3) := by decide +kernel
theorem dX12_orderFrom_110 : decode cX12_orderFrom 110 = .ok (.bipush 72, 2) := by decide +kernel
theorem dX12_orderFrom_112 : decode cX12_orderFrom 112 = .ok (.iload_n 3, 1) := by decide +kernel
theorem dX12_orderFrom_113 : decode cX12_orderFrom 113 = .ok (.iadd, 1) := by decide +kernel
theorem dX12_orderFrom_114 : decode cX12_orderFrom 114 = .ok (.iaload, 1) := by decide +kernel
theorem dX12_orderFrom_115 : decode cX12_orderFrom 115 = .ok (.iastore, 1) := by decide +kernel
theorem dX12_orderFrom_116 : decode cX12_orderFrom 116 = .ok (.iinc 3 1, 3) := by decide +kernel
theorem dX12_orderFrom_119 : decode cX12_orderFrom 119 = .ok (.goto (-29), 3) := by decide +kernel
theorem dX12_orderFrom_122 : decode cX12_orderFrom 122 = .ok (.iconst 0, 1) := by decide +kernel
theorem dX12_orderFrom_123 : decode cX12_orderFrom 123 = .ok (.istore_n 3, 1) := by decide +kernel
theorem dX12_orderFrom_124 : decode cX12_orderFrom 124 = .ok (.iload_n 3, 1) := by decide +kernel
theorem dX12_orderFrom_125 : decode cX12_orderFrom 125 = .ok (.aload_n 0, 1) := by decide +kernel
theorem dX12_orderFrom_126 : decode cX12_orderFrom 126 = .ok (.getfield 13, 3) := by decide +kernel
theorem dX12_orderFrom_129 : decode cX12_orderFrom 129 = .ok (.iconst 0, 1) := by decide +kernel
theorem dX12_orderFrom_130 : decode cX12_orderFrom 130 = .ok (.iaload, 1) := by decide +kernel
theorem dX12_orderFrom_131 : decode cX12_orderFrom 131 = .ok (.if_icmp .ge 97, 3) := by decide +kernel
theorem dX12_orderFrom_134 : decode cX12_orderFrom 134 = .ok (.iload_n 2, 1) := by decide +kernel
theorem dX12_orderFrom_135 : decode cX12_orderFrom 135 = .ok (.iload_n 3, 1) := by decide +kernel
theorem dX12_orderFrom_136 : decode cX12_orderFrom 136 = .ok (.invokestatic 231, 3) := by decide +kernel
theorem dX12_orderFrom_139 : decode cX12_orderFrom 139 = .ok (.ifCond .ne 6, 3) := by decide +kernel
theorem dX12_orderFrom_142 : decode cX12_orderFrom 142 = .ok (.goto 80, 3) := by decide +kernel
theorem dX12_orderFrom_145 : decode cX12_orderFrom 145 = .ok (.aload_n 0, 1) := by decide +kernel
theorem dX12_orderFrom_146 : decode cX12_orderFrom 146 = .ok (.getfield 42, 3) := by decide +kernel
theorem dX12_orderFrom_149 : decode cX12_orderFrom 149 = .ok (.iload_n 1, 1) := by decide +kernel
theorem dX12_orderFrom_150 : decode cX12_orderFrom 150 = .ok (.iload_n 3, 1) := by decide +kernel
theorem dX12_orderFrom_151 : decode cX12_orderFrom 151 = .ok (.iastore, 1) := by decide +kernel
theorem dX12_orderFrom_152 : decode cX12_orderFrom 152 = .ok (.aload_n 0, 1) := by decide +kernel
theorem dX12_orderFrom_153 : decode cX12_orderFrom 153 = .ok (.iload_n 3, 1) := by decide +kernel
theorem dX12_orderFrom_154 : decode cX12_orderFrom 154 = .ok (.invokevirtual 301, 3) := by decide +kernel
theorem dX12_orderFrom_157 : decode cX12_orderFrom 157 = .ok (.aload_n 0, 1) := by decide +kernel
theorem dX12_orderFrom_158 : decode cX12_orderFrom 158 = .ok (.iload_n 3, 1) := by decide +kernel
theorem dX12_orderFrom_159 : decode cX12_orderFrom 159 = .ok (.invokevirtual 247, 3) := by decide +kernel
theorem dX12_orderFrom_162 : decode cX12_orderFrom 162 = .ok (.ifCond .le 8, 3) := by decide +kernel
theorem dX12_orderFrom_165 : decode cX12_orderFrom 165 = .ok (.aload_n 0, 1) := by decide +kernel
theorem dX12_orderFrom_166 : decode cX12_orderFrom 166 = .ok (.iload_n 3, 1) := by decide +kernel
theorem dX12_orderFrom_167 : decode cX12_orderFrom 167 = .ok (.invokevirtual 275, 3) := by decide +kernel
theorem dX12_orderFrom_170 : decode cX12_orderFrom 170 = .ok (.aload_n 0, 1) := by decide +kernel
theorem dX12_orderFrom_171 : decode cX12_orderFrom 171 = .ok (.iload_n 1, 1) := by decide +kernel
theorem dX12_orderFrom_172 : decode cX12_orderFrom 172 = .ok (.iconst 1, 1) := by decide +kernel
theorem dX12_orderFrom_173 : decode cX12_orderFrom 173 = .ok (.iadd, 1) := by decide +kernel
theorem dX12_orderFrom_174 : decode cX12_orderFrom 174 = .ok (.iload_n 2, 1) := by decide +kernel
theorem dX12_orderFrom_175 : decode cX12_orderFrom 175 = .ok (.iconst 1, 1) := by decide +kernel
theorem dX12_orderFrom_176 : decode cX12_orderFrom 176 = .ok (.iload_n 3, 1) := by decide +kernel
theorem dX12_orderFrom_177 : decode cX12_orderFrom 177 = .ok (.ishl, 1) := by decide +kernel
theorem dX12_orderFrom_178 : decode cX12_orderFrom 178 = .ok (.iconst (-1), 1) := by decide +kernel
theorem dX12_orderFrom_179 : decode cX12_orderFrom 179 = .ok (.ixor, 1) := by decide +kernel
theorem dX12_orderFrom_180 : decode cX12_orderFrom 180 = .ok (.iand, 1) := by decide +kernel
theorem dX12_orderFrom_181 : decode cX12_orderFrom 181 = .ok (.invokevirtual 304, 3) := by decide +kernel
theorem dX12_orderFrom_184 : decode cX12_orderFrom 184 = .ok (.iconst 0, 1) := by decide +kernel
theorem dX12_orderFrom_185 : decode cX12_orderFrom 185 = .ok (.istore 4, 2) := by decide +kernel
theorem dX12_orderFrom_187 : decode cX12_orderFrom 187 = .ok (.iload 4, 2) := by decide +kernel
theorem dX12_orderFrom_189 : decode cX12_orderFrom 189 = .ok (.bipush 75, 2) := by decide +kernel
theorem dX12_orderFrom_191 : decode cX12_orderFrom 191 = .ok (.if_icmp .ge 31, 3) := by decide +kernel
theorem dX12_orderFrom_194 : decode cX12_orderFrom 194 = .ok (.aload_n 0, 1) := by decide +kernel
theorem dX12_orderFrom_195 : decode cX12_orderFrom 195 = .ok (.getfield 13, 3) := by decide +kernel
theorem dX12_orderFrom_198 : decode cX12_orderFrom 198 = .ok (.bipush 72, 2) := by decide +kernel
theorem dX12_orderFrom_200 : decode cX12_orderFrom 200 = .ok (.iload 4, 2) := by decide +kernel
theorem dX12_orderFrom_202 : decode cX12_orderFrom 202 = .ok (.iadd, 1) := by decide +kernel
theorem dX12_orderFrom_203 : decode cX12_orderFrom 203 = .ok (.aload_n 0, 1) := by decide +kernel
theorem dX12_orderFrom_204 : decode cX12_orderFrom 204 = .ok (.getfield 48, 3) := by decide +kernel
theorem dX12_orderFrom_207 : decode cX12_orderFrom 207 = .ok (.bipush 75, 2) := by decide +kernel
theorem dX12_orderFrom_209 : decode cX12_orderFrom 209 = .ok (.iload_n 1, 1) := by decide +kernel
theorem dX12_orderFrom_210 : decode cX12_orderFrom 210 = .ok (.imul, 1) := by decide +kernel
theorem dX12_orderFrom_211 : decode cX12_orderFrom 211 = .ok (.iload 4, 2) := by decide +kernel
theorem dX12_orderFrom_213 : decode cX12_orderFrom 213 = .ok (.iadd, 1) := by decide +kernel
theorem dX12_orderFrom_214 : decode cX12_orderFrom 214 = .ok (.iaload, 1) := by decide +kernel
theorem dX12_orderFrom_215 : decode cX12_orderFrom 215 = .ok (.iastore, 1) := by decide +kernel
theorem dX12_orderFrom_216 : decode cX12_orderFrom 216 = .ok (.iinc 4 1, 3) := by decide +kernel
theorem dX12_orderFrom_219 : decode cX12_orderFrom 219 = .ok (.goto (-32), 3) := by decide +kernel
theorem dX12_orderFrom_222 : decode cX12_orderFrom 222 = .ok (.iinc 3 1, 3) := by decide +kernel
theorem dX12_orderFrom_225 : decode cX12_orderFrom 225 = .ok (.goto (-101), 3) := by decide +kernel
theorem dX12_orderFrom_228 : decode cX12_orderFrom 228 = .ok (.return_, 1) := by decide +kernel
theorem dX12_share_0 : decode cX12_share 0 = .ok (.aload_n 0, 1) := by decide +kernel
theorem dX12_share_1 : decode cX12_share 1 = .ok (.iconst 0, 1) := by decide +kernel
theorem dX12_share_2 : decode cX12_share 2 = .ok (.putfield 82, 3) := by decide +kernel
theorem dX12_share_5 : decode cX12_share 5 = .ok (.aload_n 0, 1) := by decide +kernel
theorem dX12_share_6 : decode cX12_share 6 = .ok (.iload_n 1, 1) := by decide +kernel
theorem dX12_share_7 : decode cX12_share 7 = .ok (.invokevirtual 250, 3) := by decide +kernel
theorem dX12_share_10 : decode cX12_share 10 = .ok (.ifCond .eq 35, 3) := by decide +kernel
theorem dX12_share_13 : decode cX12_share 13 = .ok (.iload_n 2, 1) := by decide +kernel
theorem dX12_share_14 : decode cX12_share 14 = .ok (.ifCond .lt 31, 3) := by decide +kernel
theorem dX12_share_17 : decode cX12_share 17 = .ok (.iload_n 2, 1) := by decide +kernel
theorem dX12_share_18 : decode cX12_share 18 = .ok (.iconst 1, 1) := by decide +kernel
theorem dX12_share_19 : decode cX12_share 19 = .ok (.aload_n 0, 1) := by decide +kernel
theorem dX12_share_20 : decode cX12_share 20 = .ok (.getfield 13, 3) := by decide +kernel
theorem dX12_share_23 : decode cX12_share 23 = .ok (.iconst 0, 1) := by decide +kernel
theorem dX12_share_24 : decode cX12_share 24 = .ok (.iaload, 1) := by decide +kernel
theorem dX12_share_25 : decode cX12_share 25 = .ok (.ishl, 1) := by decide +kernel
theorem dX12_share_26 : decode cX12_share 26 = .ok (.if_icmp .ge 19, 3) := by decide +kernel
theorem dX12_share_29 : decode cX12_share 29 = .ok (.aload_n 0, 1) := by decide +kernel
theorem dX12_share_30 : decode cX12_share 30 = .ok (.iload_n 3, 1) := by decide +kernel
theorem dX12_share_31 : decode cX12_share 31 = .ok (.invokevirtual 238, 3) := by decide +kernel
theorem dX12_share_34 : decode cX12_share 34 = .ok (.ifCond .eq 11, 3) := by decide +kernel
theorem dX12_share_37 : decode cX12_share 37 = .ok (.iload_n 2, 1) := by decide +kernel
theorem dX12_share_38 : decode cX12_share 38 = .ok (.iload_n 3, 1) := by decide +kernel
theorem dX12_share_39 : decode cX12_share 39 = .ok (.invokestatic 231, 3) := by decide +kernel
theorem dX12_share_42 : decode cX12_share 42 = .ok (.ifCond .ne 5, 3) := by decide +kernel
theorem dX12_share_45 : decode cX12_share 45 = .ok (.iconst (-1), 1) := by decide +kernel
theorem dX12_share_46 : decode cX12_share 46 = .ok (.ireturn, 1) := by decide +kernel
theorem dX12_share_47 : decode cX12_share 47 = .ok (.iconst 0, 1) := by decide +kernel
theorem dX12_share_48 : decode cX12_share 48 = .ok (.istore 4, 2) := by decide +kernel
theorem dX12_share_50 : decode cX12_share 50 = .ok (.iconst 0, 1) := by decide +kernel
theorem dX12_share_51 : decode cX12_share 51 = .ok (.istore 5, 2) := by decide +kernel
theorem dX12_share_53 : decode cX12_share 53 = .ok (.iload 5, 2) := by decide +kernel
theorem dX12_share_55 : decode cX12_share 55 = .ok (.bipush 7, 2) := by decide +kernel
theorem dX12_share_57 : decode cX12_share 57 = .ok (.if_icmp .ge 32, 3) := by decide +kernel
theorem dX12_share_60 : decode cX12_share 60 = .ok (.iload_n 2, 1) := by decide +kernel
theorem dX12_share_61 : decode cX12_share 61 = .ok (.iload 5, 2) := by decide +kernel
theorem dX12_share_63 : decode cX12_share 63 = .ok (.invokestatic 231, 3) := by decide +kernel
theorem dX12_share_66 : decode cX12_share 66 = .ok (.ifCond .eq 17, 3) := by decide +kernel
theorem dX12_share_69 : decode cX12_share 69 = .ok (.iload 4, 2) := by decide +kernel
theorem dX12_share_71 : decode cX12_share 71 = .ok (.aload_n 0, 1) := by decide +kernel
theorem dX12_share_72 : decode cX12_share 72 = .ok (.getfield 13, 3) := by decide +kernel
theorem dX12_share_75 : decode cX12_share 75 = .ok (.iconst 4, 1) := by decide +kernel
theorem dX12_share_76 : decode cX12_share 76 = .ok (.iload 5, 2) := by decide +kernel
theorem dX12_share_78 : decode cX12_share 78 = .ok (.iadd, 1) := by decide +kernel
theorem dX12_share_79 : decode cX12_share 79 = .ok (.iaload, 1) := by decide +kernel
theorem dX12_share_80 : decode cX12_share 80 = .ok (.iadd, 1) := by decide +kernel
theorem dX12_share_81 : decode cX12_share 81 = .ok (.istore 4, 2) := by decide +kernel
theorem dX12_share_83 : decode cX12_share 83 = .ok (.iinc 5 1, 3) := by decide +kernel
theorem dX12_share_86 : decode cX12_share 86 = .ok (.goto (-33), 3) := by decide +kernel
theorem dX12_share_89 : decode cX12_share 89 = .ok (.iload 4, 2) := by decide +kernel
theorem dX12_share_91 : decode cX12_share 91 = .ok (.ifCond .ne 5, 3) := by decide +kernel
theorem dX12_share_94 : decode cX12_share 94 = .ok (.iconst 0, 1) := by decide +kernel
theorem dX12_share_95 : decode cX12_share 95 = .ok (.ireturn, 1) := by decide +kernel
theorem dX12_share_96 : decode cX12_share 96 = .ok (.aload_n 0, 1) := by decide +kernel
theorem dX12_share_97 : decode cX12_share 97 = .ok (.getfield 13, 3) := by decide +kernel
theorem dX12_share_100 : decode cX12_share 100 = .ok (.bipush 78, 2) := by decide +kernel
theorem dX12_share_102 : decode cX12_share 102 = .ok (.iload_n 1, 1) := by decide +kernel
theorem dX12_share_103 : decode cX12_share 103 = .ok (.iadd, 1) := by decide +kernel
theorem dX12_share_104 : decode cX12_share 104 = .ok (.iaload, 1) := by decide +kernel
theorem dX12_share_105 : decode cX12_share 105 = .ok (.istore 5, 2) := by decide +kernel
theorem dX12_share_107 : decode cX12_share 107 = .ok (.iload 5, 2) := by decide +kernel
theorem dX12_share_109 : decode cX12_share 109 = .ok (.istore 6, 2) := by decide +kernel
theorem dX12_share_111 : decode cX12_share 111 = .ok (.iconst 0, 1) := by decide +kernel
theorem dX12_share_112 : decode cX12_share 112 = .ok (.istore 7, 2) := by decide +kernel
theorem dX12_share_114 : decode cX12_share 114 = .ok (.iload 5, 2) := by decide +kernel
theorem dX12_share_116 : decode cX12_share 116 = .ok (.aload_n 0, 1) := by decide +kernel
theorem dX12_share_117 : decode cX12_share 117 = .ok (.getfield 13, 3) := by decide +kernel
theorem dX12_share_120 : decode cX12_share 120 = .ok (.iconst 4, 1) := by decide +kernel
theorem dX12_share_121 : decode cX12_share 121 = .ok (.iload_n 3, 1) := by decide +kernel
theorem dX12_share_122 : decode cX12_share 122 = .ok (.iadd, 1) := by decide +kernel
theorem dX12_share_123 : decode cX12_share 123 = .ok (.iaload, 1) := by decide +kernel
theorem dX12_share_124 : decode cX12_share 124 = .ok (.imul, 1) := by decide +kernel
theorem dX12_share_125 : decode cX12_share 125 = .ok (.iload 4, 2) := by decide +kernel
theorem dX12_share_127 : decode cX12_share 127 = .ok (.irem, 1) := by decide +kernel
theorem dX12_share_128 : decode cX12_share 128 = .ok (.istore 8, 2) := by decide +kernel
theorem dX12_share_130 : decode cX12_share 130 = .ok (.iconst 0, 1) := by decide +kernel
theorem dX12_share_131 : decode cX12_share 131 = .ok (.istore 9, 2) := by decide +kernel
theorem dX12_share_133 : decode cX12_share 133 = .ok (.iload 9, 2) := by decide +kernel
theorem dX12_share_135 : decode cX12_share 135 = .ok (.bipush 7, 2) := by decide +kernel
theorem dX12_share_137 : decode cX12_share 137 = .ok (.if_icmp .ge 81, 3) := by decide +kernel
theorem dX12_share_140 : decode cX12_share 140 = .ok (.iload_n 2, 1) := by decide +kernel
theorem dX12_share_141 : decode cX12_share 141 = .ok (.iload 9, 2) := by decide +kernel
theorem dX12_share_143 : decode cX12_share 143 = .ok (.invokestatic 231, 3) := by decide +kernel
theorem dX12_share_146 : decode cX12_share 146 = .ok (.ifCond .ne 6, 3) := by decide +kernel
theorem dX12_share_149 : decode cX12_share 149 = .ok (.goto 63, 3) := by decide +kernel
theorem dX12_share_152 : decode cX12_share 152 = .ok (.iload 5, 2) := by decide +kernel
theorem dX12_share_154 : decode cX12_share 154 = .ok (.aload_n 0, 1) := by decide +kernel
theorem dX12_share_155 : decode cX12_share 155 = .ok (.getfield 13, 3) := by decide +kernel
theorem dX12_share_158 : decode cX12_share 158 = .ok (.iconst 4, 1) := by decide +kernel
theorem dX12_share_159 : decode cX12_share 159 = .ok (.iload 9, 2) := by decide +kernel
theorem dX12_share_161 : decode cX12_share 161 = .ok (.iadd, 1) := by decide +kernel
theorem dX12_share_162 : decode cX12_share 162 = .ok (.iaload, 1) := by decide +kernel
theorem dX12_share_163 : decode cX12_share 163 = .ok (.imul, 1) := by decide +kernel
theorem dX12_share_164 : decode cX12_share 164 = .ok (.iload 4, 2) := by decide +kernel
theorem dX12_share_166 : decode cX12_share 166 = .ok (.irem, 1) := by decide +kernel
theorem dX12_share_167 : decode cX12_share 167 = .ok (.istore 10, 2) := by decide +kernel
theorem dX12_share_169 : decode cX12_share 169 = .ok (.iload 6, 2) := by decide +kernel
theorem dX12_share_171 : decode cX12_share 171 = .ok (.iload 5, 2) := by decide +kernel
theorem dX12_share_173 : decode cX12_share 173 = .ok (.aload_n 0, 1) := by decide +kernel
theorem dX12_share_174 : decode cX12_share 174 = .ok (.getfield 13, 3) := by decide +kernel
theorem dX12_share_177 : decode cX12_share 177 = .ok (.iconst 4, 1) := by decide +kernel
theorem dX12_share_178 : decode cX12_share 178 = .ok (.iload 9, 2) := by decide +kernel
theorem dX12_share_180 : decode cX12_share 180 = .ok (.iadd, 1) := by decide +kernel
theorem dX12_share_181 : decode cX12_share 181 = .ok (.iaload, 1) := by decide +kernel
theorem dX12_share_182 : decode cX12_share 182 = .ok (.imul, 1) := by decide +kernel
theorem dX12_share_183 : decode cX12_share 183 = .ok (.iload 4, 2) := by decide +kernel
theorem dX12_share_185 : decode cX12_share 185 = .ok (.idiv, 1) := by decide +kernel
theorem dX12_share_186 : decode cX12_share 186 = .ok (.isub, 1) := by decide +kernel
theorem dX12_share_187 : decode cX12_share 187 = .ok (.istore 6, 2) := by decide +kernel
theorem dX12_share_189 : decode cX12_share 189 = .ok (.iload 10, 2) := by decide +kernel
theorem dX12_share_191 : decode cX12_share 191 = .ok (.iload 8, 2) := by decide +kernel
theorem dX12_share_193 : decode cX12_share 193 = .ok (.if_icmp .gt 16, 3) := by decide +kernel
theorem dX12_share_196 : decode cX12_share 196 = .ok (.iload 10, 2) := by decide +kernel
theorem dX12_share_198 : decode cX12_share 198 = .ok (.iload 8, 2) := by decide +kernel
theorem dX12_share_200 : decode cX12_share 200 = .ok (.if_icmp .ne 12, 3) := by decide +kernel
theorem dX12_share_203 : decode cX12_share 203 = .ok (.iload 9, 2) := by decide +kernel
theorem dX12_share_205 : decode cX12_share 205 = .ok (.iload_n 3, 1) := by decide +kernel
theorem dX12_share_206 : decode cX12_share 206 = .ok (.if_icmp .ge 6, 3) := by decide +kernel
theorem dX12_share_209 : decode cX12_share 209 = .ok (.iinc 7 1, 3) := by decide +kernel
theorem dX12_share_212 : decode cX12_share 212 = .ok (.iinc 9 1, 3) := by decide +kernel
theorem dX12_share_215 : decode cX12_share 215 = .ok (.goto (-82), 3) := by decide +kernel
theorem dX12_share_218 : decode cX12_share 218 = .ok (.iload 5, 2) := by decide +kernel
theorem dX12_share_220 : decode cX12_share 220 = .ok (.aload_n 0, 1) := by decide +kernel
theorem dX12_share_221 : decode cX12_share 221 = .ok (.getfield 13, 3) := by decide +kernel
theorem dX12_share_224 : decode cX12_share 224 = .ok (.iconst 4, 1) := by decide +kernel
theorem dX12_share_225 : decode cX12_share 225 = .ok (.iload_n 3, 1) := by decide +kernel
theorem dX12_share_226 : decode cX12_share 226 = .ok (.iadd, 1) := by decide +kernel
theorem dX12_share_227 : decode cX12_share 227 = .ok (.iaload, 1) := by decide +kernel
theorem dX12_share_228 : decode cX12_share 228 = .ok (.imul, 1) := by decide +kernel
theorem dX12_share_229 : decode cX12_share 229 = .ok (.iload 4, 2) := by decide +kernel
theorem dX12_share_231 : decode cX12_share 231 = .ok (.idiv, 1) := by decide +kernel
theorem dX12_share_232 : decode cX12_share 232 = .ok (.iload 7, 2) := by decide +kernel
theorem dX12_share_234 : decode cX12_share 234 = .ok (.iload 6, 2) := by decide +kernel
theorem dX12_share_236 : decode cX12_share 236 = .ok (.if_icmp .ge 7, 3) := by decide +kernel
theorem dX12_share_239 : decode cX12_share 239 = .ok (.iconst 1, 1) := by decide +kernel
theorem dX12_share_240 : decode cX12_share 240 = .ok (.goto 4, 3) := by decide +kernel
theorem dX12_share_243 : decode cX12_share 243 = .ok (.iconst 0, 1) := by decide +kernel
theorem dX12_share_244 : decode cX12_share 244 = .ok (.iadd, 1) := by decide +kernel
theorem dX12_share_245 : decode cX12_share 245 = .ok (.ireturn, 1) := by decide +kernel
theorem dX12_size_0 : decode cX12_size 0 = .ok (.iload_n 0, 1) := by decide +kernel
theorem dX12_size_1 : decode cX12_size 1 = .ok (.ifCond .ge 8, 3) := by decide +kernel
theorem dX12_size_4 : decode cX12_size 4 = .ok (.iload_n 0, 1) := by decide +kernel
theorem dX12_size_5 : decode cX12_size 5 = .ok (.ineg, 1) := by decide +kernel
theorem dX12_size_6 : decode cX12_size 6 = .ok (.goto 4, 3) := by decide +kernel
theorem dX12_size_9 : decode cX12_size 9 = .ok (.iload_n 0, 1) := by decide +kernel
theorem dX12_size_10 : decode cX12_size 10 = .ok (.ireturn, 1) := by decide +kernel
theorem dX12_surely_0 : decode cX12_surely 0 = .ok (.aload_n 0, 1) := by decide +kernel
theorem dX12_surely_1 : decode cX12_surely 1 = .ok (.iconst 0, 1) := by decide +kernel
theorem dX12_surely_2 : decode cX12_surely 2 = .ok (.putfield 82, 3) := by decide +kernel
theorem dX12_surely_5 : decode cX12_surely 5 = .ok (.aload_n 0, 1) := by decide +kernel
theorem dX12_surely_6 : decode cX12_surely 6 = .ok (.getfield 54, 3) := by decide +kernel
theorem dX12_surely_9 : decode cX12_surely 9 = .ok (.ireturn, 1) := by decide +kernel
theorem rc_1000000 : Rg 1000000 1000000 1000000 := ⟨by decide, by decide⟩
set_option maxRecDepth 100000 in
set_option maxHeartbeats 8000000 in
theorem c_X12_orderFrom_6 {l : Launch} {D : va_G} {cy : Nat → ClassId} {L : List Nat} {κ ln : Nat → Nat} {R : Nat → Nat → Option Nat} {I : Nat → Nat → Int32} {J : Nat → Nat → Int64} {ow : Nat → Nat × Nat} (W9 : ∀ a ∈ L, Shp L κ ln R ow a) {x : Nat} (hLx : x ∈ L) (hkx : κ x = 12) (a0 : Int32) (a1 : Int32) (ra0 : Rg 6 6 a0) (ra1 : Rg 0 127 a1) (hU : Iw L κ R ow I) (hbc : (bc_ a1).toInt ≤ 1) : CtV l yX12_orderFrom cX12_orderFrom 5 none { frames := 4, cells := 0, slots := 0, locals := 96 } D cy L κ ln R I J [.ref x, .int a0, .int a1] (fun I2 J2 => Iw L κ R ow I2 ∧ Fq L κ ow [1230, 83400, 84600, 84700, 84800] I I2 ∧ Fq L κ ow [] J J2 ∧ (Hd_ R x I I2) ∧ (Hl_ R x I I2 450)) := by
  refine CtV.of (by decide +kernel) (Nat.le_of_ble_eq_true rfl) ?_
  intro p e s m below meth c B K
  have C := B.1
  have hF : Fq L κ ow [1230, 83400, 84600, 84700, 84800] I I := fq_rf
  have hG : Fq L κ ow [] J J := fq_rf
  obtain ⟨b_1, hb_1, hb_1L, hb_1k, hb_1n, hb_1o⟩ := shp_a (W9 x hLx) hkx 28 14 525 rfl (by decide)
  obtain ⟨b_2, hb_2, hb_2L, hb_2k, hb_2n, hb_2o⟩ := shp_a (W9 x hLx) hkx 27 14 7 rfl (by decide)
  obtain ⟨b_3, hb_3, hb_3L, hb_3k, hb_3n, hb_3o⟩ := shp_a (W9 x hLx) hkx 26 14 7 rfl (by decide)
  obtain ⟨b_4, hb_4, hb_4L, hb_4k, hb_4n, hb_4o⟩ := shp_a (W9 x hLx) hkx 14 14 389 rfl (by decide)
  have ea0 : a0.toNatClampNeg = 6 := by have q1 := ix_n ra0 (by decide); have q2 := ra0.1; have q3 := ra0.2; omega
  refine g_lo (is := [0, 1, 2]) (lo2 := [(0, .ref x), (1, .int a0), (2, .int a1)]) rfl ?_
  have l_61 : ∀ (n_61 : Nat) (I_5 : Nat → Nat → Int32) (J_6 : Nat → Nat → Int64) (hU_7 : Iw L κ R ow I_5) (hF_8 : Fq L κ ow [1230, 83400, 84600, 84700, 84800] I I_5) (hG_9 : Fq L κ ow [] J J_6) (r_10 : Rg 0 0 a1) (v_11 : Int32) (v_12 : Int32) (rv_12 : Rg 0 6 v_12) (q_13 : I_5 x 30 = v_11) (hd_14 : Hd_ R x I I_5) (hl_15 : Hl_ R x I I_5 450) (hm_16 : 6 < (v_12 : Int32).toInt + (n_61 : Int)), WG p l e { frames := 4, cells := 0, slots := 0, locals := 96 } s m ([.ref x, .int a0, .int a1] : List Value).toArray below meth c 5 0 0 (MQ below (Qv_ D cy L κ ln R (fun I2 J2 => Iw L κ R ow I2 ∧ Fq L κ ow [1230, 83400, 84600, 84700, 84800] I I2 ∧ Fq L κ ow [] J J2 ∧ (Hd_ R x I I2) ∧ (Hl_ R x I I2 450))) ([.ref x, .int a0, .int a1] : List Value).toArray s 0 0 (Al_ L)) D cy (Al_ L) s.heap L κ ln R I_5 J_6 61 [(0, .ref x), (1, .int a0), (2, .int a1), (3, .int v_11), (4, .int v_12)] [] := by
    intro n_61
    induction n_61 with
    | zero =>
      intro I_5 J_6 hU_7 hF_8 hG_9 r_10 v_11 v_12 rv_12 q_13 hd_14 hl_15 hm_16
      exact ms_0 rv_12 hm_16
    | succ n_61 ih_61 =>
      intro I_5 J_6 hU_7 hF_8 hG_9 r_10 v_11 v_12 rv_12 q_13 hd_14 hl_15 hm_16
      refine g_iload C 4 dX12_orderFrom_61 rfl ?_
      refine g_iload_n C 1 dX12_orderFrom_63 rfl rfl ?_
      refine g_icmp_ge C (tgt := 87) dX12_orderFrom_64 (by decide) (fun h_17 => ?_) (fun h_17 => ?_)
      · skip
        have r_18 := le_r (h_17) ra0 rv_12
        exact g_vret B K rfl ⟨hU_7, hF_8, hG_9, hd_14, hl_15⟩ dX12_orderFrom_87
      · skip
        have r_19 := lt_l (hi := 5) (nle h_17) rv_12 ra0 (by decide)
        refine g_aload_n C 0 dX12_orderFrom_67 rfl rfl ?_
        refine g_getR C K hLx hkx f_12_45 hb_2 dX12_orderFrom_68 ?_
        refine g_iload C 4 dX12_orderFrom_71 rfl ?_
        refine g_aload_n C 0 dX12_orderFrom_73 rfl rfl ?_
        refine g_getR C K hLx hkx f_12_42 hb_3 dX12_orderFrom_74 ?_
        refine g_iload C 4 dX12_orderFrom_77 rfl ?_
        obtain ⟨x_20, hx_20, rx_20⟩ := ex_any (z0 := I_5 b_3 (v_12.toNatClampNeg))
        refine h_iald C K hb_3L hb_3k (v := x_20) (v_12.toNatClampNeg) (rfl) (ix_0 r_19 (by decide)) (ix_lt r_19 (by decide) hb_3n (by decide)) hx_20 dX12_orderFrom_79 ?_
        refine h_iast C K hb_2L hb_2k (v_12.toNatClampNeg) (rfl) (ix_0 r_19 (by decide)) (ix_lt r_19 (by decide) hb_2n (by decide)) dX12_orderFrom_80 (fun I_21 hI_21 => ?_)
        have hU_22 := iw_put W9 hU_7 hI_21 (ro_a hb_2k (by decide) hb_2o hkx rfl) (lo := (-2147483648)) (hi := 2147483647) (rfl) (rx_20) rfl
        have hF_23 := fq_puta hF_8 hI_21 (ro_a hb_2k (by decide) hb_2o hkx rfl) (by decide) (by decide)
        obtain ⟨x_24, hx_24, rx_24, tx_24⟩ := ex_add (y := 1) 1 6 r_19 rc_1 (by decide) (by decide) (by decide) (by decide)
        refine g_iinc C dX12_orderFrom_81 (k := 4) (v := x_24) rfl hx_24 (by decide) (lo2 := [(4, .int x_24), (0, .ref x), (1, .int a0), (2, .int a1), (3, .int v_11)]) rfl ?_
        refine g_goto C (tgt := 61) dX12_orderFrom_84 (by decide) ?_
        refine g_lo (is := [1, 2, 3, 4, 0]) (lo2 := [(0, .ref x), (1, .int a0), (2, .int a1), (3, .int v_11), (4, .int x_24)]) rfl ?_
        exact ih_61 I_21 J_6 hU_22 hF_23 hG_9 (r_10) v_11 x_24 (rg_w rx_24 (by decide) (by decide)) (kp_k (κ := κ) hI_21 (by rw [hkx, hb_2k]; decide) q_13) (hd_u W9 hLx hkx hd_14 hI_21 (Or.inr (Or.inl ⟨(ro_a hb_2k (by decide) hb_2o hkx rfl), by decide⟩))) (hl_u W9 hLx hkx hl_15 hI_21 ⟨(ro_a hb_2k (by decide) hb_2o hkx rfl), by decide⟩) (ms_1 hm_16 (ti_k tx_24 rc_1) (by decide))
  have l_9 : ∀ (n_9 : Nat) (I_25 : Nat → Nat → Int32) (J_26 : Nat → Nat → Int64) (hU_27 : Iw L κ R ow I_25) (hF_28 : Fq L κ ow [1230, 83400, 84600, 84700, 84800] I I_25) (hG_29 : Fq L κ ow [] J J_26) (r_30 : Rg 0 0 a1) (v_31 : Int32) (v_32 : Int32) (rv_32 : Rg 0 7 v_32) (hd_33 : Hd_ R x I I_25) (hl_34 : Hl_ R x I I_25 450) (hm_35 : 7 < (v_32 : Int32).toInt + (n_9 : Int)), WG p l e { frames := 4, cells := 0, slots := 0, locals := 96 } s m ([.ref x, .int a0, .int a1] : List Value).toArray below meth c 5 0 0 (MQ below (Qv_ D cy L κ ln R (fun I2 J2 => Iw L κ R ow I2 ∧ Fq L κ ow [1230, 83400, 84600, 84700, 84800] I I2 ∧ Fq L κ ow [] J J2 ∧ (Hd_ R x I I2) ∧ (Hl_ R x I I2 450))) ([.ref x, .int a0, .int a1] : List Value).toArray s 0 0 (Al_ L)) D cy (Al_ L) s.heap L κ ln R I_25 J_26 9 [(0, .ref x), (1, .int a0), (2, .int a1), (3, .int v_31), (4, .int v_32)] [] := by
    intro n_9
    induction n_9 with
    | zero =>
      intro I_25 J_26 hU_27 hF_28 hG_29 r_30 v_31 v_32 rv_32 hd_33 hl_34 hm_35
      exact ms_0 rv_32 hm_35
    | succ n_9 ih_9 =>
      intro I_25 J_26 hU_27 hF_28 hG_29 r_30 v_31 v_32 rv_32 hd_33 hl_34 hm_35
      have j_38 : ∀ (I_36 : Nat → Nat → Int32) (J_37 : Nat → Nat → Int64) (hU_38 : Iw L κ R ow I_36) (hF_39 : Fq L κ ow [1230, 83400, 84600, 84700, 84800] I I_36) (hG_40 : Fq L κ ow [] J J_37) (r_41 : Rg 0 0 a1) (v_42 : Int32) (v_43 : Int32) (rv_43 : Rg 0 6 v_43) (hm_44 : 7 < (v_43 : Int32).toInt + ((n_9 + 1 : Nat) : Int)) (hd_45 : Hd_ R x I I_36) (hl_46 : Hl_ R x I I_36 450), WG p l e { frames := 4, cells := 0, slots := 0, locals := 96 } s m ([.ref x, .int a0, .int a1] : List Value).toArray below meth c 5 0 0 (MQ below (Qv_ D cy L κ ln R (fun I2 J2 => Iw L κ R ow I2 ∧ Fq L κ ow [1230, 83400, 84600, 84700, 84800] I I2 ∧ Fq L κ ow [] J J2 ∧ (Hd_ R x I I2) ∧ (Hl_ R x I I2 450))) ([.ref x, .int a0, .int a1] : List Value).toArray s 0 0 (Al_ L)) D cy (Al_ L) s.heap L κ ln R I_36 J_37 38 [(0, .ref x), (1, .int a0), (2, .int a1), (3, .int v_42), (4, .int v_43)] [] := by
        intro I_36 J_37 hU_38 hF_39 hG_40 r_41 v_42 v_43 rv_43 hm_44 hd_45 hl_46
        obtain ⟨x_47, hx_47, rx_47, tx_47⟩ := ex_add (y := 1) 1 7 rv_43 rc_1 (by decide) (by decide) (by decide) (by decide)
        refine g_iinc C dX12_orderFrom_38 (k := 4) (v := x_47) rfl hx_47 (by decide) (lo2 := [(4, .int x_47), (0, .ref x), (1, .int a0), (2, .int a1), (3, .int v_42)]) rfl ?_
        refine g_goto C (tgt := 9) dX12_orderFrom_41 (by decide) ?_
        refine g_lo (is := [1, 2, 3, 4, 0]) (lo2 := [(0, .ref x), (1, .int a0), (2, .int a1), (3, .int v_42), (4, .int x_47)]) rfl ?_
        exact ih_9 I_36 J_37 hU_38 hF_39 hG_40 (r_41) v_42 x_47 (rg_w rx_47 (by decide) (by decide)) hd_45 hl_46 (ms_1 hm_44 (ti_k tx_47 rc_1) (by decide))
      refine g_iload C 4 dX12_orderFrom_9 rfl ?_
      refine g_aload_n C 0 dX12_orderFrom_11 rfl rfl ?_
      refine g_getR C K hLx hkx f_12_13 hb_4 dX12_orderFrom_12 ?_
      refine g_iconst C (v := 0) dX12_orderFrom_15 (by decide) ?_
      obtain ⟨x_48, hx_48, rx_48⟩ := ex_getw (I := I_25) (a := b_4) (j := 0) (lo := 0) (hi := 7) hU_27.1 hb_4L (ro_a hb_4k (by decide) hb_4o hkx rfl) (by decide)
      refine h_iald C K hb_4L hb_4k (v := x_48) (0) (by decide) (by decide) (by rw [hb_4n]; decide) hx_48 dX12_orderFrom_16 ?_
      refine g_icmp_ge C (tgt := 44) dX12_orderFrom_17 (by decide) (fun h_49 => ?_) (fun h_49 => ?_)
      · skip
        refine g_iload_n C 3 dX12_orderFrom_44 rfl rfl ?_
        refine g_aload_n C 0 dX12_orderFrom_45 rfl rfl ?_
        obtain ⟨x_50, hx_50, rx_50⟩ := ex_getw (I := I_25) (a := x) (j := 30) (lo := (-2147483648)) (hi := 2147483647) hU_27.1 hLx (ro_o hkx (by decide)) rfl
        refine g_getI C K hLx hkx f_12_298 (v := x_50) hx_50 dX12_orderFrom_46 ?_
        refine g_icmp_lt C (tgt := 53) dX12_orderFrom_49 (by decide) (fun h_51 => ?_) (fun h_51 => ?_)
        · skip
          have r_52 := lt_l (hi := 2147483646) (h_51) (rg_all v_31) rx_50 (by decide)
          have r_53 := lt_r (lo := (-2147483647)) (h_51) (rg_all v_31) rx_50 (by decide)
          refine g_aload_n C 0 dX12_orderFrom_53 rfl rfl ?_
          refine g_iload_n C 3 dX12_orderFrom_54 rfl rfl ?_
          refine h_putI C K hLx hkx f_12_298 p_12_30 dX12_orderFrom_55 (fun I_54 hI_54 => ?_)
          have hU_55 := iw_put W9 hU_27 hI_54 (ro_o hkx (by decide)) (lo := (-2147483648)) (hi := 2147483647) (rfl) (rg_all _) rfl
          have hF_56 := fq_puto hF_28 hI_54 hkx (by decide) (by decide)
          refine g_iconst C (v := 0) dX12_orderFrom_58 (by decide) ?_
          refine g_istore C dX12_orderFrom_59 (by decide) (lo2 := [(4, .int 0), (0, .ref x), (1, .int a0), (2, .int a1), (3, .int v_31)]) rfl ?_
          refine g_lo (is := [1, 2, 3, 4, 0]) (lo2 := [(0, .ref x), (1, .int a0), (2, .int a1), (3, .int v_31), (4, .int 0)]) rfl ?_
          exact l_61 7 I_54 J_26 hU_55 hF_56 hG_29 (r_30) v_31 0 (rg_w rc_0 (by decide) (by decide)) (kp_s hI_54) (hd_u (r := 0) W9 hLx hkx hd_33 hI_54 (Or.inl (ro_o hkx (by decide)))) (hl_u W9 hLx hkx hl_34 hI_54 ⟨(ro_o hkx (by decide)), by decide⟩) (ms_s (a := 0) (b := 6) (N := 7) (rg_w rc_0 (by decide) (by decide)) (by decide))
        · skip
          exact g_vret B K rfl ⟨hU_27, hF_28, hG_29, hd_33, hl_34⟩ dX12_orderFrom_52
      · skip
        have r_57 := lt_l (hi := 6) (nle h_49) rv_32 rx_48 (by decide)
        have r_58 := lt_r (lo := 1) (nle h_49) rv_32 rx_48 (by decide)
        refine g_aload_n C 0 dX12_orderFrom_20 rfl rfl ?_
        refine g_iload C 4 dX12_orderFrom_21 rfl ?_
        refine g_callVI C K (c_X12_isDead W9 hLx hkx v_32 (r_57) hU_27) hLx hkx (by decide) rfl v_12_244 rfl ⟨rfl, rfl⟩ ⟨Nat.le_of_ble_eq_true rfl, Nat.le_of_ble_eq_true rfl⟩ (Nat.le_of_ble_eq_true rfl) ⟨Nat.le_of_ble_eq_true rfl, Nat.le_of_ble_eq_true rfl⟩ dX12_orderFrom_23 rfl (st := []) (fun x_59 I_60 J_61 h_62 => ?_)
        obtain ⟨rfl, rfl, rx_59⟩ := h_62
        refine g_if_ne C (tgt := 38) dX12_orderFrom_26 (by decide) (fun h_63 => ?_) (fun h_63 => ?_)
        · skip
          have n_64 : ¬ x_59 = 0 := h_63
          have r_65 := ne_lo (lo := 1) n_64 rx_59 rc_0 rfl (by decide)
          refine g_lo (is := [0, 1, 2, 3, 4]) (lo2 := [(0, .ref x), (1, .int a0), (2, .int a1), (3, .int v_31), (4, .int v_32)]) rfl ?_
          exact j_38 I_25 J_26 hU_27 hF_28 hG_29 (r_30) v_31 v_32 (r_57) hm_35 hd_33 hl_34
        · skip
          have r_66 := (⟨(rx_59).1, (eq_rg (h_63) rc_0).2⟩ : Rg 0 0 x_59)
          refine g_iload_n C 3 dX12_orderFrom_29 rfl rfl ?_
          refine g_aload_n C 0 dX12_orderFrom_30 rfl rfl ?_
          refine g_iload C 4 dX12_orderFrom_31 rfl ?_
          refine g_callVI C K (c_X12_wantsYet W9 hLx hkx v_32 (r_57) hU_27) hLx hkx (by decide) rfl v_12_268 rfl ⟨rfl, rfl⟩ ⟨Nat.le_of_ble_eq_true rfl, Nat.le_of_ble_eq_true rfl⟩ (Nat.le_of_ble_eq_true rfl) ⟨Nat.le_of_ble_eq_true rfl, Nat.le_of_ble_eq_true rfl⟩ dX12_orderFrom_33 rfl (st := [.int v_31]) (fun x_67 I_68 J_69 h_70 => ?_)
          obtain ⟨rfl, rfl, rx_67, ex_67⟩ := h_70
          obtain ⟨x_71, hx_71, rx_71⟩ := ex_any (z0 := v_31 + x_67)
          refine g_iadd C (v := x_71) dX12_orderFrom_36 hx_71 ?_
          refine g_istore_n C dX12_orderFrom_37 rfl (by decide) (lo2 := [(3, .int x_71), (0, .ref x), (1, .int a0), (2, .int a1), (4, .int v_32)]) rfl ?_
          refine g_lo (is := [1, 2, 3, 0, 4]) (lo2 := [(0, .ref x), (1, .int a0), (2, .int a1), (3, .int x_71), (4, .int v_32)]) rfl ?_
          exact j_38 I_25 J_26 hU_27 hF_28 hG_29 (r_30) x_71 v_32 (r_57) hm_35 hd_33 hl_34
  have l_124 : ∀ (n_124 : Nat) (I_72 : Nat → Nat → Int32) (J_73 : Nat → Nat → Int64) (hU_74 : Iw L κ R ow I_72) (hF_75 : Fq L κ ow [1230, 83400, 84600, 84700, 84800] I I_72) (hG_76 : Fq L κ ow [] J J_73) (r_77 : Rg 1 127 a1) (n_78 : ¬ a1 = 0) (v_79 : Int32) (rv_79 : Rg 0 7 v_79) (hd_80 : Hd_ R x I I_72) (hl_81 : Hl_ R x I I_72 450) (gh_82 : Gh_ R x I_72 450) (hm_83 : 7 < (v_79 : Int32).toInt + (n_124 : Int)), WG p l e { frames := 4, cells := 0, slots := 0, locals := 96 } s m ([.ref x, .int a0, .int a1] : List Value).toArray below meth c 5 0 0 (MQ below (Qv_ D cy L κ ln R (fun I2 J2 => Iw L κ R ow I2 ∧ Fq L κ ow [1230, 83400, 84600, 84700, 84800] I I2 ∧ Fq L κ ow [] J J2 ∧ (Hd_ R x I I2) ∧ (Hl_ R x I I2 450))) ([.ref x, .int a0, .int a1] : List Value).toArray s 0 0 (Al_ L)) D cy (Al_ L) s.heap L κ ln R I_72 J_73 124 [(0, .ref x), (1, .int a0), (2, .int a1), (3, .int v_79)] [] := by
    intro n_124
    induction n_124 with
    | zero =>
      intro I_72 J_73 hU_74 hF_75 hG_76 r_77 n_78 v_79 rv_79 hd_80 hl_81 gh_82 hm_83
      exact ms_0 rv_79 hm_83
    | succ n_124 ih_124 =>
      intro I_72 J_73 hU_74 hF_75 hG_76 r_77 n_78 v_79 rv_79 hd_80 hl_81 gh_82 hm_83
      have j_222 : ∀ (I_84 : Nat → Nat → Int32) (J_85 : Nat → Nat → Int64) (hU_86 : Iw L κ R ow I_84) (hF_87 : Fq L κ ow [1230, 83400, 84600, 84700, 84800] I I_84) (hG_88 : Fq L κ ow [] J J_85) (r_89 : Rg 1 127 a1) (n_90 : ¬ a1 = 0) (v_91 : Int32) (rv_91 : Rg 0 6 v_91) (hm_92 : 7 < (v_91 : Int32).toInt + ((n_124 + 1 : Nat) : Int)) (hd_93 : Hd_ R x I I_84) (hl_94 : Hl_ R x I I_84 450) (gh_95 : Gh_ R x I_84 450), WG p l e { frames := 4, cells := 0, slots := 0, locals := 96 } s m ([.ref x, .int a0, .int a1] : List Value).toArray below meth c 5 0 0 (MQ below (Qv_ D cy L κ ln R (fun I2 J2 => Iw L κ R ow I2 ∧ Fq L κ ow [1230, 83400, 84600, 84700, 84800] I I2 ∧ Fq L κ ow [] J J2 ∧ (Hd_ R x I I2) ∧ (Hl_ R x I I2 450))) ([.ref x, .int a0, .int a1] : List Value).toArray s 0 0 (Al_ L)) D cy (Al_ L) s.heap L κ ln R I_84 J_85 222 [(0, .ref x), (1, .int a0), (2, .int a1), (3, .int v_91)] [] := by
        intro I_84 J_85 hU_86 hF_87 hG_88 r_89 n_90 v_91 rv_91 hm_92 hd_93 hl_94 gh_95
        obtain ⟨x_96, hx_96, rx_96, tx_96⟩ := ex_add (y := 1) 1 7 rv_91 rc_1 (by decide) (by decide) (by decide) (by decide)
        refine g_iinc C dX12_orderFrom_222 (k := 3) (v := x_96) rfl hx_96 (by decide) (lo2 := [(3, .int x_96), (0, .ref x), (1, .int a0), (2, .int a1)]) rfl ?_
        refine g_goto C (tgt := 124) dX12_orderFrom_225 (by decide) ?_
        refine g_lo (is := [1, 2, 3, 0]) (lo2 := [(0, .ref x), (1, .int a0), (2, .int a1), (3, .int x_96)]) rfl ?_
        exact ih_124 I_84 J_85 hU_86 hF_87 hG_88 (r_89) (n_90) x_96 (rg_w rx_96 (by decide) (by decide)) hd_93 hl_94 gh_95 (ms_1 hm_92 (ti_k tx_96 rc_1) (by decide))
      have j_170 : ∀ (I_97 : Nat → Nat → Int32) (J_98 : Nat → Nat → Int64) (hU_99 : Iw L κ R ow I_97) (hF_100 : Fq L κ ow [1230, 83400, 84600, 84700, 84800] I I_97) (hG_101 : Fq L κ ow [] J J_98) (r_102 : Rg 1 127 a1) (n_103 : ¬ a1 = 0) (v_104 : Int32) (rv_104 : Rg 0 6 v_104) (hm_105 : 7 < (v_104 : Int32).toInt + ((n_124 + 1 : Nat) : Int)) (hd_106 : Hd_ R x I I_97) (hl_107 : Hl_ R x I I_97 450) (gh_108 : Gh_ R x I_97 450) (hb_109 : a1 >>> (v_104 &&& 31) &&& 1 = 1), WG p l e { frames := 4, cells := 0, slots := 0, locals := 96 } s m ([.ref x, .int a0, .int a1] : List Value).toArray below meth c 5 0 0 (MQ below (Qv_ D cy L κ ln R (fun I2 J2 => Iw L κ R ow I2 ∧ Fq L κ ow [1230, 83400, 84600, 84700, 84800] I I2 ∧ Fq L κ ow [] J J2 ∧ (Hd_ R x I I2) ∧ (Hl_ R x I I2 450))) ([.ref x, .int a0, .int a1] : List Value).toArray s 0 0 (Al_ L)) D cy (Al_ L) s.heap L κ ln R I_97 J_98 170 [(0, .ref x), (1, .int a0), (2, .int a1), (3, .int v_104)] [] := by
        intro I_97 J_98 hU_99 hF_100 hG_101 r_102 n_103 v_104 rv_104 hm_105 hd_106 hl_107 gh_108 hb_109
        refine g_aload_n C 0 dX12_orderFrom_170 rfl rfl ?_
        refine g_iload_n C 1 dX12_orderFrom_171 rfl rfl ?_
        refine g_iconst C (v := 1) dX12_orderFrom_172 (by decide) ?_
        obtain ⟨x_110, hx_110, rx_110, tx_110⟩ := ex_add 7 7 ra0 rc_1 (by decide) (by decide) (by decide) (by decide)
        refine g_iadd C (v := x_110) dX12_orderFrom_173 hx_110 ?_
        refine g_iload_n C 2 dX12_orderFrom_174 rfl rfl ?_
        refine g_iconst C (v := 1) dX12_orderFrom_175 (by decide) ?_
        refine g_iload_n C 3 dX12_orderFrom_176 rfl rfl ?_
        obtain ⟨x_111, hx_111, rx_111⟩ := ex_shl (x := 1) (y := v_104) 6 64 rfl (rv_104) (by decide)
        refine g_ishl C (v := x_111) dX12_orderFrom_177 hx_111 ?_
        refine g_iconst C (v := (-1)) dX12_orderFrom_178 (by decide) ?_
        obtain ⟨x_112, hx_112, rx_112⟩ := ex_any (z0 := x_111 ^^^ (-1))
        refine g_ixor C (v := x_112) dX12_orderFrom_179 hx_112 ?_
        obtain ⟨x_113, hx_113, rx_113⟩ := ex_andl (x := a1) (y := x_112) (b := 127) (rg_w r_102 (by decide) (by decide))
        refine g_iand C (v := x_113) dX12_orderFrom_180 hx_113 ?_
        refine g_callVV C K (c_X12_orderFrom_7 W9 hLx hkx x_110 x_113 (rx_110) (rx_113) hU_99  (by have q1 := bc_rm (z := x_113) (rg_w r_102 (by decide) (by decide)) (rv_104) hb_109 (by rw [hx_111, hx_112]; exact hx_113); have q2 := hbc; omega)) hLx hkx (by decide) rfl v_12_304 rfl ⟨rfl, rfl⟩ ⟨Nat.le_of_ble_eq_true rfl, Nat.le_of_ble_eq_true rfl⟩ (Nat.le_of_ble_eq_true rfl) ⟨Nat.le_of_ble_eq_true rfl, Nat.le_of_ble_eq_true rfl⟩ dX12_orderFrom_181 rfl (st := []) (fun I_115 J_116 h_117 => ?_)
        obtain ⟨hUI_115, hFI_115, hGJ_116, ex_114⟩ := h_117
        have hF_118 := fq_tr hF_100 hFI_115 (by decide)
        have hG_119 := fq_tr hG_101 hGJ_116 (by decide)
        refine g_iconst C (v := 0) dX12_orderFrom_184 (by decide) ?_
        refine g_istore C dX12_orderFrom_185 (by decide) (lo2 := [(4, .int 0), (0, .ref x), (1, .int a0), (2, .int a1), (3, .int v_104)]) rfl ?_
        refine g_lo (is := [1, 2, 3, 4, 0]) (lo2 := [(0, .ref x), (1, .int a0), (2, .int a1), (3, .int v_104), (4, .int 0)]) rfl ?_
        have ex_187 : ∀ (I_121 : Nat → Nat → Int32) (hI_121 : I_121 = cpn_ I_115 b_1 b_4 (450) (72) 75) (v_120 : Int32) (rv_120 : Rg 75 75 v_120), WG p l e { frames := 4, cells := 0, slots := 0, locals := 96 } s m ([.ref x, .int a0, .int a1] : List Value).toArray below meth c 5 0 0 (MQ below (Qv_ D cy L κ ln R (fun I2 J2 => Iw L κ R ow I2 ∧ Fq L κ ow [1230, 83400, 84600, 84700, 84800] I I2 ∧ Fq L κ ow [] J J2 ∧ (Hd_ R x I I2) ∧ (Hl_ R x I I2 450))) ([.ref x, .int a0, .int a1] : List Value).toArray s 0 0 (Al_ L)) D cy (Al_ L) s.heap L κ ln R I_121 J_116 222 [(0, .ref x), (1, .int a0), (2, .int a1), (3, .int v_104), (4, .int v_120)] [] := by
          intro I_121 hI_121 v_120 rv_120
          have hF_122 := fq_cpn hF_118 hI_121 (ro_a hb_4k (by decide) hb_4o hkx rfl) (by decide) (by decide)
          have hU_123 := uw_cpn hUI_115.1 hb_1L hI_121 (ro_a hb_4k (by decide) hb_4o hkx rfl) (ro_a hb_1k (by decide) hb_1o hkx rfl) (fun i hi => by rw [bn_834, bn_848, show (450 + i) % 75 = i by omega]; exact ⟨Int.le_refl _, Int.le_refl _⟩)
          have hU_124 := iw_set W9 hUI_115.2 hU_123 hLx hkx hb_4 hI_121 ((gh_of gh_108 ex_114.1 ex_114.2 (by decide)) _ _ hb_4 hb_1)
          refine g_lo (is := [0, 1, 2, 3]) (lo2 := [(0, .ref x), (1, .int a0), (2, .int a1), (3, .int v_104)]) rfl ?_
          exact j_222 I_121 J_116 hU_124 hF_122 hG_119 (r_102) (n_103) v_104 (rv_104) hm_105 (hd_c (r := 0) W9 hLx hkx (hd_t hd_106 ex_114.1) hI_121 (Or.inr (by omega))) (hl_c W9 hLx hkx (hl_t hl_107 ex_114.2 (by decide)) hI_121 (Or.inl ⟨(ro_a hb_4k (by decide) hb_4o hkx rfl), by decide⟩)) (gh_c W9 hLx hkx hb_4 (gh_of gh_108 ex_114.1 ex_114.2 (by decide)) hI_121)
        have l_187 : ∀ (m_187 : Nat) (v_125 : Int32) (I_126 : Nat → Nat → Int32), v_125.toInt + (m_187 : Int) = 75 → 0 ≤ v_125.toInt → I_126 = cpn_ I_115 b_1 b_4 (450) (72) v_125.toNatClampNeg → WG p l e { frames := 4, cells := 0, slots := 0, locals := 96 } s m ([.ref x, .int a0, .int a1] : List Value).toArray below meth c 5 0 0 (MQ below (Qv_ D cy L κ ln R (fun I2 J2 => Iw L κ R ow I2 ∧ Fq L κ ow [1230, 83400, 84600, 84700, 84800] I I2 ∧ Fq L κ ow [] J J2 ∧ (Hd_ R x I I2) ∧ (Hl_ R x I I2 450))) ([.ref x, .int a0, .int a1] : List Value).toArray s 0 0 (Al_ L)) D cy (Al_ L) s.heap L κ ln R I_126 J_116 187 [(0, .ref x), (1, .int a0), (2, .int a1), (3, .int v_104), (4, .int v_125)] [] := by
          intro m_187
          induction m_187 with
          | zero =>
            intro v_125 I_126 hk_187 h0_187 hI_126
            have rv_125 : Rg 75 75 v_125 := by unfold Rg; omega
            refine g_iload C 4 dX12_orderFrom_187 rfl ?_
            refine g_bipush C (v := 75) dX12_orderFrom_189 (by decide) ?_
            refine g_icmp_ge C (tgt := 222) dX12_orderFrom_191 (by decide) (fun h_127 => ?_) (fun h_127 => ?_)
            · skip
              refine g_lo (is := [0, 1, 2, 3, 4]) (lo2 := [(0, .ref x), (1, .int a0), (2, .int a1), (3, .int v_104), (4, .int v_125)]) rfl ?_
              exact ex_187 I_126 (hI_126.trans (congrArg (fun q => cpn_ I_115 b_1 b_4 (450) (72) q) (show v_125.toNatClampNeg = 75 from by have := ix_n rv_125 (by decide); have := rv_125.1; have := rv_125.2; omega))) v_125 rv_125
            · skip
              have r_128 := lt_l (hi := 74) (nle h_127) rv_125 rc_75 (by decide)
              exact rg_no r_128 (by decide)
          | succ m_187 ih_187 =>
            intro v_125 I_126 hk_187 h0_187 hI_126
            have rv_125 : Rg 0 74 v_125 := by unfold Rg; omega
            refine g_iload C 4 dX12_orderFrom_187 rfl ?_
            refine g_bipush C (v := 75) dX12_orderFrom_189 (by decide) ?_
            refine g_icmp_ge C (tgt := 222) dX12_orderFrom_191 (by decide) (fun h_129 => ?_) (fun h_129 => ?_)
            · skip
              have r_130 := le_r (h_129) rc_75 rv_125
              exact rg_no r_130 (by decide)
            · skip
              refine g_aload_n C 0 dX12_orderFrom_194 rfl rfl ?_
              refine g_getR C K hLx hkx f_12_13 hb_4 dX12_orderFrom_195 ?_
              refine g_bipush C (v := 72) dX12_orderFrom_198 (by decide) ?_
              refine g_iload C 4 dX12_orderFrom_200 rfl ?_
              obtain ⟨x_131, hx_131, rx_131, tx_131⟩ := ex_add 72 146 rc_72 rv_125 (by decide) (by decide) (by decide) (by decide)
              refine g_iadd C (v := x_131) dX12_orderFrom_202 hx_131 ?_
              refine g_aload_n C 0 dX12_orderFrom_203 rfl rfl ?_
              refine g_getR C K hLx hkx f_12_48 hb_1 dX12_orderFrom_204 ?_
              refine g_bipush C (v := 75) dX12_orderFrom_207 (by decide) ?_
              refine g_iload_n C 1 dX12_orderFrom_209 rfl rfl ?_
              obtain ⟨x_132, hx_132, rx_132, tx_132⟩ := ex_mulT 450 450 rc_75 ra0 (by decide) (by decide) (by decide) (by decide) (by decide)
              refine g_imul C (v := x_132) dX12_orderFrom_210 hx_132 ?_
              refine g_iload C 4 dX12_orderFrom_211 rfl ?_
              obtain ⟨x_133, hx_133, rx_133, tx_133⟩ := ex_add 450 524 rx_132 rv_125 (by decide) (by decide) (by decide) (by decide)
              refine g_iadd C (v := x_133) dX12_orderFrom_213 hx_133 ?_
              obtain ⟨x_134, hx_134, rx_134⟩ := ex_any (z0 := I_126 b_1 (x_133.toNatClampNeg))
              refine h_iald C K hb_1L hb_1k (v := x_134) (x_133.toNatClampNeg) (rfl) (ix_0 rx_133 (by decide)) (ix_lt rx_133 (by decide) hb_1n (by decide)) hx_134 dX12_orderFrom_214 ?_
              refine h_iast C K hb_4L hb_4k (x_131.toNatClampNeg) (rfl) (ix_0 rx_131 (by decide)) (ix_lt rx_131 (by decide) hb_4n (by decide)) dX12_orderFrom_215 (fun I_135 hI_135 => ?_)
              obtain ⟨x_136, hx_136, rx_136, tx_136⟩ := ex_add (y := 1) 1 75 rv_125 rc_1 (by decide) (by decide) (by decide) (by decide)
              refine g_iinc C dX12_orderFrom_216 (k := 4) (v := x_136) rfl hx_136 (by decide) (lo2 := [(4, .int x_136), (0, .ref x), (1, .int a0), (2, .int a1), (3, .int v_104)]) rfl ?_
              refine g_goto C (tgt := 187) dX12_orderFrom_219 (by decide) ?_
              refine g_lo (is := [1, 2, 3, 4, 0]) (lo2 := [(0, .ref x), (1, .int a0), (2, .int a1), (3, .int v_104), (4, .int x_136)]) rfl ?_
              have kk_187 : x_136.toNatClampNeg = v_125.toNatClampNeg + 1 := by have q1 := ix_n rv_125 (by decide); have q2 := (ti_k tx_136 rc_1); have q3 : x_136.toNatClampNeg = x_136.toInt.toNat := rfl; omega
              exact ih_187 x_136 I_135 (by have := (ti_k tx_136 rc_1); omega) (by have := (ti_k tx_136 rc_1); omega) (by rw [kk_187]; exact cpn_s hI_126 hx_134 hI_135 (show x_133.toNatClampNeg = (450) + v_125.toNatClampNeg from by rw [nx_a tx_133 rx_132 rv_125 (by decide), nx_m (k := 75) tx_132 ra0 (by decide)] <;> omega) (show x_131.toNatClampNeg = (72) + v_125.toNatClampNeg from by rw [nx_a tx_131 rc_72 rv_125 (by decide)]; simp only [show (72 : Int32).toNatClampNeg = 72 from rfl] <;> omega) (Or.inl (ne_ro (ro_a hb_1k (by decide) hb_1o hkx rfl) (ro_a hb_4k (by decide) hb_4o hkx rfl) (by decide))))
        exact l_187 75 0 I_115 (by decide) (by decide) cpn_0
      refine g_iload_n C 3 dX12_orderFrom_124 rfl rfl ?_
      refine g_aload_n C 0 dX12_orderFrom_125 rfl rfl ?_
      refine g_getR C K hLx hkx f_12_13 hb_4 dX12_orderFrom_126 ?_
      refine g_iconst C (v := 0) dX12_orderFrom_129 (by decide) ?_
      obtain ⟨x_137, hx_137, rx_137⟩ := ex_getw (I := I_72) (a := b_4) (j := 0) (lo := 0) (hi := 7) hU_74.1 hb_4L (ro_a hb_4k (by decide) hb_4o hkx rfl) (by decide)
      refine h_iald C K hb_4L hb_4k (v := x_137) (0) (by decide) (by decide) (by rw [hb_4n]; decide) hx_137 dX12_orderFrom_130 ?_
      refine g_icmp_ge C (tgt := 228) dX12_orderFrom_131 (by decide) (fun h_138 => ?_) (fun h_138 => ?_)
      · skip
        exact g_vret B K rfl ⟨hU_74, hF_75, hG_76, hd_80, hl_81⟩ dX12_orderFrom_228
      · skip
        have r_139 := lt_l (hi := 6) (nle h_138) rv_79 rx_137 (by decide)
        have r_140 := lt_r (lo := 1) (nle h_138) rv_79 rx_137 (by decide)
        refine g_iload_n C 2 dX12_orderFrom_134 rfl rfl ?_
        refine g_iload_n C 3 dX12_orderFrom_135 rfl rfl ?_
        refine g_callSI C K (c_X12_has W9 a1 v_79  hU_74) s_12_231 rfl ⟨rfl, rfl⟩ ⟨Nat.le_of_ble_eq_true rfl, Nat.le_of_ble_eq_true rfl⟩ (Nat.le_of_ble_eq_true rfl) ⟨Nat.le_of_ble_eq_true rfl, Nat.le_of_ble_eq_true rfl⟩ dX12_orderFrom_136 rfl (st := []) (fun x_141 I_142 J_143 h_144 => ?_)
        obtain ⟨rfl, rfl, rx_141, ex_141⟩ := h_144
        refine g_if_ne C (tgt := 145) dX12_orderFrom_139 (by decide) (fun h_145 => ?_) (fun h_145 => ?_)
        · skip
          have n_146 : ¬ x_141 = 0 := h_145
          have r_147 := ne_lo (lo := 1) n_146 rx_141 rc_0 rfl (by decide)
          refine g_aload_n C 0 dX12_orderFrom_145 rfl rfl ?_
          refine g_getR C K hLx hkx f_12_42 hb_3 dX12_orderFrom_146 ?_
          refine g_iload_n C 1 dX12_orderFrom_149 rfl rfl ?_
          refine g_iload_n C 3 dX12_orderFrom_150 rfl rfl ?_
          refine h_iast C K hb_3L hb_3k (a0.toNatClampNeg) (rfl) (ix_0 ra0 (by decide)) (ix_lt ra0 (by decide) hb_3n (by decide)) dX12_orderFrom_151 (fun I_148 hI_148 => ?_)
          have hU_149 := iw_put W9 hU_74 hI_148 (ro_a hb_3k (by decide) hb_3o hkx rfl) (lo := (-2147483648)) (hi := 2147483647) (rfl) (rg_all _) rfl
          have hF_150 := fq_puta hF_75 hI_148 (ro_a hb_3k (by decide) hb_3o hkx rfl) (by decide) (by decide)
          refine g_aload_n C 0 dX12_orderFrom_152 rfl rfl ?_
          refine g_iload_n C 3 dX12_orderFrom_153 rfl rfl ?_
          refine g_callVV C K (c_X12_eatsAll W9 hLx hkx v_79 (r_139) hU_149) hLx hkx (by decide) rfl v_12_301 rfl ⟨rfl, rfl⟩ ⟨Nat.le_of_ble_eq_true rfl, Nat.le_of_ble_eq_true rfl⟩ (Nat.le_of_ble_eq_true rfl) ⟨Nat.le_of_ble_eq_true rfl, Nat.le_of_ble_eq_true rfl⟩ dX12_orderFrom_154 rfl (st := []) (fun I_152 J_153 h_154 => ?_)
          obtain ⟨hUI_152, hFI_152, hGJ_153, ex_151⟩ := h_154
          have hF_155 := fq_tr hF_150 hFI_152 (by decide)
          have hG_156 := fq_tr hG_76 hGJ_153 (by decide)
          refine g_aload_n C 0 dX12_orderFrom_157 rfl rfl ?_
          refine g_iload_n C 3 dX12_orderFrom_158 rfl rfl ?_
          refine g_callVI C K (c_X12_plateOf W9 hLx hkx v_79 (r_139) hUI_152) hLx hkx (by decide) rfl v_12_247 rfl ⟨rfl, rfl⟩ ⟨Nat.le_of_ble_eq_true rfl, Nat.le_of_ble_eq_true rfl⟩ (Nat.le_of_ble_eq_true rfl) ⟨Nat.le_of_ble_eq_true rfl, Nat.le_of_ble_eq_true rfl⟩ dX12_orderFrom_159 rfl (st := []) (fun x_157 I_158 J_159 h_160 => ?_)
          obtain ⟨rfl, rfl, rx_157⟩ := h_160
          refine g_if_le C (tgt := 170) dX12_orderFrom_162 (by decide) (fun h_161 => ?_) (fun h_161 => ?_)
          · skip
            have r_162 := le_l (h_161) rx_157 rc_0
            refine g_lo (is := [0, 1, 2, 3]) (lo2 := [(0, .ref x), (1, .int a0), (2, .int a1), (3, .int v_79)]) rfl ?_
            exact j_170 I_152 J_153 hUI_152 hF_155 hG_156 (r_77) (n_78) v_79 (r_139) hm_83 (hd_t (hd_u W9 hLx hkx hd_80 hI_148 (Or.inr (Or.inl ⟨(ro_a hb_3k (by decide) hb_3o hkx rfl), by decide⟩))) ex_151) (hl_fq W9 hLx hkx (hl_u W9 hLx hkx hl_81 hI_148 ⟨(ro_a hb_3k (by decide) hb_3o hkx rfl), by decide⟩) hFI_152 (by decide)) (gh_mv W9 hLx hkx (gh_u W9 hLx hkx gh_82 hI_148 ⟨(ro_a hb_3k (by decide) hb_3o hkx rfl), by decide, by decide⟩) ex_151 hFI_152 (by decide)) (ex_141 n_146)
          · skip
            have r_163 := lt_r (lo := 1) (nle h_161) rc_0 rx_157 (by decide)
            refine g_aload_n C 0 dX12_orderFrom_165 rfl rfl ?_
            refine g_iload_n C 3 dX12_orderFrom_166 rfl rfl ?_
            refine g_callVV C K (c_X12_pass W9 hLx hkx v_79 (r_139) hUI_152) hLx hkx (by decide) rfl v_12_275 rfl ⟨rfl, rfl⟩ ⟨Nat.le_of_ble_eq_true rfl, Nat.le_of_ble_eq_true rfl⟩ (Nat.le_of_ble_eq_true rfl) ⟨Nat.le_of_ble_eq_true rfl, Nat.le_of_ble_eq_true rfl⟩ dX12_orderFrom_167 rfl (st := []) (fun I_165 J_166 h_167 => ?_)
            obtain ⟨hUI_165, hFI_165, hGJ_166, ex_164⟩ := h_167
            have hF_168 := fq_tr hF_155 hFI_165 (by decide)
            have hG_169 := fq_tr hG_156 hGJ_166 (by decide)
            refine g_lo (is := [0, 1, 2, 3]) (lo2 := [(0, .ref x), (1, .int a0), (2, .int a1), (3, .int v_79)]) rfl ?_
            exact j_170 I_165 J_166 hUI_165 hF_168 hG_169 (r_77) (n_78) v_79 (r_139) hm_83 (hd_t (hd_t (hd_u W9 hLx hkx hd_80 hI_148 (Or.inr (Or.inl ⟨(ro_a hb_3k (by decide) hb_3o hkx rfl), by decide⟩))) ex_151) ex_164) (hl_fq W9 hLx hkx (hl_fq W9 hLx hkx (hl_u W9 hLx hkx hl_81 hI_148 ⟨(ro_a hb_3k (by decide) hb_3o hkx rfl), by decide⟩) hFI_152 (by decide)) hFI_165 (by decide)) (gh_mv W9 hLx hkx (gh_mv W9 hLx hkx (gh_u W9 hLx hkx gh_82 hI_148 ⟨(ro_a hb_3k (by decide) hb_3o hkx rfl), by decide, by decide⟩) ex_151 hFI_152 (by decide)) ex_164 hFI_165 (by decide)) (ex_141 n_146)
        · skip
          have r_170 := (⟨(rx_141).1, (eq_rg (h_145) rc_0).2⟩ : Rg 0 0 x_141)
          refine g_goto C (tgt := 222) dX12_orderFrom_142 (by decide) ?_
          refine g_lo (is := [0, 1, 2, 3]) (lo2 := [(0, .ref x), (1, .int a0), (2, .int a1), (3, .int v_79)]) rfl ?_
          exact j_222 I_72 J_73 hU_74 hF_75 hG_76 (r_77) (n_78) v_79 (r_139) hm_83 hd_80 hl_81 gh_82
  refine g_iload_n C 2 dX12_orderFrom_0 rfl rfl ?_
  refine g_if_ne C (tgt := 88) dX12_orderFrom_1 (by decide) (fun h_171 => ?_) (fun h_171 => ?_)
  · skip
    have n_172 : ¬ a1 = 0 := h_171
    have r_173 := ne_lo (lo := 1) n_172 ra1 rc_0 rfl (by decide)
    refine g_iconst C (v := 0) dX12_orderFrom_88 (by decide) ?_
    refine g_istore_n C dX12_orderFrom_89 rfl (by decide) (lo2 := [(3, .int 0), (0, .ref x), (1, .int a0), (2, .int a1)]) rfl ?_
    refine g_lo (is := [1, 2, 3, 0]) (lo2 := [(0, .ref x), (1, .int a0), (2, .int a1), (3, .int 0)]) rfl ?_
    have ex_90 : ∀ (I_175 : Nat → Nat → Int32) (hI_175 : I_175 = cpn_ I b_4 b_1 (72) (450) 75) (v_174 : Int32) (rv_174 : Rg 75 75 v_174), WG p l e { frames := 4, cells := 0, slots := 0, locals := 96 } s m ([.ref x, .int a0, .int a1] : List Value).toArray below meth c 5 0 0 (MQ below (Qv_ D cy L κ ln R (fun I2 J2 => Iw L κ R ow I2 ∧ Fq L κ ow [1230, 83400, 84600, 84700, 84800] I I2 ∧ Fq L κ ow [] J J2 ∧ (Hd_ R x I I2) ∧ (Hl_ R x I I2 450))) ([.ref x, .int a0, .int a1] : List Value).toArray s 0 0 (Al_ L)) D cy (Al_ L) s.heap L κ ln R I_175 J 122 [(0, .ref x), (1, .int a0), (2, .int a1), (3, .int v_174)] [] := by
      intro I_175 hI_175 v_174 rv_174
      have hF_176 := fq_cpn hF hI_175 (ro_a hb_1k (by decide) hb_1o hkx rfl) (by decide) (by decide)
      have hU_177 := uw_cpn hU.1 hb_4L hI_175 (ro_a hb_1k (by decide) hb_1o hkx rfl) (ro_a hb_4k (by decide) hb_4o hkx rfl) (fun i hi => by rw [bn_848, bn_834, show (450 + i) % 75 = i by omega]; exact ⟨Int.le_refl _, Int.le_refl _⟩)
      have hU_178 := iw_cpo W9 hU.2 hU_177 hI_175 (ro_a hb_1k (by decide) hb_1o hkx rfl) (fun _ => rfl)
      refine g_iconst C (v := 0) dX12_orderFrom_122 (by decide) ?_
      refine g_istore_n C dX12_orderFrom_123 rfl (by decide) (lo2 := [(3, .int 0), (0, .ref x), (1, .int a0), (2, .int a1)]) rfl ?_
      refine g_lo (is := [1, 2, 3, 0]) (lo2 := [(0, .ref x), (1, .int a0), (2, .int a1), (3, .int 0)]) rfl ?_
      exact l_124 8 I_175 J hU_178 hF_176 hG (r_173) (n_172) 0 (rg_w rc_0 (by decide) (by decide)) (hd_c (r := 848) W9 hLx hkx hd_rf hI_175 (Or.inl ⟨(ro_a hb_1k (by decide) hb_1o hkx rfl), by decide⟩)) (hl_c (r := 0) W9 hLx hkx hl_rf hI_175 (Or.inr (Nat.le_refl _))) (gh_lay W9 hU.2 hLx hkx hb_4 hb_1 hI_175) (ms_s (a := 0) (b := 7) (N := 8) (rg_w rc_0 (by decide) (by decide)) (by decide))
    have l_90 : ∀ (m_90 : Nat) (v_179 : Int32) (I_180 : Nat → Nat → Int32), v_179.toInt + (m_90 : Int) = 75 → 0 ≤ v_179.toInt → I_180 = cpn_ I b_4 b_1 (72) (450) v_179.toNatClampNeg → WG p l e { frames := 4, cells := 0, slots := 0, locals := 96 } s m ([.ref x, .int a0, .int a1] : List Value).toArray below meth c 5 0 0 (MQ below (Qv_ D cy L κ ln R (fun I2 J2 => Iw L κ R ow I2 ∧ Fq L κ ow [1230, 83400, 84600, 84700, 84800] I I2 ∧ Fq L κ ow [] J J2 ∧ (Hd_ R x I I2) ∧ (Hl_ R x I I2 450))) ([.ref x, .int a0, .int a1] : List Value).toArray s 0 0 (Al_ L)) D cy (Al_ L) s.heap L κ ln R I_180 J 90 [(0, .ref x), (1, .int a0), (2, .int a1), (3, .int v_179)] [] := by
      intro m_90
      induction m_90 with
      | zero =>
        intro v_179 I_180 hk_90 h0_90 hI_180
        have rv_179 : Rg 75 75 v_179 := by unfold Rg; omega
        refine g_iload_n C 3 dX12_orderFrom_90 rfl rfl ?_
        refine g_bipush C (v := 75) dX12_orderFrom_91 (by decide) ?_
        refine g_icmp_ge C (tgt := 122) dX12_orderFrom_93 (by decide) (fun h_181 => ?_) (fun h_181 => ?_)
        · skip
          refine g_lo (is := [0, 1, 2, 3]) (lo2 := [(0, .ref x), (1, .int a0), (2, .int a1), (3, .int v_179)]) rfl ?_
          exact ex_90 I_180 (hI_180.trans (congrArg (fun q => cpn_ I b_4 b_1 (72) (450) q) (show v_179.toNatClampNeg = 75 from by have := ix_n rv_179 (by decide); have := rv_179.1; have := rv_179.2; omega))) v_179 rv_179
        · skip
          have r_182 := lt_l (hi := 74) (nle h_181) rv_179 rc_75 (by decide)
          exact rg_no r_182 (by decide)
      | succ m_90 ih_90 =>
        intro v_179 I_180 hk_90 h0_90 hI_180
        have rv_179 : Rg 0 74 v_179 := by unfold Rg; omega
        refine g_iload_n C 3 dX12_orderFrom_90 rfl rfl ?_
        refine g_bipush C (v := 75) dX12_orderFrom_91 (by decide) ?_
        refine g_icmp_ge C (tgt := 122) dX12_orderFrom_93 (by decide) (fun h_183 => ?_) (fun h_183 => ?_)
        · skip
          have r_184 := le_r (h_183) rc_75 rv_179
          exact rg_no r_184 (by decide)
        · skip
          refine g_aload_n C 0 dX12_orderFrom_96 rfl rfl ?_
          refine g_getR C K hLx hkx f_12_48 hb_1 dX12_orderFrom_97 ?_
          refine g_bipush C (v := 75) dX12_orderFrom_100 (by decide) ?_
          refine g_iload_n C 1 dX12_orderFrom_102 rfl rfl ?_
          obtain ⟨x_185, hx_185, rx_185, tx_185⟩ := ex_mulT 450 450 rc_75 ra0 (by decide) (by decide) (by decide) (by decide) (by decide)
          refine g_imul C (v := x_185) dX12_orderFrom_103 hx_185 ?_
          refine g_iload_n C 3 dX12_orderFrom_104 rfl rfl ?_
          obtain ⟨x_186, hx_186, rx_186, tx_186⟩ := ex_add 450 524 rx_185 rv_179 (by decide) (by decide) (by decide) (by decide)
          refine g_iadd C (v := x_186) dX12_orderFrom_105 hx_186 ?_
          refine g_aload_n C 0 dX12_orderFrom_106 rfl rfl ?_
          refine g_getR C K hLx hkx f_12_13 hb_4 dX12_orderFrom_107 ?_
          refine g_bipush C (v := 72) dX12_orderFrom_110 (by decide) ?_
          refine g_iload_n C 3 dX12_orderFrom_112 rfl rfl ?_
          obtain ⟨x_187, hx_187, rx_187, tx_187⟩ := ex_add 72 146 rc_72 rv_179 (by decide) (by decide) (by decide) (by decide)
          refine g_iadd C (v := x_187) dX12_orderFrom_113 hx_187 ?_
          obtain ⟨x_188, hx_188, rx_188⟩ := ex_any (z0 := I_180 b_4 (x_187.toNatClampNeg))
          refine h_iald C K hb_4L hb_4k (v := x_188) (x_187.toNatClampNeg) (rfl) (ix_0 rx_187 (by decide)) (ix_lt rx_187 (by decide) hb_4n (by decide)) hx_188 dX12_orderFrom_114 ?_
          refine h_iast C K hb_1L hb_1k (x_186.toNatClampNeg) (rfl) (ix_0 rx_186 (by decide)) (ix_lt rx_186 (by decide) hb_1n (by decide)) dX12_orderFrom_115 (fun I_189 hI_189 => ?_)
          obtain ⟨x_190, hx_190, rx_190, tx_190⟩ := ex_add (y := 1) 1 75 rv_179 rc_1 (by decide) (by decide) (by decide) (by decide)
          refine g_iinc C dX12_orderFrom_116 (k := 3) (v := x_190) rfl hx_190 (by decide) (lo2 := [(3, .int x_190), (0, .ref x), (1, .int a0), (2, .int a1)]) rfl ?_
          refine g_goto C (tgt := 90) dX12_orderFrom_119 (by decide) ?_
          refine g_lo (is := [1, 2, 3, 0]) (lo2 := [(0, .ref x), (1, .int a0), (2, .int a1), (3, .int x_190)]) rfl ?_
          have kk_90 : x_190.toNatClampNeg = v_179.toNatClampNeg + 1 := by have q1 := ix_n rv_179 (by decide); have q2 := (ti_k tx_190 rc_1); have q3 : x_190.toNatClampNeg = x_190.toInt.toNat := rfl; omega
          exact ih_90 x_190 I_189 (by have := (ti_k tx_190 rc_1); omega) (by have := (ti_k tx_190 rc_1); omega) (by rw [kk_90]; exact cpn_s hI_180 hx_188 hI_189 (show x_187.toNatClampNeg = (72) + v_179.toNatClampNeg from by rw [nx_a tx_187 rc_72 rv_179 (by decide)]; simp only [show (72 : Int32).toNatClampNeg = 72 from rfl] <;> omega) (show x_186.toNatClampNeg = (450) + v_179.toNatClampNeg from by rw [nx_a tx_186 rx_185 rv_179 (by decide), nx_m (k := 75) tx_185 ra0 (by decide)] <;> omega) (Or.inl (ne_ro (ro_a hb_4k (by decide) hb_4o hkx rfl) (ro_a hb_1k (by decide) hb_1o hkx rfl) (by decide))))
    exact l_90 75 0 I (by decide) (by decide) cpn_0
  · skip
    have r_191 := (⟨(ra1).1, (eq_rg (h_171) rc_0).2⟩ : Rg 0 0 a1)
    refine g_iconst C (v := 0) dX12_orderFrom_4 (by decide) ?_
    refine g_istore_n C dX12_orderFrom_5 rfl (by decide) (lo2 := [(3, .int 0), (0, .ref x), (1, .int a0), (2, .int a1)]) rfl ?_
    refine g_iconst C (v := 0) dX12_orderFrom_6 (by decide) ?_
    refine g_istore C dX12_orderFrom_7 (by decide) (lo2 := [(4, .int 0), (3, .int 0), (0, .ref x), (1, .int a0), (2, .int a1)]) rfl ?_
    refine g_lo (is := [2, 3, 4, 1, 0]) (lo2 := [(0, .ref x), (1, .int a0), (2, .int a1), (3, .int 0), (4, .int 0)]) rfl ?_
    exact l_9 8 I J hU hF hG (r_191) 0 0 (rg_w rc_0 (by decide) (by decide)) hd_rf hl_rf (ms_s (a := 0) (b := 7) (N := 8) (rg_w rc_0 (by decide) (by decide)) (by decide))
set_option maxRecDepth 100000 in
set_option maxHeartbeats 8000000 in
theorem c_X12_orderFrom_5 {l : Launch} {D : va_G} {cy : Nat → ClassId} {L : List Nat} {κ ln : Nat → Nat} {R : Nat → Nat → Option Nat} {I : Nat → Nat → Int32} {J : Nat → Nat → Int64} {ow : Nat → Nat × Nat} (W9 : ∀ a ∈ L, Shp L κ ln R ow a) {x : Nat} (hLx : x ∈ L) (hkx : κ x = 12) (a0 : Int32) (a1 : Int32) (ra0 : Rg 5 5 a0) (ra1 : Rg 0 127 a1) (hU : Iw L κ R ow I) (hbc : (bc_ a1).toInt ≤ 2) : CtV l yX12_orderFrom cX12_orderFrom 5 none { frames := 5, cells := 0, slots := 0, locals := 120 } D cy L κ ln R I J [.ref x, .int a0, .int a1] (fun I2 J2 => Iw L κ R ow I2 ∧ Fq L κ ow [1230, 83400, 84600, 84700, 84800] I I2 ∧ Fq L κ ow [] J J2 ∧ (Hd_ R x I I2) ∧ (Hl_ R x I I2 375)) := by
  refine CtV.of (by decide +kernel) (Nat.le_of_ble_eq_true rfl) ?_
  intro p e s m below meth c B K
  have C := B.1
  have hF : Fq L κ ow [1230, 83400, 84600, 84700, 84800] I I := fq_rf
  have hG : Fq L κ ow [] J J := fq_rf
  obtain ⟨b_1, hb_1, hb_1L, hb_1k, hb_1n, hb_1o⟩ := shp_a (W9 x hLx) hkx 28 14 525 rfl (by decide)
  obtain ⟨b_2, hb_2, hb_2L, hb_2k, hb_2n, hb_2o⟩ := shp_a (W9 x hLx) hkx 27 14 7 rfl (by decide)
  obtain ⟨b_3, hb_3, hb_3L, hb_3k, hb_3n, hb_3o⟩ := shp_a (W9 x hLx) hkx 26 14 7 rfl (by decide)
  obtain ⟨b_4, hb_4, hb_4L, hb_4k, hb_4n, hb_4o⟩ := shp_a (W9 x hLx) hkx 14 14 389 rfl (by decide)
  have ea0 : a0.toNatClampNeg = 5 := by have q1 := ix_n ra0 (by decide); have q2 := ra0.1; have q3 := ra0.2; omega
  refine g_lo (is := [0, 1, 2]) (lo2 := [(0, .ref x), (1, .int a0), (2, .int a1)]) rfl ?_
  have l_61 : ∀ (n_61 : Nat) (I_5 : Nat → Nat → Int32) (J_6 : Nat → Nat → Int64) (hU_7 : Iw L κ R ow I_5) (hF_8 : Fq L κ ow [1230, 83400, 84600, 84700, 84800] I I_5) (hG_9 : Fq L κ ow [] J J_6) (r_10 : Rg 0 0 a1) (v_11 : Int32) (v_12 : Int32) (rv_12 : Rg 0 5 v_12) (q_13 : I_5 x 30 = v_11) (hd_14 : Hd_ R x I I_5) (hl_15 : Hl_ R x I I_5 375) (hm_16 : 5 < (v_12 : Int32).toInt + (n_61 : Int)), WG p l e { frames := 5, cells := 0, slots := 0, locals := 120 } s m ([.ref x, .int a0, .int a1] : List Value).toArray below meth c 5 0 0 (MQ below (Qv_ D cy L κ ln R (fun I2 J2 => Iw L κ R ow I2 ∧ Fq L κ ow [1230, 83400, 84600, 84700, 84800] I I2 ∧ Fq L κ ow [] J J2 ∧ (Hd_ R x I I2) ∧ (Hl_ R x I I2 375))) ([.ref x, .int a0, .int a1] : List Value).toArray s 0 0 (Al_ L)) D cy (Al_ L) s.heap L κ ln R I_5 J_6 61 [(0, .ref x), (1, .int a0), (2, .int a1), (3, .int v_11), (4, .int v_12)] [] := by
    intro n_61
    induction n_61 with
    | zero =>
      intro I_5 J_6 hU_7 hF_8 hG_9 r_10 v_11 v_12 rv_12 q_13 hd_14 hl_15 hm_16
      exact ms_0 rv_12 hm_16
    | succ n_61 ih_61 =>
      intro I_5 J_6 hU_7 hF_8 hG_9 r_10 v_11 v_12 rv_12 q_13 hd_14 hl_15 hm_16
      refine g_iload C 4 dX12_orderFrom_61 rfl ?_
      refine g_iload_n C 1 dX12_orderFrom_63 rfl rfl ?_
      refine g_icmp_ge C (tgt := 87) dX12_orderFrom_64 (by decide) (fun h_17 => ?_) (fun h_17 => ?_)
      · skip
        have r_18 := le_r (h_17) ra0 rv_12
        exact g_vret B K rfl ⟨hU_7, hF_8, hG_9, hd_14, hl_15⟩ dX12_orderFrom_87
      · skip
        have r_19 := lt_l (hi := 4) (nle h_17) rv_12 ra0 (by decide)
        refine g_aload_n C 0 dX12_orderFrom_67 rfl rfl ?_
        refine g_getR C K hLx hkx f_12_45 hb_2 dX12_orderFrom_68 ?_
        refine g_iload C 4 dX12_orderFrom_71 rfl ?_
        refine g_aload_n C 0 dX12_orderFrom_73 rfl rfl ?_
        refine g_getR C K hLx hkx f_12_42 hb_3 dX12_orderFrom_74 ?_
        refine g_iload C 4 dX12_orderFrom_77 rfl ?_
        obtain ⟨x_20, hx_20, rx_20⟩ := ex_any (z0 := I_5 b_3 (v_12.toNatClampNeg))
        refine h_iald C K hb_3L hb_3k (v := x_20) (v_12.toNatClampNeg) (rfl) (ix_0 r_19 (by decide)) (ix_lt r_19 (by decide) hb_3n (by decide)) hx_20 dX12_orderFrom_79 ?_
        refine h_iast C K hb_2L hb_2k (v_12.toNatClampNeg) (rfl) (ix_0 r_19 (by decide)) (ix_lt r_19 (by decide) hb_2n (by decide)) dX12_orderFrom_80 (fun I_21 hI_21 => ?_)
        have hU_22 := iw_put W9 hU_7 hI_21 (ro_a hb_2k (by decide) hb_2o hkx rfl) (lo := (-2147483648)) (hi := 2147483647) (rfl) (rx_20) rfl
        have hF_23 := fq_puta hF_8 hI_21 (ro_a hb_2k (by decide) hb_2o hkx rfl) (by decide) (by decide)
        obtain ⟨x_24, hx_24, rx_24, tx_24⟩ := ex_add (y := 1) 1 5 r_19 rc_1 (by decide) (by decide) (by decide) (by decide)
        refine g_iinc C dX12_orderFrom_81 (k := 4) (v := x_24) rfl hx_24 (by decide) (lo2 := [(4, .int x_24), (0, .ref x), (1, .int a0), (2, .int a1), (3, .int v_11)]) rfl ?_
        refine g_goto C (tgt := 61) dX12_orderFrom_84 (by decide) ?_
        refine g_lo (is := [1, 2, 3, 4, 0]) (lo2 := [(0, .ref x), (1, .int a0), (2, .int a1), (3, .int v_11), (4, .int x_24)]) rfl ?_
        exact ih_61 I_21 J_6 hU_22 hF_23 hG_9 (r_10) v_11 x_24 (rg_w rx_24 (by decide) (by decide)) (kp_k (κ := κ) hI_21 (by rw [hkx, hb_2k]; decide) q_13) (hd_u W9 hLx hkx hd_14 hI_21 (Or.inr (Or.inl ⟨(ro_a hb_2k (by decide) hb_2o hkx rfl), by decide⟩))) (hl_u W9 hLx hkx hl_15 hI_21 ⟨(ro_a hb_2k (by decide) hb_2o hkx rfl), by decide⟩) (ms_1 hm_16 (ti_k tx_24 rc_1) (by decide))
  have l_9 : ∀ (n_9 : Nat) (I_25 : Nat → Nat → Int32) (J_26 : Nat → Nat → Int64) (hU_27 : Iw L κ R ow I_25) (hF_28 : Fq L κ ow [1230, 83400, 84600, 84700, 84800] I I_25) (hG_29 : Fq L κ ow [] J J_26) (r_30 : Rg 0 0 a1) (v_31 : Int32) (v_32 : Int32) (rv_32 : Rg 0 7 v_32) (hd_33 : Hd_ R x I I_25) (hl_34 : Hl_ R x I I_25 375) (hm_35 : 7 < (v_32 : Int32).toInt + (n_9 : Int)), WG p l e { frames := 5, cells := 0, slots := 0, locals := 120 } s m ([.ref x, .int a0, .int a1] : List Value).toArray below meth c 5 0 0 (MQ below (Qv_ D cy L κ ln R (fun I2 J2 => Iw L κ R ow I2 ∧ Fq L κ ow [1230, 83400, 84600, 84700, 84800] I I2 ∧ Fq L κ ow [] J J2 ∧ (Hd_ R x I I2) ∧ (Hl_ R x I I2 375))) ([.ref x, .int a0, .int a1] : List Value).toArray s 0 0 (Al_ L)) D cy (Al_ L) s.heap L κ ln R I_25 J_26 9 [(0, .ref x), (1, .int a0), (2, .int a1), (3, .int v_31), (4, .int v_32)] [] := by
    intro n_9
    induction n_9 with
    | zero =>
      intro I_25 J_26 hU_27 hF_28 hG_29 r_30 v_31 v_32 rv_32 hd_33 hl_34 hm_35
      exact ms_0 rv_32 hm_35
    | succ n_9 ih_9 =>
      intro I_25 J_26 hU_27 hF_28 hG_29 r_30 v_31 v_32 rv_32 hd_33 hl_34 hm_35
      have j_38 : ∀ (I_36 : Nat → Nat → Int32) (J_37 : Nat → Nat → Int64) (hU_38 : Iw L κ R ow I_36) (hF_39 : Fq L κ ow [1230, 83400, 84600, 84700, 84800] I I_36) (hG_40 : Fq L κ ow [] J J_37) (r_41 : Rg 0 0 a1) (v_42 : Int32) (v_43 : Int32) (rv_43 : Rg 0 6 v_43) (hm_44 : 7 < (v_43 : Int32).toInt + ((n_9 + 1 : Nat) : Int)) (hd_45 : Hd_ R x I I_36) (hl_46 : Hl_ R x I I_36 375), WG p l e { frames := 5, cells := 0, slots := 0, locals := 120 } s m ([.ref x, .int a0, .int a1] : List Value).toArray below meth c 5 0 0 (MQ below (Qv_ D cy L κ ln R (fun I2 J2 => Iw L κ R ow I2 ∧ Fq L κ ow [1230, 83400, 84600, 84700, 84800] I I2 ∧ Fq L κ ow [] J J2 ∧ (Hd_ R x I I2) ∧ (Hl_ R x I I2 375))) ([.ref x, .int a0, .int a1] : List Value).toArray s 0 0 (Al_ L)) D cy (Al_ L) s.heap L κ ln R I_36 J_37 38 [(0, .ref x), (1, .int a0), (2, .int a1), (3, .int v_42), (4, .int v_43)] [] := by
        intro I_36 J_37 hU_38 hF_39 hG_40 r_41 v_42 v_43 rv_43 hm_44 hd_45 hl_46
        obtain ⟨x_47, hx_47, rx_47, tx_47⟩ := ex_add (y := 1) 1 7 rv_43 rc_1 (by decide) (by decide) (by decide) (by decide)
        refine g_iinc C dX12_orderFrom_38 (k := 4) (v := x_47) rfl hx_47 (by decide) (lo2 := [(4, .int x_47), (0, .ref x), (1, .int a0), (2, .int a1), (3, .int v_42)]) rfl ?_
        refine g_goto C (tgt := 9) dX12_orderFrom_41 (by decide) ?_
        refine g_lo (is := [1, 2, 3, 4, 0]) (lo2 := [(0, .ref x), (1, .int a0), (2, .int a1), (3, .int v_42), (4, .int x_47)]) rfl ?_
        exact ih_9 I_36 J_37 hU_38 hF_39 hG_40 (r_41) v_42 x_47 (rg_w rx_47 (by decide) (by decide)) hd_45 hl_46 (ms_1 hm_44 (ti_k tx_47 rc_1) (by decide))
      refine g_iload C 4 dX12_orderFrom_9 rfl ?_
      refine g_aload_n C 0 dX12_orderFrom_11 rfl rfl ?_
      refine g_getR C K hLx hkx f_12_13 hb_4 dX12_orderFrom_12 ?_
      refine g_iconst C (v := 0) dX12_orderFrom_15 (by decide) ?_
      obtain ⟨x_48, hx_48, rx_48⟩ := ex_getw (I := I_25) (a := b_4) (j := 0) (lo := 0) (hi := 7) hU_27.1 hb_4L (ro_a hb_4k (by decide) hb_4o hkx rfl) (by decide)
      refine h_iald C K hb_4L hb_4k (v := x_48) (0) (by decide) (by decide) (by rw [hb_4n]; decide) hx_48 dX12_orderFrom_16 ?_
      refine g_icmp_ge C (tgt := 44) dX12_orderFrom_17 (by decide) (fun h_49 => ?_) (fun h_49 => ?_)
      · skip
        refine g_iload_n C 3 dX12_orderFrom_44 rfl rfl ?_
        refine g_aload_n C 0 dX12_orderFrom_45 rfl rfl ?_
        obtain ⟨x_50, hx_50, rx_50⟩ := ex_getw (I := I_25) (a := x) (j := 30) (lo := (-2147483648)) (hi := 2147483647) hU_27.1 hLx (ro_o hkx (by decide)) rfl
        refine g_getI C K hLx hkx f_12_298 (v := x_50) hx_50 dX12_orderFrom_46 ?_
        refine g_icmp_lt C (tgt := 53) dX12_orderFrom_49 (by decide) (fun h_51 => ?_) (fun h_51 => ?_)
        · skip
          have r_52 := lt_l (hi := 2147483646) (h_51) (rg_all v_31) rx_50 (by decide)
          have r_53 := lt_r (lo := (-2147483647)) (h_51) (rg_all v_31) rx_50 (by decide)
          refine g_aload_n C 0 dX12_orderFrom_53 rfl rfl ?_
          refine g_iload_n C 3 dX12_orderFrom_54 rfl rfl ?_
          refine h_putI C K hLx hkx f_12_298 p_12_30 dX12_orderFrom_55 (fun I_54 hI_54 => ?_)
          have hU_55 := iw_put W9 hU_27 hI_54 (ro_o hkx (by decide)) (lo := (-2147483648)) (hi := 2147483647) (rfl) (rg_all _) rfl
          have hF_56 := fq_puto hF_28 hI_54 hkx (by decide) (by decide)
          refine g_iconst C (v := 0) dX12_orderFrom_58 (by decide) ?_
          refine g_istore C dX12_orderFrom_59 (by decide) (lo2 := [(4, .int 0), (0, .ref x), (1, .int a0), (2, .int a1), (3, .int v_31)]) rfl ?_
          refine g_lo (is := [1, 2, 3, 4, 0]) (lo2 := [(0, .ref x), (1, .int a0), (2, .int a1), (3, .int v_31), (4, .int 0)]) rfl ?_
          exact l_61 6 I_54 J_26 hU_55 hF_56 hG_29 (r_30) v_31 0 (rg_w rc_0 (by decide) (by decide)) (kp_s hI_54) (hd_u (r := 0) W9 hLx hkx hd_33 hI_54 (Or.inl (ro_o hkx (by decide)))) (hl_u W9 hLx hkx hl_34 hI_54 ⟨(ro_o hkx (by decide)), by decide⟩) (ms_s (a := 0) (b := 5) (N := 6) (rg_w rc_0 (by decide) (by decide)) (by decide))
        · skip
          exact g_vret B K rfl ⟨hU_27, hF_28, hG_29, hd_33, hl_34⟩ dX12_orderFrom_52
      · skip
        have r_57 := lt_l (hi := 6) (nle h_49) rv_32 rx_48 (by decide)
        have r_58 := lt_r (lo := 1) (nle h_49) rv_32 rx_48 (by decide)
        refine g_aload_n C 0 dX12_orderFrom_20 rfl rfl ?_
        refine g_iload C 4 dX12_orderFrom_21 rfl ?_
        refine g_callVI C K (c_X12_isDead W9 hLx hkx v_32 (r_57) hU_27) hLx hkx (by decide) rfl v_12_244 rfl ⟨rfl, rfl⟩ ⟨Nat.le_of_ble_eq_true rfl, Nat.le_of_ble_eq_true rfl⟩ (Nat.le_of_ble_eq_true rfl) ⟨Nat.le_of_ble_eq_true rfl, Nat.le_of_ble_eq_true rfl⟩ dX12_orderFrom_23 rfl (st := []) (fun x_59 I_60 J_61 h_62 => ?_)
        obtain ⟨rfl, rfl, rx_59⟩ := h_62
        refine g_if_ne C (tgt := 38) dX12_orderFrom_26 (by decide) (fun h_63 => ?_) (fun h_63 => ?_)
        · skip
          have n_64 : ¬ x_59 = 0 := h_63
          have r_65 := ne_lo (lo := 1) n_64 rx_59 rc_0 rfl (by decide)
          refine g_lo (is := [0, 1, 2, 3, 4]) (lo2 := [(0, .ref x), (1, .int a0), (2, .int a1), (3, .int v_31), (4, .int v_32)]) rfl ?_
          exact j_38 I_25 J_26 hU_27 hF_28 hG_29 (r_30) v_31 v_32 (r_57) hm_35 hd_33 hl_34
        · skip
          have r_66 := (⟨(rx_59).1, (eq_rg (h_63) rc_0).2⟩ : Rg 0 0 x_59)
          refine g_iload_n C 3 dX12_orderFrom_29 rfl rfl ?_
          refine g_aload_n C 0 dX12_orderFrom_30 rfl rfl ?_
          refine g_iload C 4 dX12_orderFrom_31 rfl ?_
          refine g_callVI C K (c_X12_wantsYet W9 hLx hkx v_32 (r_57) hU_27) hLx hkx (by decide) rfl v_12_268 rfl ⟨rfl, rfl⟩ ⟨Nat.le_of_ble_eq_true rfl, Nat.le_of_ble_eq_true rfl⟩ (Nat.le_of_ble_eq_true rfl) ⟨Nat.le_of_ble_eq_true rfl, Nat.le_of_ble_eq_true rfl⟩ dX12_orderFrom_33 rfl (st := [.int v_31]) (fun x_67 I_68 J_69 h_70 => ?_)
          obtain ⟨rfl, rfl, rx_67, ex_67⟩ := h_70
          obtain ⟨x_71, hx_71, rx_71⟩ := ex_any (z0 := v_31 + x_67)
          refine g_iadd C (v := x_71) dX12_orderFrom_36 hx_71 ?_
          refine g_istore_n C dX12_orderFrom_37 rfl (by decide) (lo2 := [(3, .int x_71), (0, .ref x), (1, .int a0), (2, .int a1), (4, .int v_32)]) rfl ?_
          refine g_lo (is := [1, 2, 3, 0, 4]) (lo2 := [(0, .ref x), (1, .int a0), (2, .int a1), (3, .int x_71), (4, .int v_32)]) rfl ?_
          exact j_38 I_25 J_26 hU_27 hF_28 hG_29 (r_30) x_71 v_32 (r_57) hm_35 hd_33 hl_34
  have l_124 : ∀ (n_124 : Nat) (I_72 : Nat → Nat → Int32) (J_73 : Nat → Nat → Int64) (hU_74 : Iw L κ R ow I_72) (hF_75 : Fq L κ ow [1230, 83400, 84600, 84700, 84800] I I_72) (hG_76 : Fq L κ ow [] J J_73) (r_77 : Rg 1 127 a1) (n_78 : ¬ a1 = 0) (v_79 : Int32) (rv_79 : Rg 0 7 v_79) (hd_80 : Hd_ R x I I_72) (hl_81 : Hl_ R x I I_72 375) (gh_82 : Gh_ R x I_72 375) (hm_83 : 7 < (v_79 : Int32).toInt + (n_124 : Int)), WG p l e { frames := 5, cells := 0, slots := 0, locals := 120 } s m ([.ref x, .int a0, .int a1] : List Value).toArray below meth c 5 0 0 (MQ below (Qv_ D cy L κ ln R (fun I2 J2 => Iw L κ R ow I2 ∧ Fq L κ ow [1230, 83400, 84600, 84700, 84800] I I2 ∧ Fq L κ ow [] J J2 ∧ (Hd_ R x I I2) ∧ (Hl_ R x I I2 375))) ([.ref x, .int a0, .int a1] : List Value).toArray s 0 0 (Al_ L)) D cy (Al_ L) s.heap L κ ln R I_72 J_73 124 [(0, .ref x), (1, .int a0), (2, .int a1), (3, .int v_79)] [] := by
    intro n_124
    induction n_124 with
    | zero =>
      intro I_72 J_73 hU_74 hF_75 hG_76 r_77 n_78 v_79 rv_79 hd_80 hl_81 gh_82 hm_83
      exact ms_0 rv_79 hm_83
    | succ n_124 ih_124 =>
      intro I_72 J_73 hU_74 hF_75 hG_76 r_77 n_78 v_79 rv_79 hd_80 hl_81 gh_82 hm_83
      have j_222 : ∀ (I_84 : Nat → Nat → Int32) (J_85 : Nat → Nat → Int64) (hU_86 : Iw L κ R ow I_84) (hF_87 : Fq L κ ow [1230, 83400, 84600, 84700, 84800] I I_84) (hG_88 : Fq L κ ow [] J J_85) (r_89 : Rg 1 127 a1) (n_90 : ¬ a1 = 0) (v_91 : Int32) (rv_91 : Rg 0 6 v_91) (hm_92 : 7 < (v_91 : Int32).toInt + ((n_124 + 1 : Nat) : Int)) (hd_93 : Hd_ R x I I_84) (hl_94 : Hl_ R x I I_84 375) (gh_95 : Gh_ R x I_84 375), WG p l e { frames := 5, cells := 0, slots := 0, locals := 120 } s m ([.ref x, .int a0, .int a1] : List Value).toArray below meth c 5 0 0 (MQ below (Qv_ D cy L κ ln R (fun I2 J2 => Iw L κ R ow I2 ∧ Fq L κ ow [1230, 83400, 84600, 84700, 84800] I I2 ∧ Fq L κ ow [] J J2 ∧ (Hd_ R x I I2) ∧ (Hl_ R x I I2 375))) ([.ref x, .int a0, .int a1] : List Value).toArray s 0 0 (Al_ L)) D cy (Al_ L) s.heap L κ ln R I_84 J_85 222 [(0, .ref x), (1, .int a0), (2, .int a1), (3, .int v_91)] [] := by
        intro I_84 J_85 hU_86 hF_87 hG_88 r_89 n_90 v_91 rv_91 hm_92 hd_93 hl_94 gh_95
        obtain ⟨x_96, hx_96, rx_96, tx_96⟩ := ex_add (y := 1) 1 7 rv_91 rc_1 (by decide) (by decide) (by decide) (by decide)
        refine g_iinc C dX12_orderFrom_222 (k := 3) (v := x_96) rfl hx_96 (by decide) (lo2 := [(3, .int x_96), (0, .ref x), (1, .int a0), (2, .int a1)]) rfl ?_
        refine g_goto C (tgt := 124) dX12_orderFrom_225 (by decide) ?_
        refine g_lo (is := [1, 2, 3, 0]) (lo2 := [(0, .ref x), (1, .int a0), (2, .int a1), (3, .int x_96)]) rfl ?_
        exact ih_124 I_84 J_85 hU_86 hF_87 hG_88 (r_89) (n_90) x_96 (rg_w rx_96 (by decide) (by decide)) hd_93 hl_94 gh_95 (ms_1 hm_92 (ti_k tx_96 rc_1) (by decide))
      have j_170 : ∀ (I_97 : Nat → Nat → Int32) (J_98 : Nat → Nat → Int64) (hU_99 : Iw L κ R ow I_97) (hF_100 : Fq L κ ow [1230, 83400, 84600, 84700, 84800] I I_97) (hG_101 : Fq L κ ow [] J J_98) (r_102 : Rg 1 127 a1) (n_103 : ¬ a1 = 0) (v_104 : Int32) (rv_104 : Rg 0 6 v_104) (hm_105 : 7 < (v_104 : Int32).toInt + ((n_124 + 1 : Nat) : Int)) (hd_106 : Hd_ R x I I_97) (hl_107 : Hl_ R x I I_97 375) (gh_108 : Gh_ R x I_97 375) (hb_109 : a1 >>> (v_104 &&& 31) &&& 1 = 1), WG p l e { frames := 5, cells := 0, slots := 0, locals := 120 } s m ([.ref x, .int a0, .int a1] : List Value).toArray below meth c 5 0 0 (MQ below (Qv_ D cy L κ ln R (fun I2 J2 => Iw L κ R ow I2 ∧ Fq L κ ow [1230, 83400, 84600, 84700, 84800] I I2 ∧ Fq L κ ow [] J J2 ∧ (Hd_ R x I I2) ∧ (Hl_ R x I I2 375))) ([.ref x, .int a0, .int a1] : List Value).toArray s 0 0 (Al_ L)) D cy (Al_ L) s.heap L κ ln R I_97 J_98 170 [(0, .ref x), (1, .int a0), (2, .int a1), (3, .int v_104)] [] := by
        intro I_97 J_98 hU_99 hF_100 hG_101 r_102 n_103 v_104 rv_104 hm_105 hd_106 hl_107 gh_108 hb_109
        refine g_aload_n C 0 dX12_orderFrom_170 rfl rfl ?_
        refine g_iload_n C 1 dX12_orderFrom_171 rfl rfl ?_
        refine g_iconst C (v := 1) dX12_orderFrom_172 (by decide) ?_
        obtain ⟨x_110, hx_110, rx_110, tx_110⟩ := ex_add 6 6 ra0 rc_1 (by decide) (by decide) (by decide) (by decide)
        refine g_iadd C (v := x_110) dX12_orderFrom_173 hx_110 ?_
        refine g_iload_n C 2 dX12_orderFrom_174 rfl rfl ?_
        refine g_iconst C (v := 1) dX12_orderFrom_175 (by decide) ?_
        refine g_iload_n C 3 dX12_orderFrom_176 rfl rfl ?_
        obtain ⟨x_111, hx_111, rx_111⟩ := ex_shl (x := 1) (y := v_104) 6 64 rfl (rv_104) (by decide)
        refine g_ishl C (v := x_111) dX12_orderFrom_177 hx_111 ?_
        refine g_iconst C (v := (-1)) dX12_orderFrom_178 (by decide) ?_
        obtain ⟨x_112, hx_112, rx_112⟩ := ex_any (z0 := x_111 ^^^ (-1))
        refine g_ixor C (v := x_112) dX12_orderFrom_179 hx_112 ?_
        obtain ⟨x_113, hx_113, rx_113⟩ := ex_andl (x := a1) (y := x_112) (b := 127) (rg_w r_102 (by decide) (by decide))
        refine g_iand C (v := x_113) dX12_orderFrom_180 hx_113 ?_
        refine g_callVV C K (c_X12_orderFrom_6 W9 hLx hkx x_110 x_113 (rx_110) (rx_113) hU_99  (by have q1 := bc_rm (z := x_113) (rg_w r_102 (by decide) (by decide)) (rv_104) hb_109 (by rw [hx_111, hx_112]; exact hx_113); have q2 := hbc; omega)) hLx hkx (by decide) rfl v_12_304 rfl ⟨rfl, rfl⟩ ⟨Nat.le_of_ble_eq_true rfl, Nat.le_of_ble_eq_true rfl⟩ (Nat.le_of_ble_eq_true rfl) ⟨Nat.le_of_ble_eq_true rfl, Nat.le_of_ble_eq_true rfl⟩ dX12_orderFrom_181 rfl (st := []) (fun I_115 J_116 h_117 => ?_)
        obtain ⟨hUI_115, hFI_115, hGJ_116, ex_114⟩ := h_117
        have hF_118 := fq_tr hF_100 hFI_115 (by decide)
        have hG_119 := fq_tr hG_101 hGJ_116 (by decide)
        refine g_iconst C (v := 0) dX12_orderFrom_184 (by decide) ?_
        refine g_istore C dX12_orderFrom_185 (by decide) (lo2 := [(4, .int 0), (0, .ref x), (1, .int a0), (2, .int a1), (3, .int v_104)]) rfl ?_
        refine g_lo (is := [1, 2, 3, 4, 0]) (lo2 := [(0, .ref x), (1, .int a0), (2, .int a1), (3, .int v_104), (4, .int 0)]) rfl ?_
        have ex_187 : ∀ (I_121 : Nat → Nat → Int32) (hI_121 : I_121 = cpn_ I_115 b_1 b_4 (375) (72) 75) (v_120 : Int32) (rv_120 : Rg 75 75 v_120), WG p l e { frames := 5, cells := 0, slots := 0, locals := 120 } s m ([.ref x, .int a0, .int a1] : List Value).toArray below meth c 5 0 0 (MQ below (Qv_ D cy L κ ln R (fun I2 J2 => Iw L κ R ow I2 ∧ Fq L κ ow [1230, 83400, 84600, 84700, 84800] I I2 ∧ Fq L κ ow [] J J2 ∧ (Hd_ R x I I2) ∧ (Hl_ R x I I2 375))) ([.ref x, .int a0, .int a1] : List Value).toArray s 0 0 (Al_ L)) D cy (Al_ L) s.heap L κ ln R I_121 J_116 222 [(0, .ref x), (1, .int a0), (2, .int a1), (3, .int v_104), (4, .int v_120)] [] := by
          intro I_121 hI_121 v_120 rv_120
          have hF_122 := fq_cpn hF_118 hI_121 (ro_a hb_4k (by decide) hb_4o hkx rfl) (by decide) (by decide)
          have hU_123 := uw_cpn hUI_115.1 hb_1L hI_121 (ro_a hb_4k (by decide) hb_4o hkx rfl) (ro_a hb_1k (by decide) hb_1o hkx rfl) (fun i hi => by rw [bn_834, bn_848, show (375 + i) % 75 = i by omega]; exact ⟨Int.le_refl _, Int.le_refl _⟩)
          have hU_124 := iw_set W9 hUI_115.2 hU_123 hLx hkx hb_4 hI_121 ((gh_of gh_108 ex_114.1 ex_114.2 (by decide)) _ _ hb_4 hb_1)
          refine g_lo (is := [0, 1, 2, 3]) (lo2 := [(0, .ref x), (1, .int a0), (2, .int a1), (3, .int v_104)]) rfl ?_
          exact j_222 I_121 J_116 hU_124 hF_122 hG_119 (r_102) (n_103) v_104 (rv_104) hm_105 (hd_c (r := 0) W9 hLx hkx (hd_t hd_106 ex_114.1) hI_121 (Or.inr (by omega))) (hl_c W9 hLx hkx (hl_t hl_107 ex_114.2 (by decide)) hI_121 (Or.inl ⟨(ro_a hb_4k (by decide) hb_4o hkx rfl), by decide⟩)) (gh_c W9 hLx hkx hb_4 (gh_of gh_108 ex_114.1 ex_114.2 (by decide)) hI_121)
        have l_187 : ∀ (m_187 : Nat) (v_125 : Int32) (I_126 : Nat → Nat → Int32), v_125.toInt + (m_187 : Int) = 75 → 0 ≤ v_125.toInt → I_126 = cpn_ I_115 b_1 b_4 (375) (72) v_125.toNatClampNeg → WG p l e { frames := 5, cells := 0, slots := 0, locals := 120 } s m ([.ref x, .int a0, .int a1] : List Value).toArray below meth c 5 0 0 (MQ below (Qv_ D cy L κ ln R (fun I2 J2 => Iw L κ R ow I2 ∧ Fq L κ ow [1230, 83400, 84600, 84700, 84800] I I2 ∧ Fq L κ ow [] J J2 ∧ (Hd_ R x I I2) ∧ (Hl_ R x I I2 375))) ([.ref x, .int a0, .int a1] : List Value).toArray s 0 0 (Al_ L)) D cy (Al_ L) s.heap L κ ln R I_126 J_116 187 [(0, .ref x), (1, .int a0), (2, .int a1), (3, .int v_104), (4, .int v_125)] [] := by
          intro m_187
          induction m_187 with
          | zero =>
            intro v_125 I_126 hk_187 h0_187 hI_126
            have rv_125 : Rg 75 75 v_125 := by unfold Rg; omega
            refine g_iload C 4 dX12_orderFrom_187 rfl ?_
            refine g_bipush C (v := 75) dX12_orderFrom_189 (by decide) ?_
            refine g_icmp_ge C (tgt := 222) dX12_orderFrom_191 (by decide) (fun h_127 => ?_) (fun h_127 => ?_)
            · skip
              refine g_lo (is := [0, 1, 2, 3, 4]) (lo2 := [(0, .ref x), (1, .int a0), (2, .int a1), (3, .int v_104), (4, .int v_125)]) rfl ?_
              exact ex_187 I_126 (hI_126.trans (congrArg (fun q => cpn_ I_115 b_1 b_4 (375) (72) q) (show v_125.toNatClampNeg = 75 from by have := ix_n rv_125 (by decide); have := rv_125.1; have := rv_125.2; omega))) v_125 rv_125
            · skip
              have r_128 := lt_l (hi := 74) (nle h_127) rv_125 rc_75 (by decide)
              exact rg_no r_128 (by decide)
          | succ m_187 ih_187 =>
            intro v_125 I_126 hk_187 h0_187 hI_126
            have rv_125 : Rg 0 74 v_125 := by unfold Rg; omega
            refine g_iload C 4 dX12_orderFrom_187 rfl ?_
            refine g_bipush C (v := 75) dX12_orderFrom_189 (by decide) ?_
            refine g_icmp_ge C (tgt := 222) dX12_orderFrom_191 (by decide) (fun h_129 => ?_) (fun h_129 => ?_)
            · skip
              have r_130 := le_r (h_129) rc_75 rv_125
              exact rg_no r_130 (by decide)
            · skip
              refine g_aload_n C 0 dX12_orderFrom_194 rfl rfl ?_
              refine g_getR C K hLx hkx f_12_13 hb_4 dX12_orderFrom_195 ?_
              refine g_bipush C (v := 72) dX12_orderFrom_198 (by decide) ?_
              refine g_iload C 4 dX12_orderFrom_200 rfl ?_
              obtain ⟨x_131, hx_131, rx_131, tx_131⟩ := ex_add 72 146 rc_72 rv_125 (by decide) (by decide) (by decide) (by decide)
              refine g_iadd C (v := x_131) dX12_orderFrom_202 hx_131 ?_
              refine g_aload_n C 0 dX12_orderFrom_203 rfl rfl ?_
              refine g_getR C K hLx hkx f_12_48 hb_1 dX12_orderFrom_204 ?_
              refine g_bipush C (v := 75) dX12_orderFrom_207 (by decide) ?_
              refine g_iload_n C 1 dX12_orderFrom_209 rfl rfl ?_
              obtain ⟨x_132, hx_132, rx_132, tx_132⟩ := ex_mulT 375 375 rc_75 ra0 (by decide) (by decide) (by decide) (by decide) (by decide)
              refine g_imul C (v := x_132) dX12_orderFrom_210 hx_132 ?_
              refine g_iload C 4 dX12_orderFrom_211 rfl ?_
              obtain ⟨x_133, hx_133, rx_133, tx_133⟩ := ex_add 375 449 rx_132 rv_125 (by decide) (by decide) (by decide) (by decide)
              refine g_iadd C (v := x_133) dX12_orderFrom_213 hx_133 ?_
              obtain ⟨x_134, hx_134, rx_134⟩ := ex_any (z0 := I_126 b_1 (x_133.toNatClampNeg))
              refine h_iald C K hb_1L hb_1k (v := x_134) (x_133.toNatClampNeg) (rfl) (ix_0 rx_133 (by decide)) (ix_lt rx_133 (by decide) hb_1n (by decide)) hx_134 dX12_orderFrom_214 ?_
              refine h_iast C K hb_4L hb_4k (x_131.toNatClampNeg) (rfl) (ix_0 rx_131 (by decide)) (ix_lt rx_131 (by decide) hb_4n (by decide)) dX12_orderFrom_215 (fun I_135 hI_135 => ?_)
              obtain ⟨x_136, hx_136, rx_136, tx_136⟩ := ex_add (y := 1) 1 75 rv_125 rc_1 (by decide) (by decide) (by decide) (by decide)
              refine g_iinc C dX12_orderFrom_216 (k := 4) (v := x_136) rfl hx_136 (by decide) (lo2 := [(4, .int x_136), (0, .ref x), (1, .int a0), (2, .int a1), (3, .int v_104)]) rfl ?_
              refine g_goto C (tgt := 187) dX12_orderFrom_219 (by decide) ?_
              refine g_lo (is := [1, 2, 3, 4, 0]) (lo2 := [(0, .ref x), (1, .int a0), (2, .int a1), (3, .int v_104), (4, .int x_136)]) rfl ?_
              have kk_187 : x_136.toNatClampNeg = v_125.toNatClampNeg + 1 := by have q1 := ix_n rv_125 (by decide); have q2 := (ti_k tx_136 rc_1); have q3 : x_136.toNatClampNeg = x_136.toInt.toNat := rfl; omega
              exact ih_187 x_136 I_135 (by have := (ti_k tx_136 rc_1); omega) (by have := (ti_k tx_136 rc_1); omega) (by rw [kk_187]; exact cpn_s hI_126 hx_134 hI_135 (show x_133.toNatClampNeg = (375) + v_125.toNatClampNeg from by rw [nx_a tx_133 rx_132 rv_125 (by decide), nx_m (k := 75) tx_132 ra0 (by decide)] <;> omega) (show x_131.toNatClampNeg = (72) + v_125.toNatClampNeg from by rw [nx_a tx_131 rc_72 rv_125 (by decide)]; simp only [show (72 : Int32).toNatClampNeg = 72 from rfl] <;> omega) (Or.inl (ne_ro (ro_a hb_1k (by decide) hb_1o hkx rfl) (ro_a hb_4k (by decide) hb_4o hkx rfl) (by decide))))
        exact l_187 75 0 I_115 (by decide) (by decide) cpn_0
      refine g_iload_n C 3 dX12_orderFrom_124 rfl rfl ?_
      refine g_aload_n C 0 dX12_orderFrom_125 rfl rfl ?_
      refine g_getR C K hLx hkx f_12_13 hb_4 dX12_orderFrom_126 ?_
      refine g_iconst C (v := 0) dX12_orderFrom_129 (by decide) ?_
      obtain ⟨x_137, hx_137, rx_137⟩ := ex_getw (I := I_72) (a := b_4) (j := 0) (lo := 0) (hi := 7) hU_74.1 hb_4L (ro_a hb_4k (by decide) hb_4o hkx rfl) (by decide)
      refine h_iald C K hb_4L hb_4k (v := x_137) (0) (by decide) (by decide) (by rw [hb_4n]; decide) hx_137 dX12_orderFrom_130 ?_
      refine g_icmp_ge C (tgt := 228) dX12_orderFrom_131 (by decide) (fun h_138 => ?_) (fun h_138 => ?_)
      · skip
        exact g_vret B K rfl ⟨hU_74, hF_75, hG_76, hd_80, hl_81⟩ dX12_orderFrom_228
      · skip
        have r_139 := lt_l (hi := 6) (nle h_138) rv_79 rx_137 (by decide)
        have r_140 := lt_r (lo := 1) (nle h_138) rv_79 rx_137 (by decide)
        refine g_iload_n C 2 dX12_orderFrom_134 rfl rfl ?_
        refine g_iload_n C 3 dX12_orderFrom_135 rfl rfl ?_
        refine g_callSI C K (c_X12_has W9 a1 v_79  hU_74) s_12_231 rfl ⟨rfl, rfl⟩ ⟨Nat.le_of_ble_eq_true rfl, Nat.le_of_ble_eq_true rfl⟩ (Nat.le_of_ble_eq_true rfl) ⟨Nat.le_of_ble_eq_true rfl, Nat.le_of_ble_eq_true rfl⟩ dX12_orderFrom_136 rfl (st := []) (fun x_141 I_142 J_143 h_144 => ?_)
        obtain ⟨rfl, rfl, rx_141, ex_141⟩ := h_144
        refine g_if_ne C (tgt := 145) dX12_orderFrom_139 (by decide) (fun h_145 => ?_) (fun h_145 => ?_)
        · skip
          have n_146 : ¬ x_141 = 0 := h_145
          have r_147 := ne_lo (lo := 1) n_146 rx_141 rc_0 rfl (by decide)
          refine g_aload_n C 0 dX12_orderFrom_145 rfl rfl ?_
          refine g_getR C K hLx hkx f_12_42 hb_3 dX12_orderFrom_146 ?_
          refine g_iload_n C 1 dX12_orderFrom_149 rfl rfl ?_
          refine g_iload_n C 3 dX12_orderFrom_150 rfl rfl ?_
          refine h_iast C K hb_3L hb_3k (a0.toNatClampNeg) (rfl) (ix_0 ra0 (by decide)) (ix_lt ra0 (by decide) hb_3n (by decide)) dX12_orderFrom_151 (fun I_148 hI_148 => ?_)
          have hU_149 := iw_put W9 hU_74 hI_148 (ro_a hb_3k (by decide) hb_3o hkx rfl) (lo := (-2147483648)) (hi := 2147483647) (rfl) (rg_all _) rfl
          have hF_150 := fq_puta hF_75 hI_148 (ro_a hb_3k (by decide) hb_3o hkx rfl) (by decide) (by decide)
          refine g_aload_n C 0 dX12_orderFrom_152 rfl rfl ?_
          refine g_iload_n C 3 dX12_orderFrom_153 rfl rfl ?_
          refine g_callVV C K (c_X12_eatsAll W9 hLx hkx v_79 (r_139) hU_149) hLx hkx (by decide) rfl v_12_301 rfl ⟨rfl, rfl⟩ ⟨Nat.le_of_ble_eq_true rfl, Nat.le_of_ble_eq_true rfl⟩ (Nat.le_of_ble_eq_true rfl) ⟨Nat.le_of_ble_eq_true rfl, Nat.le_of_ble_eq_true rfl⟩ dX12_orderFrom_154 rfl (st := []) (fun I_152 J_153 h_154 => ?_)
          obtain ⟨hUI_152, hFI_152, hGJ_153, ex_151⟩ := h_154
          have hF_155 := fq_tr hF_150 hFI_152 (by decide)
          have hG_156 := fq_tr hG_76 hGJ_153 (by decide)
          refine g_aload_n C 0 dX12_orderFrom_157 rfl rfl ?_
          refine g_iload_n C 3 dX12_orderFrom_158 rfl rfl ?_
          refine g_callVI C K (c_X12_plateOf W9 hLx hkx v_79 (r_139) hUI_152) hLx hkx (by decide) rfl v_12_247 rfl ⟨rfl, rfl⟩ ⟨Nat.le_of_ble_eq_true rfl, Nat.le_of_ble_eq_true rfl⟩ (Nat.le_of_ble_eq_true rfl) ⟨Nat.le_of_ble_eq_true rfl, Nat.le_of_ble_eq_true rfl⟩ dX12_orderFrom_159 rfl (st := []) (fun x_157 I_158 J_159 h_160 => ?_)
          obtain ⟨rfl, rfl, rx_157⟩ := h_160
          refine g_if_le C (tgt := 170) dX12_orderFrom_162 (by decide) (fun h_161 => ?_) (fun h_161 => ?_)
          · skip
            have r_162 := le_l (h_161) rx_157 rc_0
            refine g_lo (is := [0, 1, 2, 3]) (lo2 := [(0, .ref x), (1, .int a0), (2, .int a1), (3, .int v_79)]) rfl ?_
            exact j_170 I_152 J_153 hUI_152 hF_155 hG_156 (r_77) (n_78) v_79 (r_139) hm_83 (hd_t (hd_u W9 hLx hkx hd_80 hI_148 (Or.inr (Or.inl ⟨(ro_a hb_3k (by decide) hb_3o hkx rfl), by decide⟩))) ex_151) (hl_fq W9 hLx hkx (hl_u W9 hLx hkx hl_81 hI_148 ⟨(ro_a hb_3k (by decide) hb_3o hkx rfl), by decide⟩) hFI_152 (by decide)) (gh_mv W9 hLx hkx (gh_u W9 hLx hkx gh_82 hI_148 ⟨(ro_a hb_3k (by decide) hb_3o hkx rfl), by decide, by decide⟩) ex_151 hFI_152 (by decide)) (ex_141 n_146)
          · skip
            have r_163 := lt_r (lo := 1) (nle h_161) rc_0 rx_157 (by decide)
            refine g_aload_n C 0 dX12_orderFrom_165 rfl rfl ?_
            refine g_iload_n C 3 dX12_orderFrom_166 rfl rfl ?_
            refine g_callVV C K (c_X12_pass W9 hLx hkx v_79 (r_139) hUI_152) hLx hkx (by decide) rfl v_12_275 rfl ⟨rfl, rfl⟩ ⟨Nat.le_of_ble_eq_true rfl, Nat.le_of_ble_eq_true rfl⟩ (Nat.le_of_ble_eq_true rfl) ⟨Nat.le_of_ble_eq_true rfl, Nat.le_of_ble_eq_true rfl⟩ dX12_orderFrom_167 rfl (st := []) (fun I_165 J_166 h_167 => ?_)
            obtain ⟨hUI_165, hFI_165, hGJ_166, ex_164⟩ := h_167
            have hF_168 := fq_tr hF_155 hFI_165 (by decide)
            have hG_169 := fq_tr hG_156 hGJ_166 (by decide)
            refine g_lo (is := [0, 1, 2, 3]) (lo2 := [(0, .ref x), (1, .int a0), (2, .int a1), (3, .int v_79)]) rfl ?_
            exact j_170 I_165 J_166 hUI_165 hF_168 hG_169 (r_77) (n_78) v_79 (r_139) hm_83 (hd_t (hd_t (hd_u W9 hLx hkx hd_80 hI_148 (Or.inr (Or.inl ⟨(ro_a hb_3k (by decide) hb_3o hkx rfl), by decide⟩))) ex_151) ex_164) (hl_fq W9 hLx hkx (hl_fq W9 hLx hkx (hl_u W9 hLx hkx hl_81 hI_148 ⟨(ro_a hb_3k (by decide) hb_3o hkx rfl), by decide⟩) hFI_152 (by decide)) hFI_165 (by decide)) (gh_mv W9 hLx hkx (gh_mv W9 hLx hkx (gh_u W9 hLx hkx gh_82 hI_148 ⟨(ro_a hb_3k (by decide) hb_3o hkx rfl), by decide, by decide⟩) ex_151 hFI_152 (by decide)) ex_164 hFI_165 (by decide)) (ex_141 n_146)
        · skip
          have r_170 := (⟨(rx_141).1, (eq_rg (h_145) rc_0).2⟩ : Rg 0 0 x_141)
          refine g_goto C (tgt := 222) dX12_orderFrom_142 (by decide) ?_
          refine g_lo (is := [0, 1, 2, 3]) (lo2 := [(0, .ref x), (1, .int a0), (2, .int a1), (3, .int v_79)]) rfl ?_
          exact j_222 I_72 J_73 hU_74 hF_75 hG_76 (r_77) (n_78) v_79 (r_139) hm_83 hd_80 hl_81 gh_82
  refine g_iload_n C 2 dX12_orderFrom_0 rfl rfl ?_
  refine g_if_ne C (tgt := 88) dX12_orderFrom_1 (by decide) (fun h_171 => ?_) (fun h_171 => ?_)
  · skip
    have n_172 : ¬ a1 = 0 := h_171
    have r_173 := ne_lo (lo := 1) n_172 ra1 rc_0 rfl (by decide)
    refine g_iconst C (v := 0) dX12_orderFrom_88 (by decide) ?_
    refine g_istore_n C dX12_orderFrom_89 rfl (by decide) (lo2 := [(3, .int 0), (0, .ref x), (1, .int a0), (2, .int a1)]) rfl ?_
    refine g_lo (is := [1, 2, 3, 0]) (lo2 := [(0, .ref x), (1, .int a0), (2, .int a1), (3, .int 0)]) rfl ?_
    have ex_90 : ∀ (I_175 : Nat → Nat → Int32) (hI_175 : I_175 = cpn_ I b_4 b_1 (72) (375) 75) (v_174 : Int32) (rv_174 : Rg 75 75 v_174), WG p l e { frames := 5, cells := 0, slots := 0, locals := 120 } s m ([.ref x, .int a0, .int a1] : List Value).toArray below meth c 5 0 0 (MQ below (Qv_ D cy L κ ln R (fun I2 J2 => Iw L κ R ow I2 ∧ Fq L κ ow [1230, 83400, 84600, 84700, 84800] I I2 ∧ Fq L κ ow [] J J2 ∧ (Hd_ R x I I2) ∧ (Hl_ R x I I2 375))) ([.ref x, .int a0, .int a1] : List Value).toArray s 0 0 (Al_ L)) D cy (Al_ L) s.heap L κ ln R I_175 J 122 [(0, .ref x), (1, .int a0), (2, .int a1), (3, .int v_174)] [] := by
      intro I_175 hI_175 v_174 rv_174
      have hF_176 := fq_cpn hF hI_175 (ro_a hb_1k (by decide) hb_1o hkx rfl) (by decide) (by decide)
      have hU_177 := uw_cpn hU.1 hb_4L hI_175 (ro_a hb_1k (by decide) hb_1o hkx rfl) (ro_a hb_4k (by decide) hb_4o hkx rfl) (fun i hi => by rw [bn_848, bn_834, show (375 + i) % 75 = i by omega]; exact ⟨Int.le_refl _, Int.le_refl _⟩)
      have hU_178 := iw_cpo W9 hU.2 hU_177 hI_175 (ro_a hb_1k (by decide) hb_1o hkx rfl) (fun _ => rfl)
      refine g_iconst C (v := 0) dX12_orderFrom_122 (by decide) ?_
      refine g_istore_n C dX12_orderFrom_123 rfl (by decide) (lo2 := [(3, .int 0), (0, .ref x), (1, .int a0), (2, .int a1)]) rfl ?_
      refine g_lo (is := [1, 2, 3, 0]) (lo2 := [(0, .ref x), (1, .int a0), (2, .int a1), (3, .int 0)]) rfl ?_
      exact l_124 8 I_175 J hU_178 hF_176 hG (r_173) (n_172) 0 (rg_w rc_0 (by decide) (by decide)) (hd_c (r := 848) W9 hLx hkx hd_rf hI_175 (Or.inl ⟨(ro_a hb_1k (by decide) hb_1o hkx rfl), by decide⟩)) (hl_c (r := 0) W9 hLx hkx hl_rf hI_175 (Or.inr (Nat.le_refl _))) (gh_lay W9 hU.2 hLx hkx hb_4 hb_1 hI_175) (ms_s (a := 0) (b := 7) (N := 8) (rg_w rc_0 (by decide) (by decide)) (by decide))
    have l_90 : ∀ (m_90 : Nat) (v_179 : Int32) (I_180 : Nat → Nat → Int32), v_179.toInt + (m_90 : Int) = 75 → 0 ≤ v_179.toInt → I_180 = cpn_ I b_4 b_1 (72) (375) v_179.toNatClampNeg → WG p l e { frames := 5, cells := 0, slots := 0, locals := 120 } s m ([.ref x, .int a0, .int a1] : List Value).toArray below meth c 5 0 0 (MQ below (Qv_ D cy L κ ln R (fun I2 J2 => Iw L κ R ow I2 ∧ Fq L κ ow [1230, 83400, 84600, 84700, 84800] I I2 ∧ Fq L κ ow [] J J2 ∧ (Hd_ R x I I2) ∧ (Hl_ R x I I2 375))) ([.ref x, .int a0, .int a1] : List Value).toArray s 0 0 (Al_ L)) D cy (Al_ L) s.heap L κ ln R I_180 J 90 [(0, .ref x), (1, .int a0), (2, .int a1), (3, .int v_179)] [] := by
      intro m_90
      induction m_90 with
      | zero =>
        intro v_179 I_180 hk_90 h0_90 hI_180
        have rv_179 : Rg 75 75 v_179 := by unfold Rg; omega
        refine g_iload_n C 3 dX12_orderFrom_90 rfl rfl ?_
        refine g_bipush C (v := 75) dX12_orderFrom_91 (by decide) ?_
        refine g_icmp_ge C (tgt := 122) dX12_orderFrom_93 (by decide) (fun h_181 => ?_) (fun h_181 => ?_)
        · skip
          refine g_lo (is := [0, 1, 2, 3]) (lo2 := [(0, .ref x), (1, .int a0), (2, .int a1), (3, .int v_179)]) rfl ?_
          exact ex_90 I_180 (hI_180.trans (congrArg (fun q => cpn_ I b_4 b_1 (72) (375) q) (show v_179.toNatClampNeg = 75 from by have := ix_n rv_179 (by decide); have := rv_179.1; have := rv_179.2; omega))) v_179 rv_179
        · skip
          have r_182 := lt_l (hi := 74) (nle h_181) rv_179 rc_75 (by decide)
          exact rg_no r_182 (by decide)
      | succ m_90 ih_90 =>
        intro v_179 I_180 hk_90 h0_90 hI_180
        have rv_179 : Rg 0 74 v_179 := by unfold Rg; omega
        refine g_iload_n C 3 dX12_orderFrom_90 rfl rfl ?_
        refine g_bipush C (v := 75) dX12_orderFrom_91 (by decide) ?_
        refine g_icmp_ge C (tgt := 122) dX12_orderFrom_93 (by decide) (fun h_183 => ?_) (fun h_183 => ?_)
        · skip
          have r_184 := le_r (h_183) rc_75 rv_179
          exact rg_no r_184 (by decide)
        · skip
          refine g_aload_n C 0 dX12_orderFrom_96 rfl rfl ?_
          refine g_getR C K hLx hkx f_12_48 hb_1 dX12_orderFrom_97 ?_
          refine g_bipush C (v := 75) dX12_orderFrom_100 (by decide) ?_
          refine g_iload_n C 1 dX12_orderFrom_102 rfl rfl ?_
          obtain ⟨x_185, hx_185, rx_185, tx_185⟩ := ex_mulT 375 375 rc_75 ra0 (by decide) (by decide) (by decide) (by decide) (by decide)
          refine g_imul C (v := x_185) dX12_orderFrom_103 hx_185 ?_
          refine g_iload_n C 3 dX12_orderFrom_104 rfl rfl ?_
          obtain ⟨x_186, hx_186, rx_186, tx_186⟩ := ex_add 375 449 rx_185 rv_179 (by decide) (by decide) (by decide) (by decide)
          refine g_iadd C (v := x_186) dX12_orderFrom_105 hx_186 ?_
          refine g_aload_n C 0 dX12_orderFrom_106 rfl rfl ?_
          refine g_getR C K hLx hkx f_12_13 hb_4 dX12_orderFrom_107 ?_
          refine g_bipush C (v := 72) dX12_orderFrom_110 (by decide) ?_
          refine g_iload_n C 3 dX12_orderFrom_112 rfl rfl ?_
          obtain ⟨x_187, hx_187, rx_187, tx_187⟩ := ex_add 72 146 rc_72 rv_179 (by decide) (by decide) (by decide) (by decide)
          refine g_iadd C (v := x_187) dX12_orderFrom_113 hx_187 ?_
          obtain ⟨x_188, hx_188, rx_188⟩ := ex_any (z0 := I_180 b_4 (x_187.toNatClampNeg))
          refine h_iald C K hb_4L hb_4k (v := x_188) (x_187.toNatClampNeg) (rfl) (ix_0 rx_187 (by decide)) (ix_lt rx_187 (by decide) hb_4n (by decide)) hx_188 dX12_orderFrom_114 ?_
          refine h_iast C K hb_1L hb_1k (x_186.toNatClampNeg) (rfl) (ix_0 rx_186 (by decide)) (ix_lt rx_186 (by decide) hb_1n (by decide)) dX12_orderFrom_115 (fun I_189 hI_189 => ?_)
          obtain ⟨x_190, hx_190, rx_190, tx_190⟩ := ex_add (y := 1) 1 75 rv_179 rc_1 (by decide) (by decide) (by decide) (by decide)
          refine g_iinc C dX12_orderFrom_116 (k := 3) (v := x_190) rfl hx_190 (by decide) (lo2 := [(3, .int x_190), (0, .ref x), (1, .int a0), (2, .int a1)]) rfl ?_
          refine g_goto C (tgt := 90) dX12_orderFrom_119 (by decide) ?_
          refine g_lo (is := [1, 2, 3, 0]) (lo2 := [(0, .ref x), (1, .int a0), (2, .int a1), (3, .int x_190)]) rfl ?_
          have kk_90 : x_190.toNatClampNeg = v_179.toNatClampNeg + 1 := by have q1 := ix_n rv_179 (by decide); have q2 := (ti_k tx_190 rc_1); have q3 : x_190.toNatClampNeg = x_190.toInt.toNat := rfl; omega
          exact ih_90 x_190 I_189 (by have := (ti_k tx_190 rc_1); omega) (by have := (ti_k tx_190 rc_1); omega) (by rw [kk_90]; exact cpn_s hI_180 hx_188 hI_189 (show x_187.toNatClampNeg = (72) + v_179.toNatClampNeg from by rw [nx_a tx_187 rc_72 rv_179 (by decide)]; simp only [show (72 : Int32).toNatClampNeg = 72 from rfl] <;> omega) (show x_186.toNatClampNeg = (375) + v_179.toNatClampNeg from by rw [nx_a tx_186 rx_185 rv_179 (by decide), nx_m (k := 75) tx_185 ra0 (by decide)] <;> omega) (Or.inl (ne_ro (ro_a hb_4k (by decide) hb_4o hkx rfl) (ro_a hb_1k (by decide) hb_1o hkx rfl) (by decide))))
    exact l_90 75 0 I (by decide) (by decide) cpn_0
  · skip
    have r_191 := (⟨(ra1).1, (eq_rg (h_171) rc_0).2⟩ : Rg 0 0 a1)
    refine g_iconst C (v := 0) dX12_orderFrom_4 (by decide) ?_
    refine g_istore_n C dX12_orderFrom_5 rfl (by decide) (lo2 := [(3, .int 0), (0, .ref x), (1, .int a0), (2, .int a1)]) rfl ?_
    refine g_iconst C (v := 0) dX12_orderFrom_6 (by decide) ?_
    refine g_istore C dX12_orderFrom_7 (by decide) (lo2 := [(4, .int 0), (3, .int 0), (0, .ref x), (1, .int a0), (2, .int a1)]) rfl ?_
    refine g_lo (is := [2, 3, 4, 1, 0]) (lo2 := [(0, .ref x), (1, .int a0), (2, .int a1), (3, .int 0), (4, .int 0)]) rfl ?_
    exact l_9 8 I J hU hF hG (r_191) 0 0 (rg_w rc_0 (by decide) (by decide)) hd_rf hl_rf (ms_s (a := 0) (b := 7) (N := 8) (rg_w rc_0 (by decide) (by decide)) (by decide))
set_option maxRecDepth 100000 in
set_option maxHeartbeats 8000000 in
theorem c_X12_orderFrom_4 {l : Launch} {D : va_G} {cy : Nat → ClassId} {L : List Nat} {κ ln : Nat → Nat} {R : Nat → Nat → Option Nat} {I : Nat → Nat → Int32} {J : Nat → Nat → Int64} {ow : Nat → Nat × Nat} (W9 : ∀ a ∈ L, Shp L κ ln R ow a) {x : Nat} (hLx : x ∈ L) (hkx : κ x = 12) (a0 : Int32) (a1 : Int32) (ra0 : Rg 4 4 a0) (ra1 : Rg 0 127 a1) (hU : Iw L κ R ow I) (hbc : (bc_ a1).toInt ≤ 3) : CtV l yX12_orderFrom cX12_orderFrom 5 none { frames := 6, cells := 0, slots := 0, locals := 144 } D cy L κ ln R I J [.ref x, .int a0, .int a1] (fun I2 J2 => Iw L κ R ow I2 ∧ Fq L κ ow [1230, 83400, 84600, 84700, 84800] I I2 ∧ Fq L κ ow [] J J2 ∧ (Hd_ R x I I2) ∧ (Hl_ R x I I2 300)) := by
  refine CtV.of (by decide +kernel) (Nat.le_of_ble_eq_true rfl) ?_
  intro p e s m below meth c B K
  have C := B.1
  have hF : Fq L κ ow [1230, 83400, 84600, 84700, 84800] I I := fq_rf
  have hG : Fq L κ ow [] J J := fq_rf
  obtain ⟨b_1, hb_1, hb_1L, hb_1k, hb_1n, hb_1o⟩ := shp_a (W9 x hLx) hkx 28 14 525 rfl (by decide)
  obtain ⟨b_2, hb_2, hb_2L, hb_2k, hb_2n, hb_2o⟩ := shp_a (W9 x hLx) hkx 27 14 7 rfl (by decide)
  obtain ⟨b_3, hb_3, hb_3L, hb_3k, hb_3n, hb_3o⟩ := shp_a (W9 x hLx) hkx 26 14 7 rfl (by decide)
  obtain ⟨b_4, hb_4, hb_4L, hb_4k, hb_4n, hb_4o⟩ := shp_a (W9 x hLx) hkx 14 14 389 rfl (by decide)
  have ea0 : a0.toNatClampNeg = 4 := by have q1 := ix_n ra0 (by decide); have q2 := ra0.1; have q3 := ra0.2; omega
  refine g_lo (is := [0, 1, 2]) (lo2 := [(0, .ref x), (1, .int a0), (2, .int a1)]) rfl ?_
  have l_61 : ∀ (n_61 : Nat) (I_5 : Nat → Nat → Int32) (J_6 : Nat → Nat → Int64) (hU_7 : Iw L κ R ow I_5) (hF_8 : Fq L κ ow [1230, 83400, 84600, 84700, 84800] I I_5) (hG_9 : Fq L κ ow [] J J_6) (r_10 : Rg 0 0 a1) (v_11 : Int32) (v_12 : Int32) (rv_12 : Rg 0 4 v_12) (q_13 : I_5 x 30 = v_11) (hd_14 : Hd_ R x I I_5) (hl_15 : Hl_ R x I I_5 300) (hm_16 : 4 < (v_12 : Int32).toInt + (n_61 : Int)), WG p l e { frames := 6, cells := 0, slots := 0, locals := 144 } s m ([.ref x, .int a0, .int a1] : List Value).toArray below meth c 5 0 0 (MQ below (Qv_ D cy L κ ln R (fun I2 J2 => Iw L κ R ow I2 ∧ Fq L κ ow [1230, 83400, 84600, 84700, 84800] I I2 ∧ Fq L κ ow [] J J2 ∧ (Hd_ R x I I2) ∧ (Hl_ R x I I2 300))) ([.ref x, .int a0, .int a1] : List Value).toArray s 0 0 (Al_ L)) D cy (Al_ L) s.heap L κ ln R I_5 J_6 61 [(0, .ref x), (1, .int a0), (2, .int a1), (3, .int v_11), (4, .int v_12)] [] := by
    intro n_61
    induction n_61 with
    | zero =>
      intro I_5 J_6 hU_7 hF_8 hG_9 r_10 v_11 v_12 rv_12 q_13 hd_14 hl_15 hm_16
      exact ms_0 rv_12 hm_16
    | succ n_61 ih_61 =>
      intro I_5 J_6 hU_7 hF_8 hG_9 r_10 v_11 v_12 rv_12 q_13 hd_14 hl_15 hm_16
      refine g_iload C 4 dX12_orderFrom_61 rfl ?_
      refine g_iload_n C 1 dX12_orderFrom_63 rfl rfl ?_
      refine g_icmp_ge C (tgt := 87) dX12_orderFrom_64 (by decide) (fun h_17 => ?_) (fun h_17 => ?_)
      · skip
        have r_18 := le_r (h_17) ra0 rv_12
        exact g_vret B K rfl ⟨hU_7, hF_8, hG_9, hd_14, hl_15⟩ dX12_orderFrom_87
      · skip
        have r_19 := lt_l (hi := 3) (nle h_17) rv_12 ra0 (by decide)
        refine g_aload_n C 0 dX12_orderFrom_67 rfl rfl ?_
        refine g_getR C K hLx hkx f_12_45 hb_2 dX12_orderFrom_68 ?_
        refine g_iload C 4 dX12_orderFrom_71 rfl ?_
        refine g_aload_n C 0 dX12_orderFrom_73 rfl rfl ?_
        refine g_getR C K hLx hkx f_12_42 hb_3 dX12_orderFrom_74 ?_
        refine g_iload C 4 dX12_orderFrom_77 rfl ?_
        obtain ⟨x_20, hx_20, rx_20⟩ := ex_any (z0 := I_5 b_3 (v_12.toNatClampNeg))
        refine h_iald C K hb_3L hb_3k (v := x_20) (v_12.toNatClampNeg) (rfl) (ix_0 r_19 (by decide)) (ix_lt r_19 (by decide) hb_3n (by decide)) hx_20 dX12_orderFrom_79 ?_
        refine h_iast C K hb_2L hb_2k (v_12.toNatClampNeg) (rfl) (ix_0 r_19 (by decide)) (ix_lt r_19 (by decide) hb_2n (by decide)) dX12_orderFrom_80 (fun I_21 hI_21 => ?_)
        have hU_22 := iw_put W9 hU_7 hI_21 (ro_a hb_2k (by decide) hb_2o hkx rfl) (lo := (-2147483648)) (hi := 2147483647) (rfl) (rx_20) rfl
        have hF_23 := fq_puta hF_8 hI_21 (ro_a hb_2k (by decide) hb_2o hkx rfl) (by decide) (by decide)
        obtain ⟨x_24, hx_24, rx_24, tx_24⟩ := ex_add (y := 1) 1 4 r_19 rc_1 (by decide) (by decide) (by decide) (by decide)
        refine g_iinc C dX12_orderFrom_81 (k := 4) (v := x_24) rfl hx_24 (by decide) (lo2 := [(4, .int x_24), (0, .ref x), (1, .int a0), (2, .int a1), (3, .int v_11)]) rfl ?_
        refine g_goto C (tgt := 61) dX12_orderFrom_84 (by decide) ?_
        refine g_lo (is := [1, 2, 3, 4, 0]) (lo2 := [(0, .ref x), (1, .int a0), (2, .int a1), (3, .int v_11), (4, .int x_24)]) rfl ?_
        exact ih_61 I_21 J_6 hU_22 hF_23 hG_9 (r_10) v_11 x_24 (rg_w rx_24 (by decide) (by decide)) (kp_k (κ := κ) hI_21 (by rw [hkx, hb_2k]; decide) q_13) (hd_u W9 hLx hkx hd_14 hI_21 (Or.inr (Or.inl ⟨(ro_a hb_2k (by decide) hb_2o hkx rfl), by decide⟩))) (hl_u W9 hLx hkx hl_15 hI_21 ⟨(ro_a hb_2k (by decide) hb_2o hkx rfl), by decide⟩) (ms_1 hm_16 (ti_k tx_24 rc_1) (by decide))
  have l_9 : ∀ (n_9 : Nat) (I_25 : Nat → Nat → Int32) (J_26 : Nat → Nat → Int64) (hU_27 : Iw L κ R ow I_25) (hF_28 : Fq L κ ow [1230, 83400, 84600, 84700, 84800] I I_25) (hG_29 : Fq L κ ow [] J J_26) (r_30 : Rg 0 0 a1) (v_31 : Int32) (v_32 : Int32) (rv_32 : Rg 0 7 v_32) (hd_33 : Hd_ R x I I_25) (hl_34 : Hl_ R x I I_25 300) (hm_35 : 7 < (v_32 : Int32).toInt + (n_9 : Int)), WG p l e { frames := 6, cells := 0, slots := 0, locals := 144 } s m ([.ref x, .int a0, .int a1] : List Value).toArray below meth c 5 0 0 (MQ below (Qv_ D cy L κ ln R (fun I2 J2 => Iw L κ R ow I2 ∧ Fq L κ ow [1230, 83400, 84600, 84700, 84800] I I2 ∧ Fq L κ ow [] J J2 ∧ (Hd_ R x I I2) ∧ (Hl_ R x I I2 300))) ([.ref x, .int a0, .int a1] : List Value).toArray s 0 0 (Al_ L)) D cy (Al_ L) s.heap L κ ln R I_25 J_26 9 [(0, .ref x), (1, .int a0), (2, .int a1), (3, .int v_31), (4, .int v_32)] [] := by
    intro n_9
    induction n_9 with
    | zero =>
      intro I_25 J_26 hU_27 hF_28 hG_29 r_30 v_31 v_32 rv_32 hd_33 hl_34 hm_35
      exact ms_0 rv_32 hm_35
    | succ n_9 ih_9 =>
      intro I_25 J_26 hU_27 hF_28 hG_29 r_30 v_31 v_32 rv_32 hd_33 hl_34 hm_35
      have j_38 : ∀ (I_36 : Nat → Nat → Int32) (J_37 : Nat → Nat → Int64) (hU_38 : Iw L κ R ow I_36) (hF_39 : Fq L κ ow [1230, 83400, 84600, 84700, 84800] I I_36) (hG_40 : Fq L κ ow [] J J_37) (r_41 : Rg 0 0 a1) (v_42 : Int32) (v_43 : Int32) (rv_43 : Rg 0 6 v_43) (hm_44 : 7 < (v_43 : Int32).toInt + ((n_9 + 1 : Nat) : Int)) (hd_45 : Hd_ R x I I_36) (hl_46 : Hl_ R x I I_36 300), WG p l e { frames := 6, cells := 0, slots := 0, locals := 144 } s m ([.ref x, .int a0, .int a1] : List Value).toArray below meth c 5 0 0 (MQ below (Qv_ D cy L κ ln R (fun I2 J2 => Iw L κ R ow I2 ∧ Fq L κ ow [1230, 83400, 84600, 84700, 84800] I I2 ∧ Fq L κ ow [] J J2 ∧ (Hd_ R x I I2) ∧ (Hl_ R x I I2 300))) ([.ref x, .int a0, .int a1] : List Value).toArray s 0 0 (Al_ L)) D cy (Al_ L) s.heap L κ ln R I_36 J_37 38 [(0, .ref x), (1, .int a0), (2, .int a1), (3, .int v_42), (4, .int v_43)] [] := by
        intro I_36 J_37 hU_38 hF_39 hG_40 r_41 v_42 v_43 rv_43 hm_44 hd_45 hl_46
        obtain ⟨x_47, hx_47, rx_47, tx_47⟩ := ex_add (y := 1) 1 7 rv_43 rc_1 (by decide) (by decide) (by decide) (by decide)
        refine g_iinc C dX12_orderFrom_38 (k := 4) (v := x_47) rfl hx_47 (by decide) (lo2 := [(4, .int x_47), (0, .ref x), (1, .int a0), (2, .int a1), (3, .int v_42)]) rfl ?_
        refine g_goto C (tgt := 9) dX12_orderFrom_41 (by decide) ?_
        refine g_lo (is := [1, 2, 3, 4, 0]) (lo2 := [(0, .ref x), (1, .int a0), (2, .int a1), (3, .int v_42), (4, .int x_47)]) rfl ?_
        exact ih_9 I_36 J_37 hU_38 hF_39 hG_40 (r_41) v_42 x_47 (rg_w rx_47 (by decide) (by decide)) hd_45 hl_46 (ms_1 hm_44 (ti_k tx_47 rc_1) (by decide))
      refine g_iload C 4 dX12_orderFrom_9 rfl ?_
      refine g_aload_n C 0 dX12_orderFrom_11 rfl rfl ?_
      refine g_getR C K hLx hkx f_12_13 hb_4 dX12_orderFrom_12 ?_
      refine g_iconst C (v := 0) dX12_orderFrom_15 (by decide) ?_
      obtain ⟨x_48, hx_48, rx_48⟩ := ex_getw (I := I_25) (a := b_4) (j := 0) (lo := 0) (hi := 7) hU_27.1 hb_4L (ro_a hb_4k (by decide) hb_4o hkx rfl) (by decide)
      refine h_iald C K hb_4L hb_4k (v := x_48) (0) (by decide) (by decide) (by rw [hb_4n]; decide) hx_48 dX12_orderFrom_16 ?_
      refine g_icmp_ge C (tgt := 44) dX12_orderFrom_17 (by decide) (fun h_49 => ?_) (fun h_49 => ?_)
      · skip
        refine g_iload_n C 3 dX12_orderFrom_44 rfl rfl ?_
        refine g_aload_n C 0 dX12_orderFrom_45 rfl rfl ?_
        obtain ⟨x_50, hx_50, rx_50⟩ := ex_getw (I := I_25) (a := x) (j := 30) (lo := (-2147483648)) (hi := 2147483647) hU_27.1 hLx (ro_o hkx (by decide)) rfl
        refine g_getI C K hLx hkx f_12_298 (v := x_50) hx_50 dX12_orderFrom_46 ?_
        refine g_icmp_lt C (tgt := 53) dX12_orderFrom_49 (by decide) (fun h_51 => ?_) (fun h_51 => ?_)
        · skip
          have r_52 := lt_l (hi := 2147483646) (h_51) (rg_all v_31) rx_50 (by decide)
          have r_53 := lt_r (lo := (-2147483647)) (h_51) (rg_all v_31) rx_50 (by decide)
          refine g_aload_n C 0 dX12_orderFrom_53 rfl rfl ?_
          refine g_iload_n C 3 dX12_orderFrom_54 rfl rfl ?_
          refine h_putI C K hLx hkx f_12_298 p_12_30 dX12_orderFrom_55 (fun I_54 hI_54 => ?_)
          have hU_55 := iw_put W9 hU_27 hI_54 (ro_o hkx (by decide)) (lo := (-2147483648)) (hi := 2147483647) (rfl) (rg_all _) rfl
          have hF_56 := fq_puto hF_28 hI_54 hkx (by decide) (by decide)
          refine g_iconst C (v := 0) dX12_orderFrom_58 (by decide) ?_
          refine g_istore C dX12_orderFrom_59 (by decide) (lo2 := [(4, .int 0), (0, .ref x), (1, .int a0), (2, .int a1), (3, .int v_31)]) rfl ?_
          refine g_lo (is := [1, 2, 3, 4, 0]) (lo2 := [(0, .ref x), (1, .int a0), (2, .int a1), (3, .int v_31), (4, .int 0)]) rfl ?_
          exact l_61 5 I_54 J_26 hU_55 hF_56 hG_29 (r_30) v_31 0 (rg_w rc_0 (by decide) (by decide)) (kp_s hI_54) (hd_u (r := 0) W9 hLx hkx hd_33 hI_54 (Or.inl (ro_o hkx (by decide)))) (hl_u W9 hLx hkx hl_34 hI_54 ⟨(ro_o hkx (by decide)), by decide⟩) (ms_s (a := 0) (b := 4) (N := 5) (rg_w rc_0 (by decide) (by decide)) (by decide))
        · skip
          exact g_vret B K rfl ⟨hU_27, hF_28, hG_29, hd_33, hl_34⟩ dX12_orderFrom_52
      · skip
        have r_57 := lt_l (hi := 6) (nle h_49) rv_32 rx_48 (by decide)
        have r_58 := lt_r (lo := 1) (nle h_49) rv_32 rx_48 (by decide)
        refine g_aload_n C 0 dX12_orderFrom_20 rfl rfl ?_
        refine g_iload C 4 dX12_orderFrom_21 rfl ?_
        refine g_callVI C K (c_X12_isDead W9 hLx hkx v_32 (r_57) hU_27) hLx hkx (by decide) rfl v_12_244 rfl ⟨rfl, rfl⟩ ⟨Nat.le_of_ble_eq_true rfl, Nat.le_of_ble_eq_true rfl⟩ (Nat.le_of_ble_eq_true rfl) ⟨Nat.le_of_ble_eq_true rfl, Nat.le_of_ble_eq_true rfl⟩ dX12_orderFrom_23 rfl (st := []) (fun x_59 I_60 J_61 h_62 => ?_)
        obtain ⟨rfl, rfl, rx_59⟩ := h_62
        refine g_if_ne C (tgt := 38) dX12_orderFrom_26 (by decide) (fun h_63 => ?_) (fun h_63 => ?_)
        · skip
          have n_64 : ¬ x_59 = 0 := h_63
          have r_65 := ne_lo (lo := 1) n_64 rx_59 rc_0 rfl (by decide)
          refine g_lo (is := [0, 1, 2, 3, 4]) (lo2 := [(0, .ref x), (1, .int a0), (2, .int a1), (3, .int v_31), (4, .int v_32)]) rfl ?_
          exact j_38 I_25 J_26 hU_27 hF_28 hG_29 (r_30) v_31 v_32 (r_57) hm_35 hd_33 hl_34
        · skip
          have r_66 := (⟨(rx_59).1, (eq_rg (h_63) rc_0).2⟩ : Rg 0 0 x_59)
          refine g_iload_n C 3 dX12_orderFrom_29 rfl rfl ?_
          refine g_aload_n C 0 dX12_orderFrom_30 rfl rfl ?_
          refine g_iload C 4 dX12_orderFrom_31 rfl ?_
          refine g_callVI C K (c_X12_wantsYet W9 hLx hkx v_32 (r_57) hU_27) hLx hkx (by decide) rfl v_12_268 rfl ⟨rfl, rfl⟩ ⟨Nat.le_of_ble_eq_true rfl, Nat.le_of_ble_eq_true rfl⟩ (Nat.le_of_ble_eq_true rfl) ⟨Nat.le_of_ble_eq_true rfl, Nat.le_of_ble_eq_true rfl⟩ dX12_orderFrom_33 rfl (st := [.int v_31]) (fun x_67 I_68 J_69 h_70 => ?_)
          obtain ⟨rfl, rfl, rx_67, ex_67⟩ := h_70
          obtain ⟨x_71, hx_71, rx_71⟩ := ex_any (z0 := v_31 + x_67)
          refine g_iadd C (v := x_71) dX12_orderFrom_36 hx_71 ?_
          refine g_istore_n C dX12_orderFrom_37 rfl (by decide) (lo2 := [(3, .int x_71), (0, .ref x), (1, .int a0), (2, .int a1), (4, .int v_32)]) rfl ?_
          refine g_lo (is := [1, 2, 3, 0, 4]) (lo2 := [(0, .ref x), (1, .int a0), (2, .int a1), (3, .int x_71), (4, .int v_32)]) rfl ?_
          exact j_38 I_25 J_26 hU_27 hF_28 hG_29 (r_30) x_71 v_32 (r_57) hm_35 hd_33 hl_34
  have l_124 : ∀ (n_124 : Nat) (I_72 : Nat → Nat → Int32) (J_73 : Nat → Nat → Int64) (hU_74 : Iw L κ R ow I_72) (hF_75 : Fq L κ ow [1230, 83400, 84600, 84700, 84800] I I_72) (hG_76 : Fq L κ ow [] J J_73) (r_77 : Rg 1 127 a1) (n_78 : ¬ a1 = 0) (v_79 : Int32) (rv_79 : Rg 0 7 v_79) (hd_80 : Hd_ R x I I_72) (hl_81 : Hl_ R x I I_72 300) (gh_82 : Gh_ R x I_72 300) (hm_83 : 7 < (v_79 : Int32).toInt + (n_124 : Int)), WG p l e { frames := 6, cells := 0, slots := 0, locals := 144 } s m ([.ref x, .int a0, .int a1] : List Value).toArray below meth c 5 0 0 (MQ below (Qv_ D cy L κ ln R (fun I2 J2 => Iw L κ R ow I2 ∧ Fq L κ ow [1230, 83400, 84600, 84700, 84800] I I2 ∧ Fq L κ ow [] J J2 ∧ (Hd_ R x I I2) ∧ (Hl_ R x I I2 300))) ([.ref x, .int a0, .int a1] : List Value).toArray s 0 0 (Al_ L)) D cy (Al_ L) s.heap L κ ln R I_72 J_73 124 [(0, .ref x), (1, .int a0), (2, .int a1), (3, .int v_79)] [] := by
    intro n_124
    induction n_124 with
    | zero =>
      intro I_72 J_73 hU_74 hF_75 hG_76 r_77 n_78 v_79 rv_79 hd_80 hl_81 gh_82 hm_83
      exact ms_0 rv_79 hm_83
    | succ n_124 ih_124 =>
      intro I_72 J_73 hU_74 hF_75 hG_76 r_77 n_78 v_79 rv_79 hd_80 hl_81 gh_82 hm_83
      have j_222 : ∀ (I_84 : Nat → Nat → Int32) (J_85 : Nat → Nat → Int64) (hU_86 : Iw L κ R ow I_84) (hF_87 : Fq L κ ow [1230, 83400, 84600, 84700, 84800] I I_84) (hG_88 : Fq L κ ow [] J J_85) (r_89 : Rg 1 127 a1) (n_90 : ¬ a1 = 0) (v_91 : Int32) (rv_91 : Rg 0 6 v_91) (hm_92 : 7 < (v_91 : Int32).toInt + ((n_124 + 1 : Nat) : Int)) (hd_93 : Hd_ R x I I_84) (hl_94 : Hl_ R x I I_84 300) (gh_95 : Gh_ R x I_84 300), WG p l e { frames := 6, cells := 0, slots := 0, locals := 144 } s m ([.ref x, .int a0, .int a1] : List Value).toArray below meth c 5 0 0 (MQ below (Qv_ D cy L κ ln R (fun I2 J2 => Iw L κ R ow I2 ∧ Fq L κ ow [1230, 83400, 84600, 84700, 84800] I I2 ∧ Fq L κ ow [] J J2 ∧ (Hd_ R x I I2) ∧ (Hl_ R x I I2 300))) ([.ref x, .int a0, .int a1] : List Value).toArray s 0 0 (Al_ L)) D cy (Al_ L) s.heap L κ ln R I_84 J_85 222 [(0, .ref x), (1, .int a0), (2, .int a1), (3, .int v_91)] [] := by
        intro I_84 J_85 hU_86 hF_87 hG_88 r_89 n_90 v_91 rv_91 hm_92 hd_93 hl_94 gh_95
        obtain ⟨x_96, hx_96, rx_96, tx_96⟩ := ex_add (y := 1) 1 7 rv_91 rc_1 (by decide) (by decide) (by decide) (by decide)
        refine g_iinc C dX12_orderFrom_222 (k := 3) (v := x_96) rfl hx_96 (by decide) (lo2 := [(3, .int x_96), (0, .ref x), (1, .int a0), (2, .int a1)]) rfl ?_
        refine g_goto C (tgt := 124) dX12_orderFrom_225 (by decide) ?_
        refine g_lo (is := [1, 2, 3, 0]) (lo2 := [(0, .ref x), (1, .int a0), (2, .int a1), (3, .int x_96)]) rfl ?_
        exact ih_124 I_84 J_85 hU_86 hF_87 hG_88 (r_89) (n_90) x_96 (rg_w rx_96 (by decide) (by decide)) hd_93 hl_94 gh_95 (ms_1 hm_92 (ti_k tx_96 rc_1) (by decide))
      have j_170 : ∀ (I_97 : Nat → Nat → Int32) (J_98 : Nat → Nat → Int64) (hU_99 : Iw L κ R ow I_97) (hF_100 : Fq L κ ow [1230, 83400, 84600, 84700, 84800] I I_97) (hG_101 : Fq L κ ow [] J J_98) (r_102 : Rg 1 127 a1) (n_103 : ¬ a1 = 0) (v_104 : Int32) (rv_104 : Rg 0 6 v_104) (hm_105 : 7 < (v_104 : Int32).toInt + ((n_124 + 1 : Nat) : Int)) (hd_106 : Hd_ R x I I_97) (hl_107 : Hl_ R x I I_97 300) (gh_108 : Gh_ R x I_97 300) (hb_109 : a1 >>> (v_104 &&& 31) &&& 1 = 1), WG p l e { frames := 6, cells := 0, slots := 0, locals := 144 } s m ([.ref x, .int a0, .int a1] : List Value).toArray below meth c 5 0 0 (MQ below (Qv_ D cy L κ ln R (fun I2 J2 => Iw L κ R ow I2 ∧ Fq L κ ow [1230, 83400, 84600, 84700, 84800] I I2 ∧ Fq L κ ow [] J J2 ∧ (Hd_ R x I I2) ∧ (Hl_ R x I I2 300))) ([.ref x, .int a0, .int a1] : List Value).toArray s 0 0 (Al_ L)) D cy (Al_ L) s.heap L κ ln R I_97 J_98 170 [(0, .ref x), (1, .int a0), (2, .int a1), (3, .int v_104)] [] := by
        intro I_97 J_98 hU_99 hF_100 hG_101 r_102 n_103 v_104 rv_104 hm_105 hd_106 hl_107 gh_108 hb_109
        refine g_aload_n C 0 dX12_orderFrom_170 rfl rfl ?_
        refine g_iload_n C 1 dX12_orderFrom_171 rfl rfl ?_
        refine g_iconst C (v := 1) dX12_orderFrom_172 (by decide) ?_
        obtain ⟨x_110, hx_110, rx_110, tx_110⟩ := ex_add 5 5 ra0 rc_1 (by decide) (by decide) (by decide) (by decide)
        refine g_iadd C (v := x_110) dX12_orderFrom_173 hx_110 ?_
        refine g_iload_n C 2 dX12_orderFrom_174 rfl rfl ?_
        refine g_iconst C (v := 1) dX12_orderFrom_175 (by decide) ?_
        refine g_iload_n C 3 dX12_orderFrom_176 rfl rfl ?_
        obtain ⟨x_111, hx_111, rx_111⟩ := ex_shl (x := 1) (y := v_104) 6 64 rfl (rv_104) (by decide)
        refine g_ishl C (v := x_111) dX12_orderFrom_177 hx_111 ?_
        refine g_iconst C (v := (-1)) dX12_orderFrom_178 (by decide) ?_
        obtain ⟨x_112, hx_112, rx_112⟩ := ex_any (z0 := x_111 ^^^ (-1))
        refine g_ixor C (v := x_112) dX12_orderFrom_179 hx_112 ?_
        obtain ⟨x_113, hx_113, rx_113⟩ := ex_andl (x := a1) (y := x_112) (b := 127) (rg_w r_102 (by decide) (by decide))
        refine g_iand C (v := x_113) dX12_orderFrom_180 hx_113 ?_
        refine g_callVV C K (c_X12_orderFrom_5 W9 hLx hkx x_110 x_113 (rx_110) (rx_113) hU_99  (by have q1 := bc_rm (z := x_113) (rg_w r_102 (by decide) (by decide)) (rv_104) hb_109 (by rw [hx_111, hx_112]; exact hx_113); have q2 := hbc; omega)) hLx hkx (by decide) rfl v_12_304 rfl ⟨rfl, rfl⟩ ⟨Nat.le_of_ble_eq_true rfl, Nat.le_of_ble_eq_true rfl⟩ (Nat.le_of_ble_eq_true rfl) ⟨Nat.le_of_ble_eq_true rfl, Nat.le_of_ble_eq_true rfl⟩ dX12_orderFrom_181 rfl (st := []) (fun I_115 J_116 h_117 => ?_)
        obtain ⟨hUI_115, hFI_115, hGJ_116, ex_114⟩ := h_117
        have hF_118 := fq_tr hF_100 hFI_115 (by decide)
        have hG_119 := fq_tr hG_101 hGJ_116 (by decide)
        refine g_iconst C (v := 0) dX12_orderFrom_184 (by decide) ?_
        refine g_istore C dX12_orderFrom_185 (by decide) (lo2 := [(4, .int 0), (0, .ref x), (1, .int a0), (2, .int a1), (3, .int v_104)]) rfl ?_
        refine g_lo (is := [1, 2, 3, 4, 0]) (lo2 := [(0, .ref x), (1, .int a0), (2, .int a1), (3, .int v_104), (4, .int 0)]) rfl ?_
        have ex_187 : ∀ (I_121 : Nat → Nat → Int32) (hI_121 : I_121 = cpn_ I_115 b_1 b_4 (300) (72) 75) (v_120 : Int32) (rv_120 : Rg 75 75 v_120), WG p l e { frames := 6, cells := 0, slots := 0, locals := 144 } s m ([.ref x, .int a0, .int a1] : List Value).toArray below meth c 5 0 0 (MQ below (Qv_ D cy L κ ln R (fun I2 J2 => Iw L κ R ow I2 ∧ Fq L κ ow [1230, 83400, 84600, 84700, 84800] I I2 ∧ Fq L κ ow [] J J2 ∧ (Hd_ R x I I2) ∧ (Hl_ R x I I2 300))) ([.ref x, .int a0, .int a1] : List Value).toArray s 0 0 (Al_ L)) D cy (Al_ L) s.heap L κ ln R I_121 J_116 222 [(0, .ref x), (1, .int a0), (2, .int a1), (3, .int v_104), (4, .int v_120)] [] := by
          intro I_121 hI_121 v_120 rv_120
          have hF_122 := fq_cpn hF_118 hI_121 (ro_a hb_4k (by decide) hb_4o hkx rfl) (by decide) (by decide)
          have hU_123 := uw_cpn hUI_115.1 hb_1L hI_121 (ro_a hb_4k (by decide) hb_4o hkx rfl) (ro_a hb_1k (by decide) hb_1o hkx rfl) (fun i hi => by rw [bn_834, bn_848, show (300 + i) % 75 = i by omega]; exact ⟨Int.le_refl _, Int.le_refl _⟩)
          have hU_124 := iw_set W9 hUI_115.2 hU_123 hLx hkx hb_4 hI_121 ((gh_of gh_108 ex_114.1 ex_114.2 (by decide)) _ _ hb_4 hb_1)
          refine g_lo (is := [0, 1, 2, 3]) (lo2 := [(0, .ref x), (1, .int a0), (2, .int a1), (3, .int v_104)]) rfl ?_
          exact j_222 I_121 J_116 hU_124 hF_122 hG_119 (r_102) (n_103) v_104 (rv_104) hm_105 (hd_c (r := 0) W9 hLx hkx (hd_t hd_106 ex_114.1) hI_121 (Or.inr (by omega))) (hl_c W9 hLx hkx (hl_t hl_107 ex_114.2 (by decide)) hI_121 (Or.inl ⟨(ro_a hb_4k (by decide) hb_4o hkx rfl), by decide⟩)) (gh_c W9 hLx hkx hb_4 (gh_of gh_108 ex_114.1 ex_114.2 (by decide)) hI_121)
        have l_187 : ∀ (m_187 : Nat) (v_125 : Int32) (I_126 : Nat → Nat → Int32), v_125.toInt + (m_187 : Int) = 75 → 0 ≤ v_125.toInt → I_126 = cpn_ I_115 b_1 b_4 (300) (72) v_125.toNatClampNeg → WG p l e { frames := 6, cells := 0, slots := 0, locals := 144 } s m ([.ref x, .int a0, .int a1] : List Value).toArray below meth c 5 0 0 (MQ below (Qv_ D cy L κ ln R (fun I2 J2 => Iw L κ R ow I2 ∧ Fq L κ ow [1230, 83400, 84600, 84700, 84800] I I2 ∧ Fq L κ ow [] J J2 ∧ (Hd_ R x I I2) ∧ (Hl_ R x I I2 300))) ([.ref x, .int a0, .int a1] : List Value).toArray s 0 0 (Al_ L)) D cy (Al_ L) s.heap L κ ln R I_126 J_116 187 [(0, .ref x), (1, .int a0), (2, .int a1), (3, .int v_104), (4, .int v_125)] [] := by
          intro m_187
          induction m_187 with
          | zero =>
            intro v_125 I_126 hk_187 h0_187 hI_126
            have rv_125 : Rg 75 75 v_125 := by unfold Rg; omega
            refine g_iload C 4 dX12_orderFrom_187 rfl ?_
            refine g_bipush C (v := 75) dX12_orderFrom_189 (by decide) ?_
            refine g_icmp_ge C (tgt := 222) dX12_orderFrom_191 (by decide) (fun h_127 => ?_) (fun h_127 => ?_)
            · skip
              refine g_lo (is := [0, 1, 2, 3, 4]) (lo2 := [(0, .ref x), (1, .int a0), (2, .int a1), (3, .int v_104), (4, .int v_125)]) rfl ?_
              exact ex_187 I_126 (hI_126.trans (congrArg (fun q => cpn_ I_115 b_1 b_4 (300) (72) q) (show v_125.toNatClampNeg = 75 from by have := ix_n rv_125 (by decide); have := rv_125.1; have := rv_125.2; omega))) v_125 rv_125
            · skip
              have r_128 := lt_l (hi := 74) (nle h_127) rv_125 rc_75 (by decide)
              exact rg_no r_128 (by decide)
          | succ m_187 ih_187 =>
            intro v_125 I_126 hk_187 h0_187 hI_126
            have rv_125 : Rg 0 74 v_125 := by unfold Rg; omega
            refine g_iload C 4 dX12_orderFrom_187 rfl ?_
            refine g_bipush C (v := 75) dX12_orderFrom_189 (by decide) ?_
            refine g_icmp_ge C (tgt := 222) dX12_orderFrom_191 (by decide) (fun h_129 => ?_) (fun h_129 => ?_)
            · skip
              have r_130 := le_r (h_129) rc_75 rv_125
              exact rg_no r_130 (by decide)
            · skip
              refine g_aload_n C 0 dX12_orderFrom_194 rfl rfl ?_
              refine g_getR C K hLx hkx f_12_13 hb_4 dX12_orderFrom_195 ?_
              refine g_bipush C (v := 72) dX12_orderFrom_198 (by decide) ?_
              refine g_iload C 4 dX12_orderFrom_200 rfl ?_
              obtain ⟨x_131, hx_131, rx_131, tx_131⟩ := ex_add 72 146 rc_72 rv_125 (by decide) (by decide) (by decide) (by decide)
              refine g_iadd C (v := x_131) dX12_orderFrom_202 hx_131 ?_
              refine g_aload_n C 0 dX12_orderFrom_203 rfl rfl ?_
              refine g_getR C K hLx hkx f_12_48 hb_1 dX12_orderFrom_204 ?_
              refine g_bipush C (v := 75) dX12_orderFrom_207 (by decide) ?_
              refine g_iload_n C 1 dX12_orderFrom_209 rfl rfl ?_
              obtain ⟨x_132, hx_132, rx_132, tx_132⟩ := ex_mulT 300 300 rc_75 ra0 (by decide) (by decide) (by decide) (by decide) (by decide)
              refine g_imul C (v := x_132) dX12_orderFrom_210 hx_132 ?_
              refine g_iload C 4 dX12_orderFrom_211 rfl ?_
              obtain ⟨x_133, hx_133, rx_133, tx_133⟩ := ex_add 300 374 rx_132 rv_125 (by decide) (by decide) (by decide) (by decide)
              refine g_iadd C (v := x_133) dX12_orderFrom_213 hx_133 ?_
              obtain ⟨x_134, hx_134, rx_134⟩ := ex_any (z0 := I_126 b_1 (x_133.toNatClampNeg))
              refine h_iald C K hb_1L hb_1k (v := x_134) (x_133.toNatClampNeg) (rfl) (ix_0 rx_133 (by decide)) (ix_lt rx_133 (by decide) hb_1n (by decide)) hx_134 dX12_orderFrom_214 ?_
              refine h_iast C K hb_4L hb_4k (x_131.toNatClampNeg) (rfl) (ix_0 rx_131 (by decide)) (ix_lt rx_131 (by decide) hb_4n (by decide)) dX12_orderFrom_215 (fun I_135 hI_135 => ?_)
              obtain ⟨x_136, hx_136, rx_136, tx_136⟩ := ex_add (y := 1) 1 75 rv_125 rc_1 (by decide) (by decide) (by decide) (by decide)
              refine g_iinc C dX12_orderFrom_216 (k := 4) (v := x_136) rfl hx_136 (by decide) (lo2 := [(4, .int x_136), (0, .ref x), (1, .int a0), (2, .int a1), (3, .int v_104)]) rfl ?_
              refine g_goto C (tgt := 187) dX12_orderFrom_219 (by decide) ?_
              refine g_lo (is := [1, 2, 3, 4, 0]) (lo2 := [(0, .ref x), (1, .int a0), (2, .int a1), (3, .int v_104), (4, .int x_136)]) rfl ?_
              have kk_187 : x_136.toNatClampNeg = v_125.toNatClampNeg + 1 := by have q1 := ix_n rv_125 (by decide); have q2 := (ti_k tx_136 rc_1); have q3 : x_136.toNatClampNeg = x_136.toInt.toNat := rfl; omega
              exact ih_187 x_136 I_135 (by have := (ti_k tx_136 rc_1); omega) (by have := (ti_k tx_136 rc_1); omega) (by rw [kk_187]; exact cpn_s hI_126 hx_134 hI_135 (show x_133.toNatClampNeg = (300) + v_125.toNatClampNeg from by rw [nx_a tx_133 rx_132 rv_125 (by decide), nx_m (k := 75) tx_132 ra0 (by decide)] <;> omega) (show x_131.toNatClampNeg = (72) + v_125.toNatClampNeg from by rw [nx_a tx_131 rc_72 rv_125 (by decide)]; simp only [show (72 : Int32).toNatClampNeg = 72 from rfl] <;> omega) (Or.inl (ne_ro (ro_a hb_1k (by decide) hb_1o hkx rfl) (ro_a hb_4k (by decide) hb_4o hkx rfl) (by decide))))
        exact l_187 75 0 I_115 (by decide) (by decide) cpn_0
      refine g_iload_n C 3 dX12_orderFrom_124 rfl rfl ?_
      refine g_aload_n C 0 dX12_orderFrom_125 rfl rfl ?_
      refine g_getR C K hLx hkx f_12_13 hb_4 dX12_orderFrom_126 ?_
      refine g_iconst C (v := 0) dX12_orderFrom_129 (by decide) ?_
      obtain ⟨x_137, hx_137, rx_137⟩ := ex_getw (I := I_72) (a := b_4) (j := 0) (lo := 0) (hi := 7) hU_74.1 hb_4L (ro_a hb_4k (by decide) hb_4o hkx rfl) (by decide)
      refine h_iald C K hb_4L hb_4k (v := x_137) (0) (by decide) (by decide) (by rw [hb_4n]; decide) hx_137 dX12_orderFrom_130 ?_
      refine g_icmp_ge C (tgt := 228) dX12_orderFrom_131 (by decide) (fun h_138 => ?_) (fun h_138 => ?_)
      · skip
        exact g_vret B K rfl ⟨hU_74, hF_75, hG_76, hd_80, hl_81⟩ dX12_orderFrom_228
      · skip
        have r_139 := lt_l (hi := 6) (nle h_138) rv_79 rx_137 (by decide)
        have r_140 := lt_r (lo := 1) (nle h_138) rv_79 rx_137 (by decide)
        refine g_iload_n C 2 dX12_orderFrom_134 rfl rfl ?_
        refine g_iload_n C 3 dX12_orderFrom_135 rfl rfl ?_
        refine g_callSI C K (c_X12_has W9 a1 v_79  hU_74) s_12_231 rfl ⟨rfl, rfl⟩ ⟨Nat.le_of_ble_eq_true rfl, Nat.le_of_ble_eq_true rfl⟩ (Nat.le_of_ble_eq_true rfl) ⟨Nat.le_of_ble_eq_true rfl, Nat.le_of_ble_eq_true rfl⟩ dX12_orderFrom_136 rfl (st := []) (fun x_141 I_142 J_143 h_144 => ?_)
        obtain ⟨rfl, rfl, rx_141, ex_141⟩ := h_144
        refine g_if_ne C (tgt := 145) dX12_orderFrom_139 (by decide) (fun h_145 => ?_) (fun h_145 => ?_)
        · skip
          have n_146 : ¬ x_141 = 0 := h_145
          have r_147 := ne_lo (lo := 1) n_146 rx_141 rc_0 rfl (by decide)
          refine g_aload_n C 0 dX12_orderFrom_145 rfl rfl ?_
          refine g_getR C K hLx hkx f_12_42 hb_3 dX12_orderFrom_146 ?_
          refine g_iload_n C 1 dX12_orderFrom_149 rfl rfl ?_
          refine g_iload_n C 3 dX12_orderFrom_150 rfl rfl ?_
          refine h_iast C K hb_3L hb_3k (a0.toNatClampNeg) (rfl) (ix_0 ra0 (by decide)) (ix_lt ra0 (by decide) hb_3n (by decide)) dX12_orderFrom_151 (fun I_148 hI_148 => ?_)
          have hU_149 := iw_put W9 hU_74 hI_148 (ro_a hb_3k (by decide) hb_3o hkx rfl) (lo := (-2147483648)) (hi := 2147483647) (rfl) (rg_all _) rfl
          have hF_150 := fq_puta hF_75 hI_148 (ro_a hb_3k (by decide) hb_3o hkx rfl) (by decide) (by decide)
          refine g_aload_n C 0 dX12_orderFrom_152 rfl rfl ?_
          refine g_iload_n C 3 dX12_orderFrom_153 rfl rfl ?_
          refine g_callVV C K (c_X12_eatsAll W9 hLx hkx v_79 (r_139) hU_149) hLx hkx (by decide) rfl v_12_301 rfl ⟨rfl, rfl⟩ ⟨Nat.le_of_ble_eq_true rfl, Nat.le_of_ble_eq_true rfl⟩ (Nat.le_of_ble_eq_true rfl) ⟨Nat.le_of_ble_eq_true rfl, Nat.le_of_ble_eq_true rfl⟩ dX12_orderFrom_154 rfl (st := []) (fun I_152 J_153 h_154 => ?_)
          obtain ⟨hUI_152, hFI_152, hGJ_153, ex_151⟩ := h_154
          have hF_155 := fq_tr hF_150 hFI_152 (by decide)
          have hG_156 := fq_tr hG_76 hGJ_153 (by decide)
          refine g_aload_n C 0 dX12_orderFrom_157 rfl rfl ?_
          refine g_iload_n C 3 dX12_orderFrom_158 rfl rfl ?_
          refine g_callVI C K (c_X12_plateOf W9 hLx hkx v_79 (r_139) hUI_152) hLx hkx (by decide) rfl v_12_247 rfl ⟨rfl, rfl⟩ ⟨Nat.le_of_ble_eq_true rfl, Nat.le_of_ble_eq_true rfl⟩ (Nat.le_of_ble_eq_true rfl) ⟨Nat.le_of_ble_eq_true rfl, Nat.le_of_ble_eq_true rfl⟩ dX12_orderFrom_159 rfl (st := []) (fun x_157 I_158 J_159 h_160 => ?_)
          obtain ⟨rfl, rfl, rx_157⟩ := h_160
          refine g_if_le C (tgt := 170) dX12_orderFrom_162 (by decide) (fun h_161 => ?_) (fun h_161 => ?_)
          · skip
            have r_162 := le_l (h_161) rx_157 rc_0
            refine g_lo (is := [0, 1, 2, 3]) (lo2 := [(0, .ref x), (1, .int a0), (2, .int a1), (3, .int v_79)]) rfl ?_
            exact j_170 I_152 J_153 hUI_152 hF_155 hG_156 (r_77) (n_78) v_79 (r_139) hm_83 (hd_t (hd_u W9 hLx hkx hd_80 hI_148 (Or.inr (Or.inl ⟨(ro_a hb_3k (by decide) hb_3o hkx rfl), by decide⟩))) ex_151) (hl_fq W9 hLx hkx (hl_u W9 hLx hkx hl_81 hI_148 ⟨(ro_a hb_3k (by decide) hb_3o hkx rfl), by decide⟩) hFI_152 (by decide)) (gh_mv W9 hLx hkx (gh_u W9 hLx hkx gh_82 hI_148 ⟨(ro_a hb_3k (by decide) hb_3o hkx rfl), by decide, by decide⟩) ex_151 hFI_152 (by decide)) (ex_141 n_146)
          · skip
            have r_163 := lt_r (lo := 1) (nle h_161) rc_0 rx_157 (by decide)
            refine g_aload_n C 0 dX12_orderFrom_165 rfl rfl ?_
            refine g_iload_n C 3 dX12_orderFrom_166 rfl rfl ?_
            refine g_callVV C K (c_X12_pass W9 hLx hkx v_79 (r_139) hUI_152) hLx hkx (by decide) rfl v_12_275 rfl ⟨rfl, rfl⟩ ⟨Nat.le_of_ble_eq_true rfl, Nat.le_of_ble_eq_true rfl⟩ (Nat.le_of_ble_eq_true rfl) ⟨Nat.le_of_ble_eq_true rfl, Nat.le_of_ble_eq_true rfl⟩ dX12_orderFrom_167 rfl (st := []) (fun I_165 J_166 h_167 => ?_)
            obtain ⟨hUI_165, hFI_165, hGJ_166, ex_164⟩ := h_167
            have hF_168 := fq_tr hF_155 hFI_165 (by decide)
            have hG_169 := fq_tr hG_156 hGJ_166 (by decide)
            refine g_lo (is := [0, 1, 2, 3]) (lo2 := [(0, .ref x), (1, .int a0), (2, .int a1), (3, .int v_79)]) rfl ?_
            exact j_170 I_165 J_166 hUI_165 hF_168 hG_169 (r_77) (n_78) v_79 (r_139) hm_83 (hd_t (hd_t (hd_u W9 hLx hkx hd_80 hI_148 (Or.inr (Or.inl ⟨(ro_a hb_3k (by decide) hb_3o hkx rfl), by decide⟩))) ex_151) ex_164) (hl_fq W9 hLx hkx (hl_fq W9 hLx hkx (hl_u W9 hLx hkx hl_81 hI_148 ⟨(ro_a hb_3k (by decide) hb_3o hkx rfl), by decide⟩) hFI_152 (by decide)) hFI_165 (by decide)) (gh_mv W9 hLx hkx (gh_mv W9 hLx hkx (gh_u W9 hLx hkx gh_82 hI_148 ⟨(ro_a hb_3k (by decide) hb_3o hkx rfl), by decide, by decide⟩) ex_151 hFI_152 (by decide)) ex_164 hFI_165 (by decide)) (ex_141 n_146)
        · skip
          have r_170 := (⟨(rx_141).1, (eq_rg (h_145) rc_0).2⟩ : Rg 0 0 x_141)
          refine g_goto C (tgt := 222) dX12_orderFrom_142 (by decide) ?_
          refine g_lo (is := [0, 1, 2, 3]) (lo2 := [(0, .ref x), (1, .int a0), (2, .int a1), (3, .int v_79)]) rfl ?_
          exact j_222 I_72 J_73 hU_74 hF_75 hG_76 (r_77) (n_78) v_79 (r_139) hm_83 hd_80 hl_81 gh_82
  refine g_iload_n C 2 dX12_orderFrom_0 rfl rfl ?_
  refine g_if_ne C (tgt := 88) dX12_orderFrom_1 (by decide) (fun h_171 => ?_) (fun h_171 => ?_)
  · skip
    have n_172 : ¬ a1 = 0 := h_171
    have r_173 := ne_lo (lo := 1) n_172 ra1 rc_0 rfl (by decide)
    refine g_iconst C (v := 0) dX12_orderFrom_88 (by decide) ?_
    refine g_istore_n C dX12_orderFrom_89 rfl (by decide) (lo2 := [(3, .int 0), (0, .ref x), (1, .int a0), (2, .int a1)]) rfl ?_
    refine g_lo (is := [1, 2, 3, 0]) (lo2 := [(0, .ref x), (1, .int a0), (2, .int a1), (3, .int 0)]) rfl ?_
    have ex_90 : ∀ (I_175 : Nat → Nat → Int32) (hI_175 : I_175 = cpn_ I b_4 b_1 (72) (300) 75) (v_174 : Int32) (rv_174 : Rg 75 75 v_174), WG p l e { frames := 6, cells := 0, slots := 0, locals := 144 } s m ([.ref x, .int a0, .int a1] : List Value).toArray below meth c 5 0 0 (MQ below (Qv_ D cy L κ ln R (fun I2 J2 => Iw L κ R ow I2 ∧ Fq L κ ow [1230, 83400, 84600, 84700, 84800] I I2 ∧ Fq L κ ow [] J J2 ∧ (Hd_ R x I I2) ∧ (Hl_ R x I I2 300))) ([.ref x, .int a0, .int a1] : List Value).toArray s 0 0 (Al_ L)) D cy (Al_ L) s.heap L κ ln R I_175 J 122 [(0, .ref x), (1, .int a0), (2, .int a1), (3, .int v_174)] [] := by
      intro I_175 hI_175 v_174 rv_174
      have hF_176 := fq_cpn hF hI_175 (ro_a hb_1k (by decide) hb_1o hkx rfl) (by decide) (by decide)
      have hU_177 := uw_cpn hU.1 hb_4L hI_175 (ro_a hb_1k (by decide) hb_1o hkx rfl) (ro_a hb_4k (by decide) hb_4o hkx rfl) (fun i hi => by rw [bn_848, bn_834, show (300 + i) % 75 = i by omega]; exact ⟨Int.le_refl _, Int.le_refl _⟩)
      have hU_178 := iw_cpo W9 hU.2 hU_177 hI_175 (ro_a hb_1k (by decide) hb_1o hkx rfl) (fun _ => rfl)
      refine g_iconst C (v := 0) dX12_orderFrom_122 (by decide) ?_
      refine g_istore_n C dX12_orderFrom_123 rfl (by decide) (lo2 := [(3, .int 0), (0, .ref x), (1, .int a0), (2, .int a1)]) rfl ?_
      refine g_lo (is := [1, 2, 3, 0]) (lo2 := [(0, .ref x), (1, .int a0), (2, .int a1), (3, .int 0)]) rfl ?_
      exact l_124 8 I_175 J hU_178 hF_176 hG (r_173) (n_172) 0 (rg_w rc_0 (by decide) (by decide)) (hd_c (r := 848) W9 hLx hkx hd_rf hI_175 (Or.inl ⟨(ro_a hb_1k (by decide) hb_1o hkx rfl), by decide⟩)) (hl_c (r := 0) W9 hLx hkx hl_rf hI_175 (Or.inr (Nat.le_refl _))) (gh_lay W9 hU.2 hLx hkx hb_4 hb_1 hI_175) (ms_s (a := 0) (b := 7) (N := 8) (rg_w rc_0 (by decide) (by decide)) (by decide))
    have l_90 : ∀ (m_90 : Nat) (v_179 : Int32) (I_180 : Nat → Nat → Int32), v_179.toInt + (m_90 : Int) = 75 → 0 ≤ v_179.toInt → I_180 = cpn_ I b_4 b_1 (72) (300) v_179.toNatClampNeg → WG p l e { frames := 6, cells := 0, slots := 0, locals := 144 } s m ([.ref x, .int a0, .int a1] : List Value).toArray below meth c 5 0 0 (MQ below (Qv_ D cy L κ ln R (fun I2 J2 => Iw L κ R ow I2 ∧ Fq L κ ow [1230, 83400, 84600, 84700, 84800] I I2 ∧ Fq L κ ow [] J J2 ∧ (Hd_ R x I I2) ∧ (Hl_ R x I I2 300))) ([.ref x, .int a0, .int a1] : List Value).toArray s 0 0 (Al_ L)) D cy (Al_ L) s.heap L κ ln R I_180 J 90 [(0, .ref x), (1, .int a0), (2, .int a1), (3, .int v_179)] [] := by
      intro m_90
      induction m_90 with
      | zero =>
        intro v_179 I_180 hk_90 h0_90 hI_180
        have rv_179 : Rg 75 75 v_179 := by unfold Rg; omega
        refine g_iload_n C 3 dX12_orderFrom_90 rfl rfl ?_
        refine g_bipush C (v := 75) dX12_orderFrom_91 (by decide) ?_
        refine g_icmp_ge C (tgt := 122) dX12_orderFrom_93 (by decide) (fun h_181 => ?_) (fun h_181 => ?_)
        · skip
          refine g_lo (is := [0, 1, 2, 3]) (lo2 := [(0, .ref x), (1, .int a0), (2, .int a1), (3, .int v_179)]) rfl ?_
          exact ex_90 I_180 (hI_180.trans (congrArg (fun q => cpn_ I b_4 b_1 (72) (300) q) (show v_179.toNatClampNeg = 75 from by have := ix_n rv_179 (by decide); have := rv_179.1; have := rv_179.2; omega))) v_179 rv_179
        · skip
          have r_182 := lt_l (hi := 74) (nle h_181) rv_179 rc_75 (by decide)
          exact rg_no r_182 (by decide)
      | succ m_90 ih_90 =>
        intro v_179 I_180 hk_90 h0_90 hI_180
        have rv_179 : Rg 0 74 v_179 := by unfold Rg; omega
        refine g_iload_n C 3 dX12_orderFrom_90 rfl rfl ?_
        refine g_bipush C (v := 75) dX12_orderFrom_91 (by decide) ?_
        refine g_icmp_ge C (tgt := 122) dX12_orderFrom_93 (by decide) (fun h_183 => ?_) (fun h_183 => ?_)
        · skip
          have r_184 := le_r (h_183) rc_75 rv_179
          exact rg_no r_184 (by decide)
        · skip
          refine g_aload_n C 0 dX12_orderFrom_96 rfl rfl ?_
          refine g_getR C K hLx hkx f_12_48 hb_1 dX12_orderFrom_97 ?_
          refine g_bipush C (v := 75) dX12_orderFrom_100 (by decide) ?_
          refine g_iload_n C 1 dX12_orderFrom_102 rfl rfl ?_
          obtain ⟨x_185, hx_185, rx_185, tx_185⟩ := ex_mulT 300 300 rc_75 ra0 (by decide) (by decide) (by decide) (by decide) (by decide)
          refine g_imul C (v := x_185) dX12_orderFrom_103 hx_185 ?_
          refine g_iload_n C 3 dX12_orderFrom_104 rfl rfl ?_
          obtain ⟨x_186, hx_186, rx_186, tx_186⟩ := ex_add 300 374 rx_185 rv_179 (by decide) (by decide) (by decide) (by decide)
          refine g_iadd C (v := x_186) dX12_orderFrom_105 hx_186 ?_
          refine g_aload_n C 0 dX12_orderFrom_106 rfl rfl ?_
          refine g_getR C K hLx hkx f_12_13 hb_4 dX12_orderFrom_107 ?_
          refine g_bipush C (v := 72) dX12_orderFrom_110 (by decide) ?_
          refine g_iload_n C 3 dX12_orderFrom_112 rfl rfl ?_
          obtain ⟨x_187, hx_187, rx_187, tx_187⟩ := ex_add 72 146 rc_72 rv_179 (by decide) (by decide) (by decide) (by decide)
          refine g_iadd C (v := x_187) dX12_orderFrom_113 hx_187 ?_
          obtain ⟨x_188, hx_188, rx_188⟩ := ex_any (z0 := I_180 b_4 (x_187.toNatClampNeg))
          refine h_iald C K hb_4L hb_4k (v := x_188) (x_187.toNatClampNeg) (rfl) (ix_0 rx_187 (by decide)) (ix_lt rx_187 (by decide) hb_4n (by decide)) hx_188 dX12_orderFrom_114 ?_
          refine h_iast C K hb_1L hb_1k (x_186.toNatClampNeg) (rfl) (ix_0 rx_186 (by decide)) (ix_lt rx_186 (by decide) hb_1n (by decide)) dX12_orderFrom_115 (fun I_189 hI_189 => ?_)
          obtain ⟨x_190, hx_190, rx_190, tx_190⟩ := ex_add (y := 1) 1 75 rv_179 rc_1 (by decide) (by decide) (by decide) (by decide)
          refine g_iinc C dX12_orderFrom_116 (k := 3) (v := x_190) rfl hx_190 (by decide) (lo2 := [(3, .int x_190), (0, .ref x), (1, .int a0), (2, .int a1)]) rfl ?_
          refine g_goto C (tgt := 90) dX12_orderFrom_119 (by decide) ?_
          refine g_lo (is := [1, 2, 3, 0]) (lo2 := [(0, .ref x), (1, .int a0), (2, .int a1), (3, .int x_190)]) rfl ?_
          have kk_90 : x_190.toNatClampNeg = v_179.toNatClampNeg + 1 := by have q1 := ix_n rv_179 (by decide); have q2 := (ti_k tx_190 rc_1); have q3 : x_190.toNatClampNeg = x_190.toInt.toNat := rfl; omega
          exact ih_90 x_190 I_189 (by have := (ti_k tx_190 rc_1); omega) (by have := (ti_k tx_190 rc_1); omega) (by rw [kk_90]; exact cpn_s hI_180 hx_188 hI_189 (show x_187.toNatClampNeg = (72) + v_179.toNatClampNeg from by rw [nx_a tx_187 rc_72 rv_179 (by decide)]; simp only [show (72 : Int32).toNatClampNeg = 72 from rfl] <;> omega) (show x_186.toNatClampNeg = (300) + v_179.toNatClampNeg from by rw [nx_a tx_186 rx_185 rv_179 (by decide), nx_m (k := 75) tx_185 ra0 (by decide)] <;> omega) (Or.inl (ne_ro (ro_a hb_4k (by decide) hb_4o hkx rfl) (ro_a hb_1k (by decide) hb_1o hkx rfl) (by decide))))
    exact l_90 75 0 I (by decide) (by decide) cpn_0
  · skip
    have r_191 := (⟨(ra1).1, (eq_rg (h_171) rc_0).2⟩ : Rg 0 0 a1)
    refine g_iconst C (v := 0) dX12_orderFrom_4 (by decide) ?_
    refine g_istore_n C dX12_orderFrom_5 rfl (by decide) (lo2 := [(3, .int 0), (0, .ref x), (1, .int a0), (2, .int a1)]) rfl ?_
    refine g_iconst C (v := 0) dX12_orderFrom_6 (by decide) ?_
    refine g_istore C dX12_orderFrom_7 (by decide) (lo2 := [(4, .int 0), (3, .int 0), (0, .ref x), (1, .int a0), (2, .int a1)]) rfl ?_
    refine g_lo (is := [2, 3, 4, 1, 0]) (lo2 := [(0, .ref x), (1, .int a0), (2, .int a1), (3, .int 0), (4, .int 0)]) rfl ?_
    exact l_9 8 I J hU hF hG (r_191) 0 0 (rg_w rc_0 (by decide) (by decide)) hd_rf hl_rf (ms_s (a := 0) (b := 7) (N := 8) (rg_w rc_0 (by decide) (by decide)) (by decide))
set_option maxRecDepth 100000 in
set_option maxHeartbeats 8000000 in
theorem c_X12_orderFrom_3 {l : Launch} {D : va_G} {cy : Nat → ClassId} {L : List Nat} {κ ln : Nat → Nat} {R : Nat → Nat → Option Nat} {I : Nat → Nat → Int32} {J : Nat → Nat → Int64} {ow : Nat → Nat × Nat} (W9 : ∀ a ∈ L, Shp L κ ln R ow a) {x : Nat} (hLx : x ∈ L) (hkx : κ x = 12) (a0 : Int32) (a1 : Int32) (ra0 : Rg 3 3 a0) (ra1 : Rg 0 127 a1) (hU : Iw L κ R ow I) (hbc : (bc_ a1).toInt ≤ 4) : CtV l yX12_orderFrom cX12_orderFrom 5 none { frames := 7, cells := 0, slots := 0, locals := 168 } D cy L κ ln R I J [.ref x, .int a0, .int a1] (fun I2 J2 => Iw L κ R ow I2 ∧ Fq L κ ow [1230, 83400, 84600, 84700, 84800] I I2 ∧ Fq L κ ow [] J J2 ∧ (Hd_ R x I I2) ∧ (Hl_ R x I I2 225)) := by
  refine CtV.of (by decide +kernel) (Nat.le_of_ble_eq_true rfl) ?_
  intro p e s m below meth c B K
  have C := B.1
  have hF : Fq L κ ow [1230, 83400, 84600, 84700, 84800] I I := fq_rf
  have hG : Fq L κ ow [] J J := fq_rf
  obtain ⟨b_1, hb_1, hb_1L, hb_1k, hb_1n, hb_1o⟩ := shp_a (W9 x hLx) hkx 28 14 525 rfl (by decide)
  obtain ⟨b_2, hb_2, hb_2L, hb_2k, hb_2n, hb_2o⟩ := shp_a (W9 x hLx) hkx 27 14 7 rfl (by decide)
  obtain ⟨b_3, hb_3, hb_3L, hb_3k, hb_3n, hb_3o⟩ := shp_a (W9 x hLx) hkx 26 14 7 rfl (by decide)
  obtain ⟨b_4, hb_4, hb_4L, hb_4k, hb_4n, hb_4o⟩ := shp_a (W9 x hLx) hkx 14 14 389 rfl (by decide)
  have ea0 : a0.toNatClampNeg = 3 := by have q1 := ix_n ra0 (by decide); have q2 := ra0.1; have q3 := ra0.2; omega
  refine g_lo (is := [0, 1, 2]) (lo2 := [(0, .ref x), (1, .int a0), (2, .int a1)]) rfl ?_
  have l_61 : ∀ (n_61 : Nat) (I_5 : Nat → Nat → Int32) (J_6 : Nat → Nat → Int64) (hU_7 : Iw L κ R ow I_5) (hF_8 : Fq L κ ow [1230, 83400, 84600, 84700, 84800] I I_5) (hG_9 : Fq L κ ow [] J J_6) (r_10 : Rg 0 0 a1) (v_11 : Int32) (v_12 : Int32) (rv_12 : Rg 0 3 v_12) (q_13 : I_5 x 30 = v_11) (hd_14 : Hd_ R x I I_5) (hl_15 : Hl_ R x I I_5 225) (hm_16 : 3 < (v_12 : Int32).toInt + (n_61 : Int)), WG p l e { frames := 7, cells := 0, slots := 0, locals := 168 } s m ([.ref x, .int a0, .int a1] : List Value).toArray below meth c 5 0 0 (MQ below (Qv_ D cy L κ ln R (fun I2 J2 => Iw L κ R ow I2 ∧ Fq L κ ow [1230, 83400, 84600, 84700, 84800] I I2 ∧ Fq L κ ow [] J J2 ∧ (Hd_ R x I I2) ∧ (Hl_ R x I I2 225))) ([.ref x, .int a0, .int a1] : List Value).toArray s 0 0 (Al_ L)) D cy (Al_ L) s.heap L κ ln R I_5 J_6 61 [(0, .ref x), (1, .int a0), (2, .int a1), (3, .int v_11), (4, .int v_12)] [] := by
    intro n_61
    induction n_61 with
    | zero =>
      intro I_5 J_6 hU_7 hF_8 hG_9 r_10 v_11 v_12 rv_12 q_13 hd_14 hl_15 hm_16
      exact ms_0 rv_12 hm_16
    | succ n_61 ih_61 =>
      intro I_5 J_6 hU_7 hF_8 hG_9 r_10 v_11 v_12 rv_12 q_13 hd_14 hl_15 hm_16
      refine g_iload C 4 dX12_orderFrom_61 rfl ?_
      refine g_iload_n C 1 dX12_orderFrom_63 rfl rfl ?_
      refine g_icmp_ge C (tgt := 87) dX12_orderFrom_64 (by decide) (fun h_17 => ?_) (fun h_17 => ?_)
      · skip
        have r_18 := le_r (h_17) ra0 rv_12
        exact g_vret B K rfl ⟨hU_7, hF_8, hG_9, hd_14, hl_15⟩ dX12_orderFrom_87
      · skip
        have r_19 := lt_l (hi := 2) (nle h_17) rv_12 ra0 (by decide)
        refine g_aload_n C 0 dX12_orderFrom_67 rfl rfl ?_
        refine g_getR C K hLx hkx f_12_45 hb_2 dX12_orderFrom_68 ?_
        refine g_iload C 4 dX12_orderFrom_71 rfl ?_
        refine g_aload_n C 0 dX12_orderFrom_73 rfl rfl ?_
        refine g_getR C K hLx hkx f_12_42 hb_3 dX12_orderFrom_74 ?_
        refine g_iload C 4 dX12_orderFrom_77 rfl ?_
        obtain ⟨x_20, hx_20, rx_20⟩ := ex_any (z0 := I_5 b_3 (v_12.toNatClampNeg))
        refine h_iald C K hb_3L hb_3k (v := x_20) (v_12.toNatClampNeg) (rfl) (ix_0 r_19 (by decide)) (ix_lt r_19 (by decide) hb_3n (by decide)) hx_20 dX12_orderFrom_79 ?_
        refine h_iast C K hb_2L hb_2k (v_12.toNatClampNeg) (rfl) (ix_0 r_19 (by decide)) (ix_lt r_19 (by decide) hb_2n (by decide)) dX12_orderFrom_80 (fun I_21 hI_21 => ?_)
        have hU_22 := iw_put W9 hU_7 hI_21 (ro_a hb_2k (by decide) hb_2o hkx rfl) (lo := (-2147483648)) (hi := 2147483647) (rfl) (rx_20) rfl
        have hF_23 := fq_puta hF_8 hI_21 (ro_a hb_2k (by decide) hb_2o hkx rfl) (by decide) (by decide)
        obtain ⟨x_24, hx_24, rx_24, tx_24⟩ := ex_add (y := 1) 1 3 r_19 rc_1 (by decide) (by decide) (by decide) (by decide)
        refine g_iinc C dX12_orderFrom_81 (k := 4) (v := x_24) rfl hx_24 (by decide) (lo2 := [(4, .int x_24), (0, .ref x), (1, .int a0), (2, .int a1), (3, .int v_11)]) rfl ?_
        refine g_goto C (tgt := 61) dX12_orderFrom_84 (by decide) ?_
        refine g_lo (is := [1, 2, 3, 4, 0]) (lo2 := [(0, .ref x), (1, .int a0), (2, .int a1), (3, .int v_11), (4, .int x_24)]) rfl ?_
        exact ih_61 I_21 J_6 hU_22 hF_23 hG_9 (r_10) v_11 x_24 (rg_w rx_24 (by decide) (by decide)) (kp_k (κ := κ) hI_21 (by rw [hkx, hb_2k]; decide) q_13) (hd_u W9 hLx hkx hd_14 hI_21 (Or.inr (Or.inl ⟨(ro_a hb_2k (by decide) hb_2o hkx rfl), by decide⟩))) (hl_u W9 hLx hkx hl_15 hI_21 ⟨(ro_a hb_2k (by decide) hb_2o hkx rfl), by decide⟩) (ms_1 hm_16 (ti_k tx_24 rc_1) (by decide))
  have l_9 : ∀ (n_9 : Nat) (I_25 : Nat → Nat → Int32) (J_26 : Nat → Nat → Int64) (hU_27 : Iw L κ R ow I_25) (hF_28 : Fq L κ ow [1230, 83400, 84600, 84700, 84800] I I_25) (hG_29 : Fq L κ ow [] J J_26) (r_30 : Rg 0 0 a1) (v_31 : Int32) (v_32 : Int32) (rv_32 : Rg 0 7 v_32) (hd_33 : Hd_ R x I I_25) (hl_34 : Hl_ R x I I_25 225) (hm_35 : 7 < (v_32 : Int32).toInt + (n_9 : Int)), WG p l e { frames := 7, cells := 0, slots := 0, locals := 168 } s m ([.ref x, .int a0, .int a1] : List Value).toArray below meth c 5 0 0 (MQ below (Qv_ D cy L κ ln R (fun I2 J2 => Iw L κ R ow I2 ∧ Fq L κ ow [1230, 83400, 84600, 84700, 84800] I I2 ∧ Fq L κ ow [] J J2 ∧ (Hd_ R x I I2) ∧ (Hl_ R x I I2 225))) ([.ref x, .int a0, .int a1] : List Value).toArray s 0 0 (Al_ L)) D cy (Al_ L) s.heap L κ ln R I_25 J_26 9 [(0, .ref x), (1, .int a0), (2, .int a1), (3, .int v_31), (4, .int v_32)] [] := by
    intro n_9
    induction n_9 with
    | zero =>
      intro I_25 J_26 hU_27 hF_28 hG_29 r_30 v_31 v_32 rv_32 hd_33 hl_34 hm_35
      exact ms_0 rv_32 hm_35
    | succ n_9 ih_9 =>
      intro I_25 J_26 hU_27 hF_28 hG_29 r_30 v_31 v_32 rv_32 hd_33 hl_34 hm_35
      have j_38 : ∀ (I_36 : Nat → Nat → Int32) (J_37 : Nat → Nat → Int64) (hU_38 : Iw L κ R ow I_36) (hF_39 : Fq L κ ow [1230, 83400, 84600, 84700, 84800] I I_36) (hG_40 : Fq L κ ow [] J J_37) (r_41 : Rg 0 0 a1) (v_42 : Int32) (v_43 : Int32) (rv_43 : Rg 0 6 v_43) (hm_44 : 7 < (v_43 : Int32).toInt + ((n_9 + 1 : Nat) : Int)) (hd_45 : Hd_ R x I I_36) (hl_46 : Hl_ R x I I_36 225), WG p l e { frames := 7, cells := 0, slots := 0, locals := 168 } s m ([.ref x, .int a0, .int a1] : List Value).toArray below meth c 5 0 0 (MQ below (Qv_ D cy L κ ln R (fun I2 J2 => Iw L κ R ow I2 ∧ Fq L κ ow [1230, 83400, 84600, 84700, 84800] I I2 ∧ Fq L κ ow [] J J2 ∧ (Hd_ R x I I2) ∧ (Hl_ R x I I2 225))) ([.ref x, .int a0, .int a1] : List Value).toArray s 0 0 (Al_ L)) D cy (Al_ L) s.heap L κ ln R I_36 J_37 38 [(0, .ref x), (1, .int a0), (2, .int a1), (3, .int v_42), (4, .int v_43)] [] := by
        intro I_36 J_37 hU_38 hF_39 hG_40 r_41 v_42 v_43 rv_43 hm_44 hd_45 hl_46
        obtain ⟨x_47, hx_47, rx_47, tx_47⟩ := ex_add (y := 1) 1 7 rv_43 rc_1 (by decide) (by decide) (by decide) (by decide)
        refine g_iinc C dX12_orderFrom_38 (k := 4) (v := x_47) rfl hx_47 (by decide) (lo2 := [(4, .int x_47), (0, .ref x), (1, .int a0), (2, .int a1), (3, .int v_42)]) rfl ?_
        refine g_goto C (tgt := 9) dX12_orderFrom_41 (by decide) ?_
        refine g_lo (is := [1, 2, 3, 4, 0]) (lo2 := [(0, .ref x), (1, .int a0), (2, .int a1), (3, .int v_42), (4, .int x_47)]) rfl ?_
        exact ih_9 I_36 J_37 hU_38 hF_39 hG_40 (r_41) v_42 x_47 (rg_w rx_47 (by decide) (by decide)) hd_45 hl_46 (ms_1 hm_44 (ti_k tx_47 rc_1) (by decide))
      refine g_iload C 4 dX12_orderFrom_9 rfl ?_
      refine g_aload_n C 0 dX12_orderFrom_11 rfl rfl ?_
      refine g_getR C K hLx hkx f_12_13 hb_4 dX12_orderFrom_12 ?_
      refine g_iconst C (v := 0) dX12_orderFrom_15 (by decide) ?_
      obtain ⟨x_48, hx_48, rx_48⟩ := ex_getw (I := I_25) (a := b_4) (j := 0) (lo := 0) (hi := 7) hU_27.1 hb_4L (ro_a hb_4k (by decide) hb_4o hkx rfl) (by decide)
      refine h_iald C K hb_4L hb_4k (v := x_48) (0) (by decide) (by decide) (by rw [hb_4n]; decide) hx_48 dX12_orderFrom_16 ?_
      refine g_icmp_ge C (tgt := 44) dX12_orderFrom_17 (by decide) (fun h_49 => ?_) (fun h_49 => ?_)
      · skip
        refine g_iload_n C 3 dX12_orderFrom_44 rfl rfl ?_
        refine g_aload_n C 0 dX12_orderFrom_45 rfl rfl ?_
        obtain ⟨x_50, hx_50, rx_50⟩ := ex_getw (I := I_25) (a := x) (j := 30) (lo := (-2147483648)) (hi := 2147483647) hU_27.1 hLx (ro_o hkx (by decide)) rfl
        refine g_getI C K hLx hkx f_12_298 (v := x_50) hx_50 dX12_orderFrom_46 ?_
        refine g_icmp_lt C (tgt := 53) dX12_orderFrom_49 (by decide) (fun h_51 => ?_) (fun h_51 => ?_)
        · skip
          have r_52 := lt_l (hi := 2147483646) (h_51) (rg_all v_31) rx_50 (by decide)
          have r_53 := lt_r (lo := (-2147483647)) (h_51) (rg_all v_31) rx_50 (by decide)
          refine g_aload_n C 0 dX12_orderFrom_53 rfl rfl ?_
          refine g_iload_n C 3 dX12_orderFrom_54 rfl rfl ?_
          refine h_putI C K hLx hkx f_12_298 p_12_30 dX12_orderFrom_55 (fun I_54 hI_54 => ?_)
          have hU_55 := iw_put W9 hU_27 hI_54 (ro_o hkx (by decide)) (lo := (-2147483648)) (hi := 2147483647) (rfl) (rg_all _) rfl
          have hF_56 := fq_puto hF_28 hI_54 hkx (by decide) (by decide)
          refine g_iconst C (v := 0) dX12_orderFrom_58 (by decide) ?_
          refine g_istore C dX12_orderFrom_59 (by decide) (lo2 := [(4, .int 0), (0, .ref x), (1, .int a0), (2, .int a1), (3, .int v_31)]) rfl ?_
          refine g_lo (is := [1, 2, 3, 4, 0]) (lo2 := [(0, .ref x), (1, .int a0), (2, .int a1), (3, .int v_31), (4, .int 0)]) rfl ?_
          exact l_61 4 I_54 J_26 hU_55 hF_56 hG_29 (r_30) v_31 0 (rg_w rc_0 (by decide) (by decide)) (kp_s hI_54) (hd_u (r := 0) W9 hLx hkx hd_33 hI_54 (Or.inl (ro_o hkx (by decide)))) (hl_u W9 hLx hkx hl_34 hI_54 ⟨(ro_o hkx (by decide)), by decide⟩) (ms_s (a := 0) (b := 3) (N := 4) (rg_w rc_0 (by decide) (by decide)) (by decide))
        · skip
          exact g_vret B K rfl ⟨hU_27, hF_28, hG_29, hd_33, hl_34⟩ dX12_orderFrom_52
      · skip
        have r_57 := lt_l (hi := 6) (nle h_49) rv_32 rx_48 (by decide)
        have r_58 := lt_r (lo := 1) (nle h_49) rv_32 rx_48 (by decide)
        refine g_aload_n C 0 dX12_orderFrom_20 rfl rfl ?_
        refine g_iload C 4 dX12_orderFrom_21 rfl ?_
        refine g_callVI C K (c_X12_isDead W9 hLx hkx v_32 (r_57) hU_27) hLx hkx (by decide) rfl v_12_244 rfl ⟨rfl, rfl⟩ ⟨Nat.le_of_ble_eq_true rfl, Nat.le_of_ble_eq_true rfl⟩ (Nat.le_of_ble_eq_true rfl) ⟨Nat.le_of_ble_eq_true rfl, Nat.le_of_ble_eq_true rfl⟩ dX12_orderFrom_23 rfl (st := []) (fun x_59 I_60 J_61 h_62 => ?_)
        obtain ⟨rfl, rfl, rx_59⟩ := h_62
        refine g_if_ne C (tgt := 38) dX12_orderFrom_26 (by decide) (fun h_63 => ?_) (fun h_63 => ?_)
        · skip
          have n_64 : ¬ x_59 = 0 := h_63
          have r_65 := ne_lo (lo := 1) n_64 rx_59 rc_0 rfl (by decide)
          refine g_lo (is := [0, 1, 2, 3, 4]) (lo2 := [(0, .ref x), (1, .int a0), (2, .int a1), (3, .int v_31), (4, .int v_32)]) rfl ?_
          exact j_38 I_25 J_26 hU_27 hF_28 hG_29 (r_30) v_31 v_32 (r_57) hm_35 hd_33 hl_34
        · skip
          have r_66 := (⟨(rx_59).1, (eq_rg (h_63) rc_0).2⟩ : Rg 0 0 x_59)
          refine g_iload_n C 3 dX12_orderFrom_29 rfl rfl ?_
          refine g_aload_n C 0 dX12_orderFrom_30 rfl rfl ?_
          refine g_iload C 4 dX12_orderFrom_31 rfl ?_
          refine g_callVI C K (c_X12_wantsYet W9 hLx hkx v_32 (r_57) hU_27) hLx hkx (by decide) rfl v_12_268 rfl ⟨rfl, rfl⟩ ⟨Nat.le_of_ble_eq_true rfl, Nat.le_of_ble_eq_true rfl⟩ (Nat.le_of_ble_eq_true rfl) ⟨Nat.le_of_ble_eq_true rfl, Nat.le_of_ble_eq_true rfl⟩ dX12_orderFrom_33 rfl (st := [.int v_31]) (fun x_67 I_68 J_69 h_70 => ?_)
          obtain ⟨rfl, rfl, rx_67, ex_67⟩ := h_70
          obtain ⟨x_71, hx_71, rx_71⟩ := ex_any (z0 := v_31 + x_67)
          refine g_iadd C (v := x_71) dX12_orderFrom_36 hx_71 ?_
          refine g_istore_n C dX12_orderFrom_37 rfl (by decide) (lo2 := [(3, .int x_71), (0, .ref x), (1, .int a0), (2, .int a1), (4, .int v_32)]) rfl ?_
          refine g_lo (is := [1, 2, 3, 0, 4]) (lo2 := [(0, .ref x), (1, .int a0), (2, .int a1), (3, .int x_71), (4, .int v_32)]) rfl ?_
          exact j_38 I_25 J_26 hU_27 hF_28 hG_29 (r_30) x_71 v_32 (r_57) hm_35 hd_33 hl_34
  have l_124 : ∀ (n_124 : Nat) (I_72 : Nat → Nat → Int32) (J_73 : Nat → Nat → Int64) (hU_74 : Iw L κ R ow I_72) (hF_75 : Fq L κ ow [1230, 83400, 84600, 84700, 84800] I I_72) (hG_76 : Fq L κ ow [] J J_73) (r_77 : Rg 1 127 a1) (n_78 : ¬ a1 = 0) (v_79 : Int32) (rv_79 : Rg 0 7 v_79) (hd_80 : Hd_ R x I I_72) (hl_81 : Hl_ R x I I_72 225) (gh_82 : Gh_ R x I_72 225) (hm_83 : 7 < (v_79 : Int32).toInt + (n_124 : Int)), WG p l e { frames := 7, cells := 0, slots := 0, locals := 168 } s m ([.ref x, .int a0, .int a1] : List Value).toArray below meth c 5 0 0 (MQ below (Qv_ D cy L κ ln R (fun I2 J2 => Iw L κ R ow I2 ∧ Fq L κ ow [1230, 83400, 84600, 84700, 84800] I I2 ∧ Fq L κ ow [] J J2 ∧ (Hd_ R x I I2) ∧ (Hl_ R x I I2 225))) ([.ref x, .int a0, .int a1] : List Value).toArray s 0 0 (Al_ L)) D cy (Al_ L) s.heap L κ ln R I_72 J_73 124 [(0, .ref x), (1, .int a0), (2, .int a1), (3, .int v_79)] [] := by
    intro n_124
    induction n_124 with
    | zero =>
      intro I_72 J_73 hU_74 hF_75 hG_76 r_77 n_78 v_79 rv_79 hd_80 hl_81 gh_82 hm_83
      exact ms_0 rv_79 hm_83
    | succ n_124 ih_124 =>
      intro I_72 J_73 hU_74 hF_75 hG_76 r_77 n_78 v_79 rv_79 hd_80 hl_81 gh_82 hm_83
      have j_222 : ∀ (I_84 : Nat → Nat → Int32) (J_85 : Nat → Nat → Int64) (hU_86 : Iw L κ R ow I_84) (hF_87 : Fq L κ ow [1230, 83400, 84600, 84700, 84800] I I_84) (hG_88 : Fq L κ ow [] J J_85) (r_89 : Rg 1 127 a1) (n_90 : ¬ a1 = 0) (v_91 : Int32) (rv_91 : Rg 0 6 v_91) (hm_92 : 7 < (v_91 : Int32).toInt + ((n_124 + 1 : Nat) : Int)) (hd_93 : Hd_ R x I I_84) (hl_94 : Hl_ R x I I_84 225) (gh_95 : Gh_ R x I_84 225), WG p l e { frames := 7, cells := 0, slots := 0, locals := 168 } s m ([.ref x, .int a0, .int a1] : List Value).toArray below meth c 5 0 0 (MQ below (Qv_ D cy L κ ln R (fun I2 J2 => Iw L κ R ow I2 ∧ Fq L κ ow [1230, 83400, 84600, 84700, 84800] I I2 ∧ Fq L κ ow [] J J2 ∧ (Hd_ R x I I2) ∧ (Hl_ R x I I2 225))) ([.ref x, .int a0, .int a1] : List Value).toArray s 0 0 (Al_ L)) D cy (Al_ L) s.heap L κ ln R I_84 J_85 222 [(0, .ref x), (1, .int a0), (2, .int a1), (3, .int v_91)] [] := by
        intro I_84 J_85 hU_86 hF_87 hG_88 r_89 n_90 v_91 rv_91 hm_92 hd_93 hl_94 gh_95
        obtain ⟨x_96, hx_96, rx_96, tx_96⟩ := ex_add (y := 1) 1 7 rv_91 rc_1 (by decide) (by decide) (by decide) (by decide)
        refine g_iinc C dX12_orderFrom_222 (k := 3) (v := x_96) rfl hx_96 (by decide) (lo2 := [(3, .int x_96), (0, .ref x), (1, .int a0), (2, .int a1)]) rfl ?_
        refine g_goto C (tgt := 124) dX12_orderFrom_225 (by decide) ?_
        refine g_lo (is := [1, 2, 3, 0]) (lo2 := [(0, .ref x), (1, .int a0), (2, .int a1), (3, .int x_96)]) rfl ?_
        exact ih_124 I_84 J_85 hU_86 hF_87 hG_88 (r_89) (n_90) x_96 (rg_w rx_96 (by decide) (by decide)) hd_93 hl_94 gh_95 (ms_1 hm_92 (ti_k tx_96 rc_1) (by decide))
      have j_170 : ∀ (I_97 : Nat → Nat → Int32) (J_98 : Nat → Nat → Int64) (hU_99 : Iw L κ R ow I_97) (hF_100 : Fq L κ ow [1230, 83400, 84600, 84700, 84800] I I_97) (hG_101 : Fq L κ ow [] J J_98) (r_102 : Rg 1 127 a1) (n_103 : ¬ a1 = 0) (v_104 : Int32) (rv_104 : Rg 0 6 v_104) (hm_105 : 7 < (v_104 : Int32).toInt + ((n_124 + 1 : Nat) : Int)) (hd_106 : Hd_ R x I I_97) (hl_107 : Hl_ R x I I_97 225) (gh_108 : Gh_ R x I_97 225) (hb_109 : a1 >>> (v_104 &&& 31) &&& 1 = 1), WG p l e { frames := 7, cells := 0, slots := 0, locals := 168 } s m ([.ref x, .int a0, .int a1] : List Value).toArray below meth c 5 0 0 (MQ below (Qv_ D cy L κ ln R (fun I2 J2 => Iw L κ R ow I2 ∧ Fq L κ ow [1230, 83400, 84600, 84700, 84800] I I2 ∧ Fq L κ ow [] J J2 ∧ (Hd_ R x I I2) ∧ (Hl_ R x I I2 225))) ([.ref x, .int a0, .int a1] : List Value).toArray s 0 0 (Al_ L)) D cy (Al_ L) s.heap L κ ln R I_97 J_98 170 [(0, .ref x), (1, .int a0), (2, .int a1), (3, .int v_104)] [] := by
        intro I_97 J_98 hU_99 hF_100 hG_101 r_102 n_103 v_104 rv_104 hm_105 hd_106 hl_107 gh_108 hb_109
        refine g_aload_n C 0 dX12_orderFrom_170 rfl rfl ?_
        refine g_iload_n C 1 dX12_orderFrom_171 rfl rfl ?_
        refine g_iconst C (v := 1) dX12_orderFrom_172 (by decide) ?_
        obtain ⟨x_110, hx_110, rx_110, tx_110⟩ := ex_add 4 4 ra0 rc_1 (by decide) (by decide) (by decide) (by decide)
        refine g_iadd C (v := x_110) dX12_orderFrom_173 hx_110 ?_
        refine g_iload_n C 2 dX12_orderFrom_174 rfl rfl ?_
        refine g_iconst C (v := 1) dX12_orderFrom_175 (by decide) ?_
        refine g_iload_n C 3 dX12_orderFrom_176 rfl rfl ?_
        obtain ⟨x_111, hx_111, rx_111⟩ := ex_shl (x := 1) (y := v_104) 6 64 rfl (rv_104) (by decide)
        refine g_ishl C (v := x_111) dX12_orderFrom_177 hx_111 ?_
        refine g_iconst C (v := (-1)) dX12_orderFrom_178 (by decide) ?_
        obtain ⟨x_112, hx_112, rx_112⟩ := ex_any (z0 := x_111 ^^^ (-1))
        refine g_ixor C (v := x_112) dX12_orderFrom_179 hx_112 ?_
        obtain ⟨x_113, hx_113, rx_113⟩ := ex_andl (x := a1) (y := x_112) (b := 127) (rg_w r_102 (by decide) (by decide))
        refine g_iand C (v := x_113) dX12_orderFrom_180 hx_113 ?_
        refine g_callVV C K (c_X12_orderFrom_4 W9 hLx hkx x_110 x_113 (rx_110) (rx_113) hU_99  (by have q1 := bc_rm (z := x_113) (rg_w r_102 (by decide) (by decide)) (rv_104) hb_109 (by rw [hx_111, hx_112]; exact hx_113); have q2 := hbc; omega)) hLx hkx (by decide) rfl v_12_304 rfl ⟨rfl, rfl⟩ ⟨Nat.le_of_ble_eq_true rfl, Nat.le_of_ble_eq_true rfl⟩ (Nat.le_of_ble_eq_true rfl) ⟨Nat.le_of_ble_eq_true rfl, Nat.le_of_ble_eq_true rfl⟩ dX12_orderFrom_181 rfl (st := []) (fun I_115 J_116 h_117 => ?_)
        obtain ⟨hUI_115, hFI_115, hGJ_116, ex_114⟩ := h_117
        have hF_118 := fq_tr hF_100 hFI_115 (by decide)
        have hG_119 := fq_tr hG_101 hGJ_116 (by decide)
        refine g_iconst C (v := 0) dX12_orderFrom_184 (by decide) ?_
        refine g_istore C dX12_orderFrom_185 (by decide) (lo2 := [(4, .int 0), (0, .ref x), (1, .int a0), (2, .int a1), (3, .int v_104)]) rfl ?_
        refine g_lo (is := [1, 2, 3, 4, 0]) (lo2 := [(0, .ref x), (1, .int a0), (2, .int a1), (3, .int v_104), (4, .int 0)]) rfl ?_
        have ex_187 : ∀ (I_121 : Nat → Nat → Int32) (hI_121 : I_121 = cpn_ I_115 b_1 b_4 (225) (72) 75) (v_120 : Int32) (rv_120 : Rg 75 75 v_120), WG p l e { frames := 7, cells := 0, slots := 0, locals := 168 } s m ([.ref x, .int a0, .int a1] : List Value).toArray below meth c 5 0 0 (MQ below (Qv_ D cy L κ ln R (fun I2 J2 => Iw L κ R ow I2 ∧ Fq L κ ow [1230, 83400, 84600, 84700, 84800] I I2 ∧ Fq L κ ow [] J J2 ∧ (Hd_ R x I I2) ∧ (Hl_ R x I I2 225))) ([.ref x, .int a0, .int a1] : List Value).toArray s 0 0 (Al_ L)) D cy (Al_ L) s.heap L κ ln R I_121 J_116 222 [(0, .ref x), (1, .int a0), (2, .int a1), (3, .int v_104), (4, .int v_120)] [] := by
          intro I_121 hI_121 v_120 rv_120
          have hF_122 := fq_cpn hF_118 hI_121 (ro_a hb_4k (by decide) hb_4o hkx rfl) (by decide) (by decide)
          have hU_123 := uw_cpn hUI_115.1 hb_1L hI_121 (ro_a hb_4k (by decide) hb_4o hkx rfl) (ro_a hb_1k (by decide) hb_1o hkx rfl) (fun i hi => by rw [bn_834, bn_848, show (225 + i) % 75 = i by omega]; exact ⟨Int.le_refl _, Int.le_refl _⟩)
          have hU_124 := iw_set W9 hUI_115.2 hU_123 hLx hkx hb_4 hI_121 ((gh_of gh_108 ex_114.1 ex_114.2 (by decide)) _ _ hb_4 hb_1)
          refine g_lo (is := [0, 1, 2, 3]) (lo2 := [(0, .ref x), (1, .int a0), (2, .int a1), (3, .int v_104)]) rfl ?_
          exact j_222 I_121 J_116 hU_124 hF_122 hG_119 (r_102) (n_103) v_104 (rv_104) hm_105 (hd_c (r := 0) W9 hLx hkx (hd_t hd_106 ex_114.1) hI_121 (Or.inr (by omega))) (hl_c W9 hLx hkx (hl_t hl_107 ex_114.2 (by decide)) hI_121 (Or.inl ⟨(ro_a hb_4k (by decide) hb_4o hkx rfl), by decide⟩)) (gh_c W9 hLx hkx hb_4 (gh_of gh_108 ex_114.1 ex_114.2 (by decide)) hI_121)
        have l_187 : ∀ (m_187 : Nat) (v_125 : Int32) (I_126 : Nat → Nat → Int32), v_125.toInt + (m_187 : Int) = 75 → 0 ≤ v_125.toInt → I_126 = cpn_ I_115 b_1 b_4 (225) (72) v_125.toNatClampNeg → WG p l e { frames := 7, cells := 0, slots := 0, locals := 168 } s m ([.ref x, .int a0, .int a1] : List Value).toArray below meth c 5 0 0 (MQ below (Qv_ D cy L κ ln R (fun I2 J2 => Iw L κ R ow I2 ∧ Fq L κ ow [1230, 83400, 84600, 84700, 84800] I I2 ∧ Fq L κ ow [] J J2 ∧ (Hd_ R x I I2) ∧ (Hl_ R x I I2 225))) ([.ref x, .int a0, .int a1] : List Value).toArray s 0 0 (Al_ L)) D cy (Al_ L) s.heap L κ ln R I_126 J_116 187 [(0, .ref x), (1, .int a0), (2, .int a1), (3, .int v_104), (4, .int v_125)] [] := by
          intro m_187
          induction m_187 with
          | zero =>
            intro v_125 I_126 hk_187 h0_187 hI_126
            have rv_125 : Rg 75 75 v_125 := by unfold Rg; omega
            refine g_iload C 4 dX12_orderFrom_187 rfl ?_
            refine g_bipush C (v := 75) dX12_orderFrom_189 (by decide) ?_
            refine g_icmp_ge C (tgt := 222) dX12_orderFrom_191 (by decide) (fun h_127 => ?_) (fun h_127 => ?_)
            · skip
              refine g_lo (is := [0, 1, 2, 3, 4]) (lo2 := [(0, .ref x), (1, .int a0), (2, .int a1), (3, .int v_104), (4, .int v_125)]) rfl ?_
              exact ex_187 I_126 (hI_126.trans (congrArg (fun q => cpn_ I_115 b_1 b_4 (225) (72) q) (show v_125.toNatClampNeg = 75 from by have := ix_n rv_125 (by decide); have := rv_125.1; have := rv_125.2; omega))) v_125 rv_125
            · skip
              have r_128 := lt_l (hi := 74) (nle h_127) rv_125 rc_75 (by decide)
              exact rg_no r_128 (by decide)
          | succ m_187 ih_187 =>
            intro v_125 I_126 hk_187 h0_187 hI_126
            have rv_125 : Rg 0 74 v_125 := by unfold Rg; omega
            refine g_iload C 4 dX12_orderFrom_187 rfl ?_
            refine g_bipush C (v := 75) dX12_orderFrom_189 (by decide) ?_
            refine g_icmp_ge C (tgt := 222) dX12_orderFrom_191 (by decide) (fun h_129 => ?_) (fun h_129 => ?_)
            · skip
              have r_130 := le_r (h_129) rc_75 rv_125
              exact rg_no r_130 (by decide)
            · skip
              refine g_aload_n C 0 dX12_orderFrom_194 rfl rfl ?_
              refine g_getR C K hLx hkx f_12_13 hb_4 dX12_orderFrom_195 ?_
              refine g_bipush C (v := 72) dX12_orderFrom_198 (by decide) ?_
              refine g_iload C 4 dX12_orderFrom_200 rfl ?_
              obtain ⟨x_131, hx_131, rx_131, tx_131⟩ := ex_add 72 146 rc_72 rv_125 (by decide) (by decide) (by decide) (by decide)
              refine g_iadd C (v := x_131) dX12_orderFrom_202 hx_131 ?_
              refine g_aload_n C 0 dX12_orderFrom_203 rfl rfl ?_
              refine g_getR C K hLx hkx f_12_48 hb_1 dX12_orderFrom_204 ?_
              refine g_bipush C (v := 75) dX12_orderFrom_207 (by decide) ?_
              refine g_iload_n C 1 dX12_orderFrom_209 rfl rfl ?_
              obtain ⟨x_132, hx_132, rx_132, tx_132⟩ := ex_mulT 225 225 rc_75 ra0 (by decide) (by decide) (by decide) (by decide) (by decide)
              refine g_imul C (v := x_132) dX12_orderFrom_210 hx_132 ?_
              refine g_iload C 4 dX12_orderFrom_211 rfl ?_
              obtain ⟨x_133, hx_133, rx_133, tx_133⟩ := ex_add 225 299 rx_132 rv_125 (by decide) (by decide) (by decide) (by decide)
              refine g_iadd C (v := x_133) dX12_orderFrom_213 hx_133 ?_
              obtain ⟨x_134, hx_134, rx_134⟩ := ex_any (z0 := I_126 b_1 (x_133.toNatClampNeg))
              refine h_iald C K hb_1L hb_1k (v := x_134) (x_133.toNatClampNeg) (rfl) (ix_0 rx_133 (by decide)) (ix_lt rx_133 (by decide) hb_1n (by decide)) hx_134 dX12_orderFrom_214 ?_
              refine h_iast C K hb_4L hb_4k (x_131.toNatClampNeg) (rfl) (ix_0 rx_131 (by decide)) (ix_lt rx_131 (by decide) hb_4n (by decide)) dX12_orderFrom_215 (fun I_135 hI_135 => ?_)
              obtain ⟨x_136, hx_136, rx_136, tx_136⟩ := ex_add (y := 1) 1 75 rv_125 rc_1 (by decide) (by decide) (by decide) (by decide)
              refine g_iinc C dX12_orderFrom_216 (k := 4) (v := x_136) rfl hx_136 (by decide) (lo2 := [(4, .int x_136), (0, .ref x), (1, .int a0), (2, .int a1), (3, .int v_104)]) rfl ?_
              refine g_goto C (tgt := 187) dX12_orderFrom_219 (by decide) ?_
              refine g_lo (is := [1, 2, 3, 4, 0]) (lo2 := [(0, .ref x), (1, .int a0), (2, .int a1), (3, .int v_104), (4, .int x_136)]) rfl ?_
              have kk_187 : x_136.toNatClampNeg = v_125.toNatClampNeg + 1 := by have q1 := ix_n rv_125 (by decide); have q2 := (ti_k tx_136 rc_1); have q3 : x_136.toNatClampNeg = x_136.toInt.toNat := rfl; omega
              exact ih_187 x_136 I_135 (by have := (ti_k tx_136 rc_1); omega) (by have := (ti_k tx_136 rc_1); omega) (by rw [kk_187]; exact cpn_s hI_126 hx_134 hI_135 (show x_133.toNatClampNeg = (225) + v_125.toNatClampNeg from by rw [nx_a tx_133 rx_132 rv_125 (by decide), nx_m (k := 75) tx_132 ra0 (by decide)] <;> omega) (show x_131.toNatClampNeg = (72) + v_125.toNatClampNeg from by rw [nx_a tx_131 rc_72 rv_125 (by decide)]; simp only [show (72 : Int32).toNatClampNeg = 72 from rfl] <;> omega) (Or.inl (ne_ro (ro_a hb_1k (by decide) hb_1o hkx rfl) (ro_a hb_4k (by decide) hb_4o hkx rfl) (by decide))))
        exact l_187 75 0 I_115 (by decide) (by decide) cpn_0
      refine g_iload_n C 3 dX12_orderFrom_124 rfl rfl ?_
      refine g_aload_n C 0 dX12_orderFrom_125 rfl rfl ?_
      refine g_getR C K hLx hkx f_12_13 hb_4 dX12_orderFrom_126 ?_
      refine g_iconst C (v := 0) dX12_orderFrom_129 (by decide) ?_
      obtain ⟨x_137, hx_137, rx_137⟩ := ex_getw (I := I_72) (a := b_4) (j := 0) (lo := 0) (hi := 7) hU_74.1 hb_4L (ro_a hb_4k (by decide) hb_4o hkx rfl) (by decide)
      refine h_iald C K hb_4L hb_4k (v := x_137) (0) (by decide) (by decide) (by rw [hb_4n]; decide) hx_137 dX12_orderFrom_130 ?_
      refine g_icmp_ge C (tgt := 228) dX12_orderFrom_131 (by decide) (fun h_138 => ?_) (fun h_138 => ?_)
      · skip
        exact g_vret B K rfl ⟨hU_74, hF_75, hG_76, hd_80, hl_81⟩ dX12_orderFrom_228
      · skip
        have r_139 := lt_l (hi := 6) (nle h_138) rv_79 rx_137 (by decide)
        have r_140 := lt_r (lo := 1) (nle h_138) rv_79 rx_137 (by decide)
        refine g_iload_n C 2 dX12_orderFrom_134 rfl rfl ?_
        refine g_iload_n C 3 dX12_orderFrom_135 rfl rfl ?_
        refine g_callSI C K (c_X12_has W9 a1 v_79  hU_74) s_12_231 rfl ⟨rfl, rfl⟩ ⟨Nat.le_of_ble_eq_true rfl, Nat.le_of_ble_eq_true rfl⟩ (Nat.le_of_ble_eq_true rfl) ⟨Nat.le_of_ble_eq_true rfl, Nat.le_of_ble_eq_true rfl⟩ dX12_orderFrom_136 rfl (st := []) (fun x_141 I_142 J_143 h_144 => ?_)
        obtain ⟨rfl, rfl, rx_141, ex_141⟩ := h_144
        refine g_if_ne C (tgt := 145) dX12_orderFrom_139 (by decide) (fun h_145 => ?_) (fun h_145 => ?_)
        · skip
          have n_146 : ¬ x_141 = 0 := h_145
          have r_147 := ne_lo (lo := 1) n_146 rx_141 rc_0 rfl (by decide)
          refine g_aload_n C 0 dX12_orderFrom_145 rfl rfl ?_
          refine g_getR C K hLx hkx f_12_42 hb_3 dX12_orderFrom_146 ?_
          refine g_iload_n C 1 dX12_orderFrom_149 rfl rfl ?_
          refine g_iload_n C 3 dX12_orderFrom_150 rfl rfl ?_
          refine h_iast C K hb_3L hb_3k (a0.toNatClampNeg) (rfl) (ix_0 ra0 (by decide)) (ix_lt ra0 (by decide) hb_3n (by decide)) dX12_orderFrom_151 (fun I_148 hI_148 => ?_)
          have hU_149 := iw_put W9 hU_74 hI_148 (ro_a hb_3k (by decide) hb_3o hkx rfl) (lo := (-2147483648)) (hi := 2147483647) (rfl) (rg_all _) rfl
          have hF_150 := fq_puta hF_75 hI_148 (ro_a hb_3k (by decide) hb_3o hkx rfl) (by decide) (by decide)
          refine g_aload_n C 0 dX12_orderFrom_152 rfl rfl ?_
          refine g_iload_n C 3 dX12_orderFrom_153 rfl rfl ?_
          refine g_callVV C K (c_X12_eatsAll W9 hLx hkx v_79 (r_139) hU_149) hLx hkx (by decide) rfl v_12_301 rfl ⟨rfl, rfl⟩ ⟨Nat.le_of_ble_eq_true rfl, Nat.le_of_ble_eq_true rfl⟩ (Nat.le_of_ble_eq_true rfl) ⟨Nat.le_of_ble_eq_true rfl, Nat.le_of_ble_eq_true rfl⟩ dX12_orderFrom_154 rfl (st := []) (fun I_152 J_153 h_154 => ?_)
          obtain ⟨hUI_152, hFI_152, hGJ_153, ex_151⟩ := h_154
          have hF_155 := fq_tr hF_150 hFI_152 (by decide)
          have hG_156 := fq_tr hG_76 hGJ_153 (by decide)
          refine g_aload_n C 0 dX12_orderFrom_157 rfl rfl ?_
          refine g_iload_n C 3 dX12_orderFrom_158 rfl rfl ?_
          refine g_callVI C K (c_X12_plateOf W9 hLx hkx v_79 (r_139) hUI_152) hLx hkx (by decide) rfl v_12_247 rfl ⟨rfl, rfl⟩ ⟨Nat.le_of_ble_eq_true rfl, Nat.le_of_ble_eq_true rfl⟩ (Nat.le_of_ble_eq_true rfl) ⟨Nat.le_of_ble_eq_true rfl, Nat.le_of_ble_eq_true rfl⟩ dX12_orderFrom_159 rfl (st := []) (fun x_157 I_158 J_159 h_160 => ?_)
          obtain ⟨rfl, rfl, rx_157⟩ := h_160
          refine g_if_le C (tgt := 170) dX12_orderFrom_162 (by decide) (fun h_161 => ?_) (fun h_161 => ?_)
          · skip
            have r_162 := le_l (h_161) rx_157 rc_0
            refine g_lo (is := [0, 1, 2, 3]) (lo2 := [(0, .ref x), (1, .int a0), (2, .int a1), (3, .int v_79)]) rfl ?_
            exact j_170 I_152 J_153 hUI_152 hF_155 hG_156 (r_77) (n_78) v_79 (r_139) hm_83 (hd_t (hd_u W9 hLx hkx hd_80 hI_148 (Or.inr (Or.inl ⟨(ro_a hb_3k (by decide) hb_3o hkx rfl), by decide⟩))) ex_151) (hl_fq W9 hLx hkx (hl_u W9 hLx hkx hl_81 hI_148 ⟨(ro_a hb_3k (by decide) hb_3o hkx rfl), by decide⟩) hFI_152 (by decide)) (gh_mv W9 hLx hkx (gh_u W9 hLx hkx gh_82 hI_148 ⟨(ro_a hb_3k (by decide) hb_3o hkx rfl), by decide, by decide⟩) ex_151 hFI_152 (by decide)) (ex_141 n_146)
          · skip
            have r_163 := lt_r (lo := 1) (nle h_161) rc_0 rx_157 (by decide)
            refine g_aload_n C 0 dX12_orderFrom_165 rfl rfl ?_
            refine g_iload_n C 3 dX12_orderFrom_166 rfl rfl ?_
            refine g_callVV C K (c_X12_pass W9 hLx hkx v_79 (r_139) hUI_152) hLx hkx (by decide) rfl v_12_275 rfl ⟨rfl, rfl⟩ ⟨Nat.le_of_ble_eq_true rfl, Nat.le_of_ble_eq_true rfl⟩ (Nat.le_of_ble_eq_true rfl) ⟨Nat.le_of_ble_eq_true rfl, Nat.le_of_ble_eq_true rfl⟩ dX12_orderFrom_167 rfl (st := []) (fun I_165 J_166 h_167 => ?_)
            obtain ⟨hUI_165, hFI_165, hGJ_166, ex_164⟩ := h_167
            have hF_168 := fq_tr hF_155 hFI_165 (by decide)
            have hG_169 := fq_tr hG_156 hGJ_166 (by decide)
            refine g_lo (is := [0, 1, 2, 3]) (lo2 := [(0, .ref x), (1, .int a0), (2, .int a1), (3, .int v_79)]) rfl ?_
            exact j_170 I_165 J_166 hUI_165 hF_168 hG_169 (r_77) (n_78) v_79 (r_139) hm_83 (hd_t (hd_t (hd_u W9 hLx hkx hd_80 hI_148 (Or.inr (Or.inl ⟨(ro_a hb_3k (by decide) hb_3o hkx rfl), by decide⟩))) ex_151) ex_164) (hl_fq W9 hLx hkx (hl_fq W9 hLx hkx (hl_u W9 hLx hkx hl_81 hI_148 ⟨(ro_a hb_3k (by decide) hb_3o hkx rfl), by decide⟩) hFI_152 (by decide)) hFI_165 (by decide)) (gh_mv W9 hLx hkx (gh_mv W9 hLx hkx (gh_u W9 hLx hkx gh_82 hI_148 ⟨(ro_a hb_3k (by decide) hb_3o hkx rfl), by decide, by decide⟩) ex_151 hFI_152 (by decide)) ex_164 hFI_165 (by decide)) (ex_141 n_146)
        · skip
          have r_170 := (⟨(rx_141).1, (eq_rg (h_145) rc_0).2⟩ : Rg 0 0 x_141)
          refine g_goto C (tgt := 222) dX12_orderFrom_142 (by decide) ?_
          refine g_lo (is := [0, 1, 2, 3]) (lo2 := [(0, .ref x), (1, .int a0), (2, .int a1), (3, .int v_79)]) rfl ?_
          exact j_222 I_72 J_73 hU_74 hF_75 hG_76 (r_77) (n_78) v_79 (r_139) hm_83 hd_80 hl_81 gh_82
  refine g_iload_n C 2 dX12_orderFrom_0 rfl rfl ?_
  refine g_if_ne C (tgt := 88) dX12_orderFrom_1 (by decide) (fun h_171 => ?_) (fun h_171 => ?_)
  · skip
    have n_172 : ¬ a1 = 0 := h_171
    have r_173 := ne_lo (lo := 1) n_172 ra1 rc_0 rfl (by decide)
    refine g_iconst C (v := 0) dX12_orderFrom_88 (by decide) ?_
    refine g_istore_n C dX12_orderFrom_89 rfl (by decide) (lo2 := [(3, .int 0), (0, .ref x), (1, .int a0), (2, .int a1)]) rfl ?_
    refine g_lo (is := [1, 2, 3, 0]) (lo2 := [(0, .ref x), (1, .int a0), (2, .int a1), (3, .int 0)]) rfl ?_
    have ex_90 : ∀ (I_175 : Nat → Nat → Int32) (hI_175 : I_175 = cpn_ I b_4 b_1 (72) (225) 75) (v_174 : Int32) (rv_174 : Rg 75 75 v_174), WG p l e { frames := 7, cells := 0, slots := 0, locals := 168 } s m ([.ref x, .int a0, .int a1] : List Value).toArray below meth c 5 0 0 (MQ below (Qv_ D cy L κ ln R (fun I2 J2 => Iw L κ R ow I2 ∧ Fq L κ ow [1230, 83400, 84600, 84700, 84800] I I2 ∧ Fq L κ ow [] J J2 ∧ (Hd_ R x I I2) ∧ (Hl_ R x I I2 225))) ([.ref x, .int a0, .int a1] : List Value).toArray s 0 0 (Al_ L)) D cy (Al_ L) s.heap L κ ln R I_175 J 122 [(0, .ref x), (1, .int a0), (2, .int a1), (3, .int v_174)] [] := by
      intro I_175 hI_175 v_174 rv_174
      have hF_176 := fq_cpn hF hI_175 (ro_a hb_1k (by decide) hb_1o hkx rfl) (by decide) (by decide)
      have hU_177 := uw_cpn hU.1 hb_4L hI_175 (ro_a hb_1k (by decide) hb_1o hkx rfl) (ro_a hb_4k (by decide) hb_4o hkx rfl) (fun i hi => by rw [bn_848, bn_834, show (225 + i) % 75 = i by omega]; exact ⟨Int.le_refl _, Int.le_refl _⟩)
      have hU_178 := iw_cpo W9 hU.2 hU_177 hI_175 (ro_a hb_1k (by decide) hb_1o hkx rfl) (fun _ => rfl)
      refine g_iconst C (v := 0) dX12_orderFrom_122 (by decide) ?_
      refine g_istore_n C dX12_orderFrom_123 rfl (by decide) (lo2 := [(3, .int 0), (0, .ref x), (1, .int a0), (2, .int a1)]) rfl ?_
      refine g_lo (is := [1, 2, 3, 0]) (lo2 := [(0, .ref x), (1, .int a0), (2, .int a1), (3, .int 0)]) rfl ?_
      exact l_124 8 I_175 J hU_178 hF_176 hG (r_173) (n_172) 0 (rg_w rc_0 (by decide) (by decide)) (hd_c (r := 848) W9 hLx hkx hd_rf hI_175 (Or.inl ⟨(ro_a hb_1k (by decide) hb_1o hkx rfl), by decide⟩)) (hl_c (r := 0) W9 hLx hkx hl_rf hI_175 (Or.inr (Nat.le_refl _))) (gh_lay W9 hU.2 hLx hkx hb_4 hb_1 hI_175) (ms_s (a := 0) (b := 7) (N := 8) (rg_w rc_0 (by decide) (by decide)) (by decide))
    have l_90 : ∀ (m_90 : Nat) (v_179 : Int32) (I_180 : Nat → Nat → Int32), v_179.toInt + (m_90 : Int) = 75 → 0 ≤ v_179.toInt → I_180 = cpn_ I b_4 b_1 (72) (225) v_179.toNatClampNeg → WG p l e { frames := 7, cells := 0, slots := 0, locals := 168 } s m ([.ref x, .int a0, .int a1] : List Value).toArray below meth c 5 0 0 (MQ below (Qv_ D cy L κ ln R (fun I2 J2 => Iw L κ R ow I2 ∧ Fq L κ ow [1230, 83400, 84600, 84700, 84800] I I2 ∧ Fq L κ ow [] J J2 ∧ (Hd_ R x I I2) ∧ (Hl_ R x I I2 225))) ([.ref x, .int a0, .int a1] : List Value).toArray s 0 0 (Al_ L)) D cy (Al_ L) s.heap L κ ln R I_180 J 90 [(0, .ref x), (1, .int a0), (2, .int a1), (3, .int v_179)] [] := by
      intro m_90
      induction m_90 with
      | zero =>
        intro v_179 I_180 hk_90 h0_90 hI_180
        have rv_179 : Rg 75 75 v_179 := by unfold Rg; omega
        refine g_iload_n C 3 dX12_orderFrom_90 rfl rfl ?_
        refine g_bipush C (v := 75) dX12_orderFrom_91 (by decide) ?_
        refine g_icmp_ge C (tgt := 122) dX12_orderFrom_93 (by decide) (fun h_181 => ?_) (fun h_181 => ?_)
        · skip
          refine g_lo (is := [0, 1, 2, 3]) (lo2 := [(0, .ref x), (1, .int a0), (2, .int a1), (3, .int v_179)]) rfl ?_
          exact ex_90 I_180 (hI_180.trans (congrArg (fun q => cpn_ I b_4 b_1 (72) (225) q) (show v_179.toNatClampNeg = 75 from by have := ix_n rv_179 (by decide); have := rv_179.1; have := rv_179.2; omega))) v_179 rv_179
        · skip
          have r_182 := lt_l (hi := 74) (nle h_181) rv_179 rc_75 (by decide)
          exact rg_no r_182 (by decide)
      | succ m_90 ih_90 =>
        intro v_179 I_180 hk_90 h0_90 hI_180
        have rv_179 : Rg 0 74 v_179 := by unfold Rg; omega
        refine g_iload_n C 3 dX12_orderFrom_90 rfl rfl ?_
        refine g_bipush C (v := 75) dX12_orderFrom_91 (by decide) ?_
        refine g_icmp_ge C (tgt := 122) dX12_orderFrom_93 (by decide) (fun h_183 => ?_) (fun h_183 => ?_)
        · skip
          have r_184 := le_r (h_183) rc_75 rv_179
          exact rg_no r_184 (by decide)
        · skip
          refine g_aload_n C 0 dX12_orderFrom_96 rfl rfl ?_
          refine g_getR C K hLx hkx f_12_48 hb_1 dX12_orderFrom_97 ?_
          refine g_bipush C (v := 75) dX12_orderFrom_100 (by decide) ?_
          refine g_iload_n C 1 dX12_orderFrom_102 rfl rfl ?_
          obtain ⟨x_185, hx_185, rx_185, tx_185⟩ := ex_mulT 225 225 rc_75 ra0 (by decide) (by decide) (by decide) (by decide) (by decide)
          refine g_imul C (v := x_185) dX12_orderFrom_103 hx_185 ?_
          refine g_iload_n C 3 dX12_orderFrom_104 rfl rfl ?_
          obtain ⟨x_186, hx_186, rx_186, tx_186⟩ := ex_add 225 299 rx_185 rv_179 (by decide) (by decide) (by decide) (by decide)
          refine g_iadd C (v := x_186) dX12_orderFrom_105 hx_186 ?_
          refine g_aload_n C 0 dX12_orderFrom_106 rfl rfl ?_
          refine g_getR C K hLx hkx f_12_13 hb_4 dX12_orderFrom_107 ?_
          refine g_bipush C (v := 72) dX12_orderFrom_110 (by decide) ?_
          refine g_iload_n C 3 dX12_orderFrom_112 rfl rfl ?_
          obtain ⟨x_187, hx_187, rx_187, tx_187⟩ := ex_add 72 146 rc_72 rv_179 (by decide) (by decide) (by decide) (by decide)
          refine g_iadd C (v := x_187) dX12_orderFrom_113 hx_187 ?_
          obtain ⟨x_188, hx_188, rx_188⟩ := ex_any (z0 := I_180 b_4 (x_187.toNatClampNeg))
          refine h_iald C K hb_4L hb_4k (v := x_188) (x_187.toNatClampNeg) (rfl) (ix_0 rx_187 (by decide)) (ix_lt rx_187 (by decide) hb_4n (by decide)) hx_188 dX12_orderFrom_114 ?_
          refine h_iast C K hb_1L hb_1k (x_186.toNatClampNeg) (rfl) (ix_0 rx_186 (by decide)) (ix_lt rx_186 (by decide) hb_1n (by decide)) dX12_orderFrom_115 (fun I_189 hI_189 => ?_)
          obtain ⟨x_190, hx_190, rx_190, tx_190⟩ := ex_add (y := 1) 1 75 rv_179 rc_1 (by decide) (by decide) (by decide) (by decide)
          refine g_iinc C dX12_orderFrom_116 (k := 3) (v := x_190) rfl hx_190 (by decide) (lo2 := [(3, .int x_190), (0, .ref x), (1, .int a0), (2, .int a1)]) rfl ?_
          refine g_goto C (tgt := 90) dX12_orderFrom_119 (by decide) ?_
          refine g_lo (is := [1, 2, 3, 0]) (lo2 := [(0, .ref x), (1, .int a0), (2, .int a1), (3, .int x_190)]) rfl ?_
          have kk_90 : x_190.toNatClampNeg = v_179.toNatClampNeg + 1 := by have q1 := ix_n rv_179 (by decide); have q2 := (ti_k tx_190 rc_1); have q3 : x_190.toNatClampNeg = x_190.toInt.toNat := rfl; omega
          exact ih_90 x_190 I_189 (by have := (ti_k tx_190 rc_1); omega) (by have := (ti_k tx_190 rc_1); omega) (by rw [kk_90]; exact cpn_s hI_180 hx_188 hI_189 (show x_187.toNatClampNeg = (72) + v_179.toNatClampNeg from by rw [nx_a tx_187 rc_72 rv_179 (by decide)]; simp only [show (72 : Int32).toNatClampNeg = 72 from rfl] <;> omega) (show x_186.toNatClampNeg = (225) + v_179.toNatClampNeg from by rw [nx_a tx_186 rx_185 rv_179 (by decide), nx_m (k := 75) tx_185 ra0 (by decide)] <;> omega) (Or.inl (ne_ro (ro_a hb_4k (by decide) hb_4o hkx rfl) (ro_a hb_1k (by decide) hb_1o hkx rfl) (by decide))))
    exact l_90 75 0 I (by decide) (by decide) cpn_0
  · skip
    have r_191 := (⟨(ra1).1, (eq_rg (h_171) rc_0).2⟩ : Rg 0 0 a1)
    refine g_iconst C (v := 0) dX12_orderFrom_4 (by decide) ?_
    refine g_istore_n C dX12_orderFrom_5 rfl (by decide) (lo2 := [(3, .int 0), (0, .ref x), (1, .int a0), (2, .int a1)]) rfl ?_
    refine g_iconst C (v := 0) dX12_orderFrom_6 (by decide) ?_
    refine g_istore C dX12_orderFrom_7 (by decide) (lo2 := [(4, .int 0), (3, .int 0), (0, .ref x), (1, .int a0), (2, .int a1)]) rfl ?_
    refine g_lo (is := [2, 3, 4, 1, 0]) (lo2 := [(0, .ref x), (1, .int a0), (2, .int a1), (3, .int 0), (4, .int 0)]) rfl ?_
    exact l_9 8 I J hU hF hG (r_191) 0 0 (rg_w rc_0 (by decide) (by decide)) hd_rf hl_rf (ms_s (a := 0) (b := 7) (N := 8) (rg_w rc_0 (by decide) (by decide)) (by decide))
set_option maxRecDepth 100000 in
set_option maxHeartbeats 8000000 in
theorem c_X12_orderFrom_2 {l : Launch} {D : va_G} {cy : Nat → ClassId} {L : List Nat} {κ ln : Nat → Nat} {R : Nat → Nat → Option Nat} {I : Nat → Nat → Int32} {J : Nat → Nat → Int64} {ow : Nat → Nat × Nat} (W9 : ∀ a ∈ L, Shp L κ ln R ow a) {x : Nat} (hLx : x ∈ L) (hkx : κ x = 12) (a0 : Int32) (a1 : Int32) (ra0 : Rg 2 2 a0) (ra1 : Rg 0 127 a1) (hU : Iw L κ R ow I) (hbc : (bc_ a1).toInt ≤ 5) : CtV l yX12_orderFrom cX12_orderFrom 5 none { frames := 8, cells := 0, slots := 0, locals := 192 } D cy L κ ln R I J [.ref x, .int a0, .int a1] (fun I2 J2 => Iw L κ R ow I2 ∧ Fq L κ ow [1230, 83400, 84600, 84700, 84800] I I2 ∧ Fq L κ ow [] J J2 ∧ (Hd_ R x I I2) ∧ (Hl_ R x I I2 150)) := by
  refine CtV.of (by decide +kernel) (Nat.le_of_ble_eq_true rfl) ?_
  intro p e s m below meth c B K
  have C := B.1
  have hF : Fq L κ ow [1230, 83400, 84600, 84700, 84800] I I := fq_rf
  have hG : Fq L κ ow [] J J := fq_rf
  obtain ⟨b_1, hb_1, hb_1L, hb_1k, hb_1n, hb_1o⟩ := shp_a (W9 x hLx) hkx 28 14 525 rfl (by decide)
  obtain ⟨b_2, hb_2, hb_2L, hb_2k, hb_2n, hb_2o⟩ := shp_a (W9 x hLx) hkx 27 14 7 rfl (by decide)
  obtain ⟨b_3, hb_3, hb_3L, hb_3k, hb_3n, hb_3o⟩ := shp_a (W9 x hLx) hkx 26 14 7 rfl (by decide)
  obtain ⟨b_4, hb_4, hb_4L, hb_4k, hb_4n, hb_4o⟩ := shp_a (W9 x hLx) hkx 14 14 389 rfl (by decide)
  have ea0 : a0.toNatClampNeg = 2 := by have q1 := ix_n ra0 (by decide); have q2 := ra0.1; have q3 := ra0.2; omega
  refine g_lo (is := [0, 1, 2]) (lo2 := [(0, .ref x), (1, .int a0), (2, .int a1)]) rfl ?_
  have l_61 : ∀ (n_61 : Nat) (I_5 : Nat → Nat → Int32) (J_6 : Nat → Nat → Int64) (hU_7 : Iw L κ R ow I_5) (hF_8 : Fq L κ ow [1230, 83400, 84600, 84700, 84800] I I_5) (hG_9 : Fq L κ ow [] J J_6) (r_10 : Rg 0 0 a1) (v_11 : Int32) (v_12 : Int32) (rv_12 : Rg 0 2 v_12) (q_13 : I_5 x 30 = v_11) (hd_14 : Hd_ R x I I_5) (hl_15 : Hl_ R x I I_5 150) (hm_16 : 2 < (v_12 : Int32).toInt + (n_61 : Int)), WG p l e { frames := 8, cells := 0, slots := 0, locals := 192 } s m ([.ref x, .int a0, .int a1] : List Value).toArray below meth c 5 0 0 (MQ below (Qv_ D cy L κ ln R (fun I2 J2 => Iw L κ R ow I2 ∧ Fq L κ ow [1230, 83400, 84600, 84700, 84800] I I2 ∧ Fq L κ ow [] J J2 ∧ (Hd_ R x I I2) ∧ (Hl_ R x I I2 150))) ([.ref x, .int a0, .int a1] : List Value).toArray s 0 0 (Al_ L)) D cy (Al_ L) s.heap L κ ln R I_5 J_6 61 [(0, .ref x), (1, .int a0), (2, .int a1), (3, .int v_11), (4, .int v_12)] [] := by
    intro n_61
    induction n_61 with
    | zero =>
      intro I_5 J_6 hU_7 hF_8 hG_9 r_10 v_11 v_12 rv_12 q_13 hd_14 hl_15 hm_16
      exact ms_0 rv_12 hm_16
    | succ n_61 ih_61 =>
      intro I_5 J_6 hU_7 hF_8 hG_9 r_10 v_11 v_12 rv_12 q_13 hd_14 hl_15 hm_16
      refine g_iload C 4 dX12_orderFrom_61 rfl ?_
      refine g_iload_n C 1 dX12_orderFrom_63 rfl rfl ?_
      refine g_icmp_ge C (tgt := 87) dX12_orderFrom_64 (by decide) (fun h_17 => ?_) (fun h_17 => ?_)
      · skip
        have r_18 := le_r (h_17) ra0 rv_12
        exact g_vret B K rfl ⟨hU_7, hF_8, hG_9, hd_14, hl_15⟩ dX12_orderFrom_87
      · skip
        have r_19 := lt_l (hi := 1) (nle h_17) rv_12 ra0 (by decide)
        refine g_aload_n C 0 dX12_orderFrom_67 rfl rfl ?_
        refine g_getR C K hLx hkx f_12_45 hb_2 dX12_orderFrom_68 ?_
        refine g_iload C 4 dX12_orderFrom_71 rfl ?_
        refine g_aload_n C 0 dX12_orderFrom_73 rfl rfl ?_
        refine g_getR C K hLx hkx f_12_42 hb_3 dX12_orderFrom_74 ?_
        refine g_iload C 4 dX12_orderFrom_77 rfl ?_
        obtain ⟨x_20, hx_20, rx_20⟩ := ex_any (z0 := I_5 b_3 (v_12.toNatClampNeg))
        refine h_iald C K hb_3L hb_3k (v := x_20) (v_12.toNatClampNeg) (rfl) (ix_0 r_19 (by decide)) (ix_lt r_19 (by decide) hb_3n (by decide)) hx_20 dX12_orderFrom_79 ?_
        refine h_iast C K hb_2L hb_2k (v_12.toNatClampNeg) (rfl) (ix_0 r_19 (by decide)) (ix_lt r_19 (by decide) hb_2n (by decide)) dX12_orderFrom_80 (fun I_21 hI_21 => ?_)
        have hU_22 := iw_put W9 hU_7 hI_21 (ro_a hb_2k (by decide) hb_2o hkx rfl) (lo := (-2147483648)) (hi := 2147483647) (rfl) (rx_20) rfl
        have hF_23 := fq_puta hF_8 hI_21 (ro_a hb_2k (by decide) hb_2o hkx rfl) (by decide) (by decide)
        obtain ⟨x_24, hx_24, rx_24, tx_24⟩ := ex_add (y := 1) 1 2 r_19 rc_1 (by decide) (by decide) (by decide) (by decide)
        refine g_iinc C dX12_orderFrom_81 (k := 4) (v := x_24) rfl hx_24 (by decide) (lo2 := [(4, .int x_24), (0, .ref x), (1, .int a0), (2, .int a1), (3, .int v_11)]) rfl ?_
        refine g_goto C (tgt := 61) dX12_orderFrom_84 (by decide) ?_
        refine g_lo (is := [1, 2, 3, 4, 0]) (lo2 := [(0, .ref x), (1, .int a0), (2, .int a1), (3, .int v_11), (4, .int x_24)]) rfl ?_
        exact ih_61 I_21 J_6 hU_22 hF_23 hG_9 (r_10) v_11 x_24 (rg_w rx_24 (by decide) (by decide)) (kp_k (κ := κ) hI_21 (by rw [hkx, hb_2k]; decide) q_13) (hd_u W9 hLx hkx hd_14 hI_21 (Or.inr (Or.inl ⟨(ro_a hb_2k (by decide) hb_2o hkx rfl), by decide⟩))) (hl_u W9 hLx hkx hl_15 hI_21 ⟨(ro_a hb_2k (by decide) hb_2o hkx rfl), by decide⟩) (ms_1 hm_16 (ti_k tx_24 rc_1) (by decide))
  have l_9 : ∀ (n_9 : Nat) (I_25 : Nat → Nat → Int32) (J_26 : Nat → Nat → Int64) (hU_27 : Iw L κ R ow I_25) (hF_28 : Fq L κ ow [1230, 83400, 84600, 84700, 84800] I I_25) (hG_29 : Fq L κ ow [] J J_26) (r_30 : Rg 0 0 a1) (v_31 : Int32) (v_32 : Int32) (rv_32 : Rg 0 7 v_32) (hd_33 : Hd_ R x I I_25) (hl_34 : Hl_ R x I I_25 150) (hm_35 : 7 < (v_32 : Int32).toInt + (n_9 : Int)), WG p l e { frames := 8, cells := 0, slots := 0, locals := 192 } s m ([.ref x, .int a0, .int a1] : List Value).toArray below meth c 5 0 0 (MQ below (Qv_ D cy L κ ln R (fun I2 J2 => Iw L κ R ow I2 ∧ Fq L κ ow [1230, 83400, 84600, 84700, 84800] I I2 ∧ Fq L κ ow [] J J2 ∧ (Hd_ R x I I2) ∧ (Hl_ R x I I2 150))) ([.ref x, .int a0, .int a1] : List Value).toArray s 0 0 (Al_ L)) D cy (Al_ L) s.heap L κ ln R I_25 J_26 9 [(0, .ref x), (1, .int a0), (2, .int a1), (3, .int v_31), (4, .int v_32)] [] := by
    intro n_9
    induction n_9 with
    | zero =>
      intro I_25 J_26 hU_27 hF_28 hG_29 r_30 v_31 v_32 rv_32 hd_33 hl_34 hm_35
      exact ms_0 rv_32 hm_35
    | succ n_9 ih_9 =>
      intro I_25 J_26 hU_27 hF_28 hG_29 r_30 v_31 v_32 rv_32 hd_33 hl_34 hm_35
      have j_38 : ∀ (I_36 : Nat → Nat → Int32) (J_37 : Nat → Nat → Int64) (hU_38 : Iw L κ R ow I_36) (hF_39 : Fq L κ ow [1230, 83400, 84600, 84700, 84800] I I_36) (hG_40 : Fq L κ ow [] J J_37) (r_41 : Rg 0 0 a1) (v_42 : Int32) (v_43 : Int32) (rv_43 : Rg 0 6 v_43) (hm_44 : 7 < (v_43 : Int32).toInt + ((n_9 + 1 : Nat) : Int)) (hd_45 : Hd_ R x I I_36) (hl_46 : Hl_ R x I I_36 150), WG p l e { frames := 8, cells := 0, slots := 0, locals := 192 } s m ([.ref x, .int a0, .int a1] : List Value).toArray below meth c 5 0 0 (MQ below (Qv_ D cy L κ ln R (fun I2 J2 => Iw L κ R ow I2 ∧ Fq L κ ow [1230, 83400, 84600, 84700, 84800] I I2 ∧ Fq L κ ow [] J J2 ∧ (Hd_ R x I I2) ∧ (Hl_ R x I I2 150))) ([.ref x, .int a0, .int a1] : List Value).toArray s 0 0 (Al_ L)) D cy (Al_ L) s.heap L κ ln R I_36 J_37 38 [(0, .ref x), (1, .int a0), (2, .int a1), (3, .int v_42), (4, .int v_43)] [] := by
        intro I_36 J_37 hU_38 hF_39 hG_40 r_41 v_42 v_43 rv_43 hm_44 hd_45 hl_46
        obtain ⟨x_47, hx_47, rx_47, tx_47⟩ := ex_add (y := 1) 1 7 rv_43 rc_1 (by decide) (by decide) (by decide) (by decide)
        refine g_iinc C dX12_orderFrom_38 (k := 4) (v := x_47) rfl hx_47 (by decide) (lo2 := [(4, .int x_47), (0, .ref x), (1, .int a0), (2, .int a1), (3, .int v_42)]) rfl ?_
        refine g_goto C (tgt := 9) dX12_orderFrom_41 (by decide) ?_
        refine g_lo (is := [1, 2, 3, 4, 0]) (lo2 := [(0, .ref x), (1, .int a0), (2, .int a1), (3, .int v_42), (4, .int x_47)]) rfl ?_
        exact ih_9 I_36 J_37 hU_38 hF_39 hG_40 (r_41) v_42 x_47 (rg_w rx_47 (by decide) (by decide)) hd_45 hl_46 (ms_1 hm_44 (ti_k tx_47 rc_1) (by decide))
      refine g_iload C 4 dX12_orderFrom_9 rfl ?_
      refine g_aload_n C 0 dX12_orderFrom_11 rfl rfl ?_
      refine g_getR C K hLx hkx f_12_13 hb_4 dX12_orderFrom_12 ?_
      refine g_iconst C (v := 0) dX12_orderFrom_15 (by decide) ?_
      obtain ⟨x_48, hx_48, rx_48⟩ := ex_getw (I := I_25) (a := b_4) (j := 0) (lo := 0) (hi := 7) hU_27.1 hb_4L (ro_a hb_4k (by decide) hb_4o hkx rfl) (by decide)
      refine h_iald C K hb_4L hb_4k (v := x_48) (0) (by decide) (by decide) (by rw [hb_4n]; decide) hx_48 dX12_orderFrom_16 ?_
      refine g_icmp_ge C (tgt := 44) dX12_orderFrom_17 (by decide) (fun h_49 => ?_) (fun h_49 => ?_)
      · skip
        refine g_iload_n C 3 dX12_orderFrom_44 rfl rfl ?_
        refine g_aload_n C 0 dX12_orderFrom_45 rfl rfl ?_
        obtain ⟨x_50, hx_50, rx_50⟩ := ex_getw (I := I_25) (a := x) (j := 30) (lo := (-2147483648)) (hi := 2147483647) hU_27.1 hLx (ro_o hkx (by decide)) rfl
        refine g_getI C K hLx hkx f_12_298 (v := x_50) hx_50 dX12_orderFrom_46 ?_
        refine g_icmp_lt C (tgt := 53) dX12_orderFrom_49 (by decide) (fun h_51 => ?_) (fun h_51 => ?_)
        · skip
          have r_52 := lt_l (hi := 2147483646) (h_51) (rg_all v_31) rx_50 (by decide)
          have r_53 := lt_r (lo := (-2147483647)) (h_51) (rg_all v_31) rx_50 (by decide)
          refine g_aload_n C 0 dX12_orderFrom_53 rfl rfl ?_
          refine g_iload_n C 3 dX12_orderFrom_54 rfl rfl ?_
          refine h_putI C K hLx hkx f_12_298 p_12_30 dX12_orderFrom_55 (fun I_54 hI_54 => ?_)
          have hU_55 := iw_put W9 hU_27 hI_54 (ro_o hkx (by decide)) (lo := (-2147483648)) (hi := 2147483647) (rfl) (rg_all _) rfl
          have hF_56 := fq_puto hF_28 hI_54 hkx (by decide) (by decide)
          refine g_iconst C (v := 0) dX12_orderFrom_58 (by decide) ?_
          refine g_istore C dX12_orderFrom_59 (by decide) (lo2 := [(4, .int 0), (0, .ref x), (1, .int a0), (2, .int a1), (3, .int v_31)]) rfl ?_
          refine g_lo (is := [1, 2, 3, 4, 0]) (lo2 := [(0, .ref x), (1, .int a0), (2, .int a1), (3, .int v_31), (4, .int 0)]) rfl ?_
          exact l_61 3 I_54 J_26 hU_55 hF_56 hG_29 (r_30) v_31 0 (rg_w rc_0 (by decide) (by decide)) (kp_s hI_54) (hd_u (r := 0) W9 hLx hkx hd_33 hI_54 (Or.inl (ro_o hkx (by decide)))) (hl_u W9 hLx hkx hl_34 hI_54 ⟨(ro_o hkx (by decide)), by decide⟩) (ms_s (a := 0) (b := 2) (N := 3) (rg_w rc_0 (by decide) (by decide)) (by decide))
        · skip
          exact g_vret B K rfl ⟨hU_27, hF_28, hG_29, hd_33, hl_34⟩ dX12_orderFrom_52
      · skip
        have r_57 := lt_l (hi := 6) (nle h_49) rv_32 rx_48 (by decide)
        have r_58 := lt_r (lo := 1) (nle h_49) rv_32 rx_48 (by decide)
        refine g_aload_n C 0 dX12_orderFrom_20 rfl rfl ?_
        refine g_iload C 4 dX12_orderFrom_21 rfl ?_
        refine g_callVI C K (c_X12_isDead W9 hLx hkx v_32 (r_57) hU_27) hLx hkx (by decide) rfl v_12_244 rfl ⟨rfl, rfl⟩ ⟨Nat.le_of_ble_eq_true rfl, Nat.le_of_ble_eq_true rfl⟩ (Nat.le_of_ble_eq_true rfl) ⟨Nat.le_of_ble_eq_true rfl, Nat.le_of_ble_eq_true rfl⟩ dX12_orderFrom_23 rfl (st := []) (fun x_59 I_60 J_61 h_62 => ?_)
        obtain ⟨rfl, rfl, rx_59⟩ := h_62
        refine g_if_ne C (tgt := 38) dX12_orderFrom_26 (by decide) (fun h_63 => ?_) (fun h_63 => ?_)
        · skip
          have n_64 : ¬ x_59 = 0 := h_63
          have r_65 := ne_lo (lo := 1) n_64 rx_59 rc_0 rfl (by decide)
          refine g_lo (is := [0, 1, 2, 3, 4]) (lo2 := [(0, .ref x), (1, .int a0), (2, .int a1), (3, .int v_31), (4, .int v_32)]) rfl ?_
          exact j_38 I_25 J_26 hU_27 hF_28 hG_29 (r_30) v_31 v_32 (r_57) hm_35 hd_33 hl_34
        · skip
          have r_66 := (⟨(rx_59).1, (eq_rg (h_63) rc_0).2⟩ : Rg 0 0 x_59)
          refine g_iload_n C 3 dX12_orderFrom_29 rfl rfl ?_
          refine g_aload_n C 0 dX12_orderFrom_30 rfl rfl ?_
          refine g_iload C 4 dX12_orderFrom_31 rfl ?_
          refine g_callVI C K (c_X12_wantsYet W9 hLx hkx v_32 (r_57) hU_27) hLx hkx (by decide) rfl v_12_268 rfl ⟨rfl, rfl⟩ ⟨Nat.le_of_ble_eq_true rfl, Nat.le_of_ble_eq_true rfl⟩ (Nat.le_of_ble_eq_true rfl) ⟨Nat.le_of_ble_eq_true rfl, Nat.le_of_ble_eq_true rfl⟩ dX12_orderFrom_33 rfl (st := [.int v_31]) (fun x_67 I_68 J_69 h_70 => ?_)
          obtain ⟨rfl, rfl, rx_67, ex_67⟩ := h_70
          obtain ⟨x_71, hx_71, rx_71⟩ := ex_any (z0 := v_31 + x_67)
          refine g_iadd C (v := x_71) dX12_orderFrom_36 hx_71 ?_
          refine g_istore_n C dX12_orderFrom_37 rfl (by decide) (lo2 := [(3, .int x_71), (0, .ref x), (1, .int a0), (2, .int a1), (4, .int v_32)]) rfl ?_
          refine g_lo (is := [1, 2, 3, 0, 4]) (lo2 := [(0, .ref x), (1, .int a0), (2, .int a1), (3, .int x_71), (4, .int v_32)]) rfl ?_
          exact j_38 I_25 J_26 hU_27 hF_28 hG_29 (r_30) x_71 v_32 (r_57) hm_35 hd_33 hl_34
  have l_124 : ∀ (n_124 : Nat) (I_72 : Nat → Nat → Int32) (J_73 : Nat → Nat → Int64) (hU_74 : Iw L κ R ow I_72) (hF_75 : Fq L κ ow [1230, 83400, 84600, 84700, 84800] I I_72) (hG_76 : Fq L κ ow [] J J_73) (r_77 : Rg 1 127 a1) (n_78 : ¬ a1 = 0) (v_79 : Int32) (rv_79 : Rg 0 7 v_79) (hd_80 : Hd_ R x I I_72) (hl_81 : Hl_ R x I I_72 150) (gh_82 : Gh_ R x I_72 150) (hm_83 : 7 < (v_79 : Int32).toInt + (n_124 : Int)), WG p l e { frames := 8, cells := 0, slots := 0, locals := 192 } s m ([.ref x, .int a0, .int a1] : List Value).toArray below meth c 5 0 0 (MQ below (Qv_ D cy L κ ln R (fun I2 J2 => Iw L κ R ow I2 ∧ Fq L κ ow [1230, 83400, 84600, 84700, 84800] I I2 ∧ Fq L κ ow [] J J2 ∧ (Hd_ R x I I2) ∧ (Hl_ R x I I2 150))) ([.ref x, .int a0, .int a1] : List Value).toArray s 0 0 (Al_ L)) D cy (Al_ L) s.heap L κ ln R I_72 J_73 124 [(0, .ref x), (1, .int a0), (2, .int a1), (3, .int v_79)] [] := by
    intro n_124
    induction n_124 with
    | zero =>
      intro I_72 J_73 hU_74 hF_75 hG_76 r_77 n_78 v_79 rv_79 hd_80 hl_81 gh_82 hm_83
      exact ms_0 rv_79 hm_83
    | succ n_124 ih_124 =>
      intro I_72 J_73 hU_74 hF_75 hG_76 r_77 n_78 v_79 rv_79 hd_80 hl_81 gh_82 hm_83
      have j_222 : ∀ (I_84 : Nat → Nat → Int32) (J_85 : Nat → Nat → Int64) (hU_86 : Iw L κ R ow I_84) (hF_87 : Fq L κ ow [1230, 83400, 84600, 84700, 84800] I I_84) (hG_88 : Fq L κ ow [] J J_85) (r_89 : Rg 1 127 a1) (n_90 : ¬ a1 = 0) (v_91 : Int32) (rv_91 : Rg 0 6 v_91) (hm_92 : 7 < (v_91 : Int32).toInt + ((n_124 + 1 : Nat) : Int)) (hd_93 : Hd_ R x I I_84) (hl_94 : Hl_ R x I I_84 150) (gh_95 : Gh_ R x I_84 150), WG p l e { frames := 8, cells := 0, slots := 0, locals := 192 } s m ([.ref x, .int a0, .int a1] : List Value).toArray below meth c 5 0 0 (MQ below (Qv_ D cy L κ ln R (fun I2 J2 => Iw L κ R ow I2 ∧ Fq L κ ow [1230, 83400, 84600, 84700, 84800] I I2 ∧ Fq L κ ow [] J J2 ∧ (Hd_ R x I I2) ∧ (Hl_ R x I I2 150))) ([.ref x, .int a0, .int a1] : List Value).toArray s 0 0 (Al_ L)) D cy (Al_ L) s.heap L κ ln R I_84 J_85 222 [(0, .ref x), (1, .int a0), (2, .int a1), (3, .int v_91)] [] := by
        intro I_84 J_85 hU_86 hF_87 hG_88 r_89 n_90 v_91 rv_91 hm_92 hd_93 hl_94 gh_95
        obtain ⟨x_96, hx_96, rx_96, tx_96⟩ := ex_add (y := 1) 1 7 rv_91 rc_1 (by decide) (by decide) (by decide) (by decide)
        refine g_iinc C dX12_orderFrom_222 (k := 3) (v := x_96) rfl hx_96 (by decide) (lo2 := [(3, .int x_96), (0, .ref x), (1, .int a0), (2, .int a1)]) rfl ?_
        refine g_goto C (tgt := 124) dX12_orderFrom_225 (by decide) ?_
        refine g_lo (is := [1, 2, 3, 0]) (lo2 := [(0, .ref x), (1, .int a0), (2, .int a1), (3, .int x_96)]) rfl ?_
        exact ih_124 I_84 J_85 hU_86 hF_87 hG_88 (r_89) (n_90) x_96 (rg_w rx_96 (by decide) (by decide)) hd_93 hl_94 gh_95 (ms_1 hm_92 (ti_k tx_96 rc_1) (by decide))
      have j_170 : ∀ (I_97 : Nat → Nat → Int32) (J_98 : Nat → Nat → Int64) (hU_99 : Iw L κ R ow I_97) (hF_100 : Fq L κ ow [1230, 83400, 84600, 84700, 84800] I I_97) (hG_101 : Fq L κ ow [] J J_98) (r_102 : Rg 1 127 a1) (n_103 : ¬ a1 = 0) (v_104 : Int32) (rv_104 : Rg 0 6 v_104) (hm_105 : 7 < (v_104 : Int32).toInt + ((n_124 + 1 : Nat) : Int)) (hd_106 : Hd_ R x I I_97) (hl_107 : Hl_ R x I I_97 150) (gh_108 : Gh_ R x I_97 150) (hb_109 : a1 >>> (v_104 &&& 31) &&& 1 = 1), WG p l e { frames := 8, cells := 0, slots := 0, locals := 192 } s m ([.ref x, .int a0, .int a1] : List Value).toArray below meth c 5 0 0 (MQ below (Qv_ D cy L κ ln R (fun I2 J2 => Iw L κ R ow I2 ∧ Fq L κ ow [1230, 83400, 84600, 84700, 84800] I I2 ∧ Fq L κ ow [] J J2 ∧ (Hd_ R x I I2) ∧ (Hl_ R x I I2 150))) ([.ref x, .int a0, .int a1] : List Value).toArray s 0 0 (Al_ L)) D cy (Al_ L) s.heap L κ ln R I_97 J_98 170 [(0, .ref x), (1, .int a0), (2, .int a1), (3, .int v_104)] [] := by
        intro I_97 J_98 hU_99 hF_100 hG_101 r_102 n_103 v_104 rv_104 hm_105 hd_106 hl_107 gh_108 hb_109
        refine g_aload_n C 0 dX12_orderFrom_170 rfl rfl ?_
        refine g_iload_n C 1 dX12_orderFrom_171 rfl rfl ?_
        refine g_iconst C (v := 1) dX12_orderFrom_172 (by decide) ?_
        obtain ⟨x_110, hx_110, rx_110, tx_110⟩ := ex_add 3 3 ra0 rc_1 (by decide) (by decide) (by decide) (by decide)
        refine g_iadd C (v := x_110) dX12_orderFrom_173 hx_110 ?_
        refine g_iload_n C 2 dX12_orderFrom_174 rfl rfl ?_
        refine g_iconst C (v := 1) dX12_orderFrom_175 (by decide) ?_
        refine g_iload_n C 3 dX12_orderFrom_176 rfl rfl ?_
        obtain ⟨x_111, hx_111, rx_111⟩ := ex_shl (x := 1) (y := v_104) 6 64 rfl (rv_104) (by decide)
        refine g_ishl C (v := x_111) dX12_orderFrom_177 hx_111 ?_
        refine g_iconst C (v := (-1)) dX12_orderFrom_178 (by decide) ?_
        obtain ⟨x_112, hx_112, rx_112⟩ := ex_any (z0 := x_111 ^^^ (-1))
        refine g_ixor C (v := x_112) dX12_orderFrom_179 hx_112 ?_
        obtain ⟨x_113, hx_113, rx_113⟩ := ex_andl (x := a1) (y := x_112) (b := 127) (rg_w r_102 (by decide) (by decide))
        refine g_iand C (v := x_113) dX12_orderFrom_180 hx_113 ?_
        refine g_callVV C K (c_X12_orderFrom_3 W9 hLx hkx x_110 x_113 (rx_110) (rx_113) hU_99  (by have q1 := bc_rm (z := x_113) (rg_w r_102 (by decide) (by decide)) (rv_104) hb_109 (by rw [hx_111, hx_112]; exact hx_113); have q2 := hbc; omega)) hLx hkx (by decide) rfl v_12_304 rfl ⟨rfl, rfl⟩ ⟨Nat.le_of_ble_eq_true rfl, Nat.le_of_ble_eq_true rfl⟩ (Nat.le_of_ble_eq_true rfl) ⟨Nat.le_of_ble_eq_true rfl, Nat.le_of_ble_eq_true rfl⟩ dX12_orderFrom_181 rfl (st := []) (fun I_115 J_116 h_117 => ?_)
        obtain ⟨hUI_115, hFI_115, hGJ_116, ex_114⟩ := h_117
        have hF_118 := fq_tr hF_100 hFI_115 (by decide)
        have hG_119 := fq_tr hG_101 hGJ_116 (by decide)
        refine g_iconst C (v := 0) dX12_orderFrom_184 (by decide) ?_
        refine g_istore C dX12_orderFrom_185 (by decide) (lo2 := [(4, .int 0), (0, .ref x), (1, .int a0), (2, .int a1), (3, .int v_104)]) rfl ?_
        refine g_lo (is := [1, 2, 3, 4, 0]) (lo2 := [(0, .ref x), (1, .int a0), (2, .int a1), (3, .int v_104), (4, .int 0)]) rfl ?_
        have ex_187 : ∀ (I_121 : Nat → Nat → Int32) (hI_121 : I_121 = cpn_ I_115 b_1 b_4 (150) (72) 75) (v_120 : Int32) (rv_120 : Rg 75 75 v_120), WG p l e { frames := 8, cells := 0, slots := 0, locals := 192 } s m ([.ref x, .int a0, .int a1] : List Value).toArray below meth c 5 0 0 (MQ below (Qv_ D cy L κ ln R (fun I2 J2 => Iw L κ R ow I2 ∧ Fq L κ ow [1230, 83400, 84600, 84700, 84800] I I2 ∧ Fq L κ ow [] J J2 ∧ (Hd_ R x I I2) ∧ (Hl_ R x I I2 150))) ([.ref x, .int a0, .int a1] : List Value).toArray s 0 0 (Al_ L)) D cy (Al_ L) s.heap L κ ln R I_121 J_116 222 [(0, .ref x), (1, .int a0), (2, .int a1), (3, .int v_104), (4, .int v_120)] [] := by
          intro I_121 hI_121 v_120 rv_120
          have hF_122 := fq_cpn hF_118 hI_121 (ro_a hb_4k (by decide) hb_4o hkx rfl) (by decide) (by decide)
          have hU_123 := uw_cpn hUI_115.1 hb_1L hI_121 (ro_a hb_4k (by decide) hb_4o hkx rfl) (ro_a hb_1k (by decide) hb_1o hkx rfl) (fun i hi => by rw [bn_834, bn_848, show (150 + i) % 75 = i by omega]; exact ⟨Int.le_refl _, Int.le_refl _⟩)
          have hU_124 := iw_set W9 hUI_115.2 hU_123 hLx hkx hb_4 hI_121 ((gh_of gh_108 ex_114.1 ex_114.2 (by decide)) _ _ hb_4 hb_1)
          refine g_lo (is := [0, 1, 2, 3]) (lo2 := [(0, .ref x), (1, .int a0), (2, .int a1), (3, .int v_104)]) rfl ?_
          exact j_222 I_121 J_116 hU_124 hF_122 hG_119 (r_102) (n_103) v_104 (rv_104) hm_105 (hd_c (r := 0) W9 hLx hkx (hd_t hd_106 ex_114.1) hI_121 (Or.inr (by omega))) (hl_c W9 hLx hkx (hl_t hl_107 ex_114.2 (by decide)) hI_121 (Or.inl ⟨(ro_a hb_4k (by decide) hb_4o hkx rfl), by decide⟩)) (gh_c W9 hLx hkx hb_4 (gh_of gh_108 ex_114.1 ex_114.2 (by decide)) hI_121)
        have l_187 : ∀ (m_187 : Nat) (v_125 : Int32) (I_126 : Nat → Nat → Int32), v_125.toInt + (m_187 : Int) = 75 → 0 ≤ v_125.toInt → I_126 = cpn_ I_115 b_1 b_4 (150) (72) v_125.toNatClampNeg → WG p l e { frames := 8, cells := 0, slots := 0, locals := 192 } s m ([.ref x, .int a0, .int a1] : List Value).toArray below meth c 5 0 0 (MQ below (Qv_ D cy L κ ln R (fun I2 J2 => Iw L κ R ow I2 ∧ Fq L κ ow [1230, 83400, 84600, 84700, 84800] I I2 ∧ Fq L κ ow [] J J2 ∧ (Hd_ R x I I2) ∧ (Hl_ R x I I2 150))) ([.ref x, .int a0, .int a1] : List Value).toArray s 0 0 (Al_ L)) D cy (Al_ L) s.heap L κ ln R I_126 J_116 187 [(0, .ref x), (1, .int a0), (2, .int a1), (3, .int v_104), (4, .int v_125)] [] := by
          intro m_187
          induction m_187 with
          | zero =>
            intro v_125 I_126 hk_187 h0_187 hI_126
            have rv_125 : Rg 75 75 v_125 := by unfold Rg; omega
            refine g_iload C 4 dX12_orderFrom_187 rfl ?_
            refine g_bipush C (v := 75) dX12_orderFrom_189 (by decide) ?_
            refine g_icmp_ge C (tgt := 222) dX12_orderFrom_191 (by decide) (fun h_127 => ?_) (fun h_127 => ?_)
            · skip
              refine g_lo (is := [0, 1, 2, 3, 4]) (lo2 := [(0, .ref x), (1, .int a0), (2, .int a1), (3, .int v_104), (4, .int v_125)]) rfl ?_
              exact ex_187 I_126 (hI_126.trans (congrArg (fun q => cpn_ I_115 b_1 b_4 (150) (72) q) (show v_125.toNatClampNeg = 75 from by have := ix_n rv_125 (by decide); have := rv_125.1; have := rv_125.2; omega))) v_125 rv_125
            · skip
              have r_128 := lt_l (hi := 74) (nle h_127) rv_125 rc_75 (by decide)
              exact rg_no r_128 (by decide)
          | succ m_187 ih_187 =>
            intro v_125 I_126 hk_187 h0_187 hI_126
            have rv_125 : Rg 0 74 v_125 := by unfold Rg; omega
            refine g_iload C 4 dX12_orderFrom_187 rfl ?_
            refine g_bipush C (v := 75) dX12_orderFrom_189 (by decide) ?_
            refine g_icmp_ge C (tgt := 222) dX12_orderFrom_191 (by decide) (fun h_129 => ?_) (fun h_129 => ?_)
            · skip
              have r_130 := le_r (h_129) rc_75 rv_125
              exact rg_no r_130 (by decide)
            · skip
              refine g_aload_n C 0 dX12_orderFrom_194 rfl rfl ?_
              refine g_getR C K hLx hkx f_12_13 hb_4 dX12_orderFrom_195 ?_
              refine g_bipush C (v := 72) dX12_orderFrom_198 (by decide) ?_
              refine g_iload C 4 dX12_orderFrom_200 rfl ?_
              obtain ⟨x_131, hx_131, rx_131, tx_131⟩ := ex_add 72 146 rc_72 rv_125 (by decide) (by decide) (by decide) (by decide)
              refine g_iadd C (v := x_131) dX12_orderFrom_202 hx_131 ?_
              refine g_aload_n C 0 dX12_orderFrom_203 rfl rfl ?_
              refine g_getR C K hLx hkx f_12_48 hb_1 dX12_orderFrom_204 ?_
              refine g_bipush C (v := 75) dX12_orderFrom_207 (by decide) ?_
              refine g_iload_n C 1 dX12_orderFrom_209 rfl rfl ?_
              obtain ⟨x_132, hx_132, rx_132, tx_132⟩ := ex_mulT 150 150 rc_75 ra0 (by decide) (by decide) (by decide) (by decide) (by decide)
              refine g_imul C (v := x_132) dX12_orderFrom_210 hx_132 ?_
              refine g_iload C 4 dX12_orderFrom_211 rfl ?_
              obtain ⟨x_133, hx_133, rx_133, tx_133⟩ := ex_add 150 224 rx_132 rv_125 (by decide) (by decide) (by decide) (by decide)
              refine g_iadd C (v := x_133) dX12_orderFrom_213 hx_133 ?_
              obtain ⟨x_134, hx_134, rx_134⟩ := ex_any (z0 := I_126 b_1 (x_133.toNatClampNeg))
              refine h_iald C K hb_1L hb_1k (v := x_134) (x_133.toNatClampNeg) (rfl) (ix_0 rx_133 (by decide)) (ix_lt rx_133 (by decide) hb_1n (by decide)) hx_134 dX12_orderFrom_214 ?_
              refine h_iast C K hb_4L hb_4k (x_131.toNatClampNeg) (rfl) (ix_0 rx_131 (by decide)) (ix_lt rx_131 (by decide) hb_4n (by decide)) dX12_orderFrom_215 (fun I_135 hI_135 => ?_)
              obtain ⟨x_136, hx_136, rx_136, tx_136⟩ := ex_add (y := 1) 1 75 rv_125 rc_1 (by decide) (by decide) (by decide) (by decide)
              refine g_iinc C dX12_orderFrom_216 (k := 4) (v := x_136) rfl hx_136 (by decide) (lo2 := [(4, .int x_136), (0, .ref x), (1, .int a0), (2, .int a1), (3, .int v_104)]) rfl ?_
              refine g_goto C (tgt := 187) dX12_orderFrom_219 (by decide) ?_
              refine g_lo (is := [1, 2, 3, 4, 0]) (lo2 := [(0, .ref x), (1, .int a0), (2, .int a1), (3, .int v_104), (4, .int x_136)]) rfl ?_
              have kk_187 : x_136.toNatClampNeg = v_125.toNatClampNeg + 1 := by have q1 := ix_n rv_125 (by decide); have q2 := (ti_k tx_136 rc_1); have q3 : x_136.toNatClampNeg = x_136.toInt.toNat := rfl; omega
              exact ih_187 x_136 I_135 (by have := (ti_k tx_136 rc_1); omega) (by have := (ti_k tx_136 rc_1); omega) (by rw [kk_187]; exact cpn_s hI_126 hx_134 hI_135 (show x_133.toNatClampNeg = (150) + v_125.toNatClampNeg from by rw [nx_a tx_133 rx_132 rv_125 (by decide), nx_m (k := 75) tx_132 ra0 (by decide)] <;> omega) (show x_131.toNatClampNeg = (72) + v_125.toNatClampNeg from by rw [nx_a tx_131 rc_72 rv_125 (by decide)]; simp only [show (72 : Int32).toNatClampNeg = 72 from rfl] <;> omega) (Or.inl (ne_ro (ro_a hb_1k (by decide) hb_1o hkx rfl) (ro_a hb_4k (by decide) hb_4o hkx rfl) (by decide))))
        exact l_187 75 0 I_115 (by decide) (by decide) cpn_0
      refine g_iload_n C 3 dX12_orderFrom_124 rfl rfl ?_
      refine g_aload_n C 0 dX12_orderFrom_125 rfl rfl ?_
      refine g_getR C K hLx hkx f_12_13 hb_4 dX12_orderFrom_126 ?_
      refine g_iconst C (v := 0) dX12_orderFrom_129 (by decide) ?_
      obtain ⟨x_137, hx_137, rx_137⟩ := ex_getw (I := I_72) (a := b_4) (j := 0) (lo := 0) (hi := 7) hU_74.1 hb_4L (ro_a hb_4k (by decide) hb_4o hkx rfl) (by decide)
      refine h_iald C K hb_4L hb_4k (v := x_137) (0) (by decide) (by decide) (by rw [hb_4n]; decide) hx_137 dX12_orderFrom_130 ?_
      refine g_icmp_ge C (tgt := 228) dX12_orderFrom_131 (by decide) (fun h_138 => ?_) (fun h_138 => ?_)
      · skip
        exact g_vret B K rfl ⟨hU_74, hF_75, hG_76, hd_80, hl_81⟩ dX12_orderFrom_228
      · skip
        have r_139 := lt_l (hi := 6) (nle h_138) rv_79 rx_137 (by decide)
        have r_140 := lt_r (lo := 1) (nle h_138) rv_79 rx_137 (by decide)
        refine g_iload_n C 2 dX12_orderFrom_134 rfl rfl ?_
        refine g_iload_n C 3 dX12_orderFrom_135 rfl rfl ?_
        refine g_callSI C K (c_X12_has W9 a1 v_79  hU_74) s_12_231 rfl ⟨rfl, rfl⟩ ⟨Nat.le_of_ble_eq_true rfl, Nat.le_of_ble_eq_true rfl⟩ (Nat.le_of_ble_eq_true rfl) ⟨Nat.le_of_ble_eq_true rfl, Nat.le_of_ble_eq_true rfl⟩ dX12_orderFrom_136 rfl (st := []) (fun x_141 I_142 J_143 h_144 => ?_)
        obtain ⟨rfl, rfl, rx_141, ex_141⟩ := h_144
        refine g_if_ne C (tgt := 145) dX12_orderFrom_139 (by decide) (fun h_145 => ?_) (fun h_145 => ?_)
        · skip
          have n_146 : ¬ x_141 = 0 := h_145
          have r_147 := ne_lo (lo := 1) n_146 rx_141 rc_0 rfl (by decide)
          refine g_aload_n C 0 dX12_orderFrom_145 rfl rfl ?_
          refine g_getR C K hLx hkx f_12_42 hb_3 dX12_orderFrom_146 ?_
          refine g_iload_n C 1 dX12_orderFrom_149 rfl rfl ?_
          refine g_iload_n C 3 dX12_orderFrom_150 rfl rfl ?_
          refine h_iast C K hb_3L hb_3k (a0.toNatClampNeg) (rfl) (ix_0 ra0 (by decide)) (ix_lt ra0 (by decide) hb_3n (by decide)) dX12_orderFrom_151 (fun I_148 hI_148 => ?_)
          have hU_149 := iw_put W9 hU_74 hI_148 (ro_a hb_3k (by decide) hb_3o hkx rfl) (lo := (-2147483648)) (hi := 2147483647) (rfl) (rg_all _) rfl
          have hF_150 := fq_puta hF_75 hI_148 (ro_a hb_3k (by decide) hb_3o hkx rfl) (by decide) (by decide)
          refine g_aload_n C 0 dX12_orderFrom_152 rfl rfl ?_
          refine g_iload_n C 3 dX12_orderFrom_153 rfl rfl ?_
          refine g_callVV C K (c_X12_eatsAll W9 hLx hkx v_79 (r_139) hU_149) hLx hkx (by decide) rfl v_12_301 rfl ⟨rfl, rfl⟩ ⟨Nat.le_of_ble_eq_true rfl, Nat.le_of_ble_eq_true rfl⟩ (Nat.le_of_ble_eq_true rfl) ⟨Nat.le_of_ble_eq_true rfl, Nat.le_of_ble_eq_true rfl⟩ dX12_orderFrom_154 rfl (st := []) (fun I_152 J_153 h_154 => ?_)
          obtain ⟨hUI_152, hFI_152, hGJ_153, ex_151⟩ := h_154
          have hF_155 := fq_tr hF_150 hFI_152 (by decide)
          have hG_156 := fq_tr hG_76 hGJ_153 (by decide)
          refine g_aload_n C 0 dX12_orderFrom_157 rfl rfl ?_
          refine g_iload_n C 3 dX12_orderFrom_158 rfl rfl ?_
          refine g_callVI C K (c_X12_plateOf W9 hLx hkx v_79 (r_139) hUI_152) hLx hkx (by decide) rfl v_12_247 rfl ⟨rfl, rfl⟩ ⟨Nat.le_of_ble_eq_true rfl, Nat.le_of_ble_eq_true rfl⟩ (Nat.le_of_ble_eq_true rfl) ⟨Nat.le_of_ble_eq_true rfl, Nat.le_of_ble_eq_true rfl⟩ dX12_orderFrom_159 rfl (st := []) (fun x_157 I_158 J_159 h_160 => ?_)
          obtain ⟨rfl, rfl, rx_157⟩ := h_160
          refine g_if_le C (tgt := 170) dX12_orderFrom_162 (by decide) (fun h_161 => ?_) (fun h_161 => ?_)
          · skip
            have r_162 := le_l (h_161) rx_157 rc_0
            refine g_lo (is := [0, 1, 2, 3]) (lo2 := [(0, .ref x), (1, .int a0), (2, .int a1), (3, .int v_79)]) rfl ?_
            exact j_170 I_152 J_153 hUI_152 hF_155 hG_156 (r_77) (n_78) v_79 (r_139) hm_83 (hd_t (hd_u W9 hLx hkx hd_80 hI_148 (Or.inr (Or.inl ⟨(ro_a hb_3k (by decide) hb_3o hkx rfl), by decide⟩))) ex_151) (hl_fq W9 hLx hkx (hl_u W9 hLx hkx hl_81 hI_148 ⟨(ro_a hb_3k (by decide) hb_3o hkx rfl), by decide⟩) hFI_152 (by decide)) (gh_mv W9 hLx hkx (gh_u W9 hLx hkx gh_82 hI_148 ⟨(ro_a hb_3k (by decide) hb_3o hkx rfl), by decide, by decide⟩) ex_151 hFI_152 (by decide)) (ex_141 n_146)
          · skip
            have r_163 := lt_r (lo := 1) (nle h_161) rc_0 rx_157 (by decide)
            refine g_aload_n C 0 dX12_orderFrom_165 rfl rfl ?_
            refine g_iload_n C 3 dX12_orderFrom_166 rfl rfl ?_
            refine g_callVV C K (c_X12_pass W9 hLx hkx v_79 (r_139) hUI_152) hLx hkx (by decide) rfl v_12_275 rfl ⟨rfl, rfl⟩ ⟨Nat.le_of_ble_eq_true rfl, Nat.le_of_ble_eq_true rfl⟩ (Nat.le_of_ble_eq_true rfl) ⟨Nat.le_of_ble_eq_true rfl, Nat.le_of_ble_eq_true rfl⟩ dX12_orderFrom_167 rfl (st := []) (fun I_165 J_166 h_167 => ?_)
            obtain ⟨hUI_165, hFI_165, hGJ_166, ex_164⟩ := h_167
            have hF_168 := fq_tr hF_155 hFI_165 (by decide)
            have hG_169 := fq_tr hG_156 hGJ_166 (by decide)
            refine g_lo (is := [0, 1, 2, 3]) (lo2 := [(0, .ref x), (1, .int a0), (2, .int a1), (3, .int v_79)]) rfl ?_
            exact j_170 I_165 J_166 hUI_165 hF_168 hG_169 (r_77) (n_78) v_79 (r_139) hm_83 (hd_t (hd_t (hd_u W9 hLx hkx hd_80 hI_148 (Or.inr (Or.inl ⟨(ro_a hb_3k (by decide) hb_3o hkx rfl), by decide⟩))) ex_151) ex_164) (hl_fq W9 hLx hkx (hl_fq W9 hLx hkx (hl_u W9 hLx hkx hl_81 hI_148 ⟨(ro_a hb_3k (by decide) hb_3o hkx rfl), by decide⟩) hFI_152 (by decide)) hFI_165 (by decide)) (gh_mv W9 hLx hkx (gh_mv W9 hLx hkx (gh_u W9 hLx hkx gh_82 hI_148 ⟨(ro_a hb_3k (by decide) hb_3o hkx rfl), by decide, by decide⟩) ex_151 hFI_152 (by decide)) ex_164 hFI_165 (by decide)) (ex_141 n_146)
        · skip
          have r_170 := (⟨(rx_141).1, (eq_rg (h_145) rc_0).2⟩ : Rg 0 0 x_141)
          refine g_goto C (tgt := 222) dX12_orderFrom_142 (by decide) ?_
          refine g_lo (is := [0, 1, 2, 3]) (lo2 := [(0, .ref x), (1, .int a0), (2, .int a1), (3, .int v_79)]) rfl ?_
          exact j_222 I_72 J_73 hU_74 hF_75 hG_76 (r_77) (n_78) v_79 (r_139) hm_83 hd_80 hl_81 gh_82
  refine g_iload_n C 2 dX12_orderFrom_0 rfl rfl ?_
  refine g_if_ne C (tgt := 88) dX12_orderFrom_1 (by decide) (fun h_171 => ?_) (fun h_171 => ?_)
  · skip
    have n_172 : ¬ a1 = 0 := h_171
    have r_173 := ne_lo (lo := 1) n_172 ra1 rc_0 rfl (by decide)
    refine g_iconst C (v := 0) dX12_orderFrom_88 (by decide) ?_
    refine g_istore_n C dX12_orderFrom_89 rfl (by decide) (lo2 := [(3, .int 0), (0, .ref x), (1, .int a0), (2, .int a1)]) rfl ?_
    refine g_lo (is := [1, 2, 3, 0]) (lo2 := [(0, .ref x), (1, .int a0), (2, .int a1), (3, .int 0)]) rfl ?_
    have ex_90 : ∀ (I_175 : Nat → Nat → Int32) (hI_175 : I_175 = cpn_ I b_4 b_1 (72) (150) 75) (v_174 : Int32) (rv_174 : Rg 75 75 v_174), WG p l e { frames := 8, cells := 0, slots := 0, locals := 192 } s m ([.ref x, .int a0, .int a1] : List Value).toArray below meth c 5 0 0 (MQ below (Qv_ D cy L κ ln R (fun I2 J2 => Iw L κ R ow I2 ∧ Fq L κ ow [1230, 83400, 84600, 84700, 84800] I I2 ∧ Fq L κ ow [] J J2 ∧ (Hd_ R x I I2) ∧ (Hl_ R x I I2 150))) ([.ref x, .int a0, .int a1] : List Value).toArray s 0 0 (Al_ L)) D cy (Al_ L) s.heap L κ ln R I_175 J 122 [(0, .ref x), (1, .int a0), (2, .int a1), (3, .int v_174)] [] := by
      intro I_175 hI_175 v_174 rv_174
      have hF_176 := fq_cpn hF hI_175 (ro_a hb_1k (by decide) hb_1o hkx rfl) (by decide) (by decide)
      have hU_177 := uw_cpn hU.1 hb_4L hI_175 (ro_a hb_1k (by decide) hb_1o hkx rfl) (ro_a hb_4k (by decide) hb_4o hkx rfl) (fun i hi => by rw [bn_848, bn_834, show (150 + i) % 75 = i by omega]; exact ⟨Int.le_refl _, Int.le_refl _⟩)
      have hU_178 := iw_cpo W9 hU.2 hU_177 hI_175 (ro_a hb_1k (by decide) hb_1o hkx rfl) (fun _ => rfl)
      refine g_iconst C (v := 0) dX12_orderFrom_122 (by decide) ?_
      refine g_istore_n C dX12_orderFrom_123 rfl (by decide) (lo2 := [(3, .int 0), (0, .ref x), (1, .int a0), (2, .int a1)]) rfl ?_
      refine g_lo (is := [1, 2, 3, 0]) (lo2 := [(0, .ref x), (1, .int a0), (2, .int a1), (3, .int 0)]) rfl ?_
      exact l_124 8 I_175 J hU_178 hF_176 hG (r_173) (n_172) 0 (rg_w rc_0 (by decide) (by decide)) (hd_c (r := 848) W9 hLx hkx hd_rf hI_175 (Or.inl ⟨(ro_a hb_1k (by decide) hb_1o hkx rfl), by decide⟩)) (hl_c (r := 0) W9 hLx hkx hl_rf hI_175 (Or.inr (Nat.le_refl _))) (gh_lay W9 hU.2 hLx hkx hb_4 hb_1 hI_175) (ms_s (a := 0) (b := 7) (N := 8) (rg_w rc_0 (by decide) (by decide)) (by decide))
    have l_90 : ∀ (m_90 : Nat) (v_179 : Int32) (I_180 : Nat → Nat → Int32), v_179.toInt + (m_90 : Int) = 75 → 0 ≤ v_179.toInt → I_180 = cpn_ I b_4 b_1 (72) (150) v_179.toNatClampNeg → WG p l e { frames := 8, cells := 0, slots := 0, locals := 192 } s m ([.ref x, .int a0, .int a1] : List Value).toArray below meth c 5 0 0 (MQ below (Qv_ D cy L κ ln R (fun I2 J2 => Iw L κ R ow I2 ∧ Fq L κ ow [1230, 83400, 84600, 84700, 84800] I I2 ∧ Fq L κ ow [] J J2 ∧ (Hd_ R x I I2) ∧ (Hl_ R x I I2 150))) ([.ref x, .int a0, .int a1] : List Value).toArray s 0 0 (Al_ L)) D cy (Al_ L) s.heap L κ ln R I_180 J 90 [(0, .ref x), (1, .int a0), (2, .int a1), (3, .int v_179)] [] := by
      intro m_90
      induction m_90 with
      | zero =>
        intro v_179 I_180 hk_90 h0_90 hI_180
        have rv_179 : Rg 75 75 v_179 := by unfold Rg; omega
        refine g_iload_n C 3 dX12_orderFrom_90 rfl rfl ?_
        refine g_bipush C (v := 75) dX12_orderFrom_91 (by decide) ?_
        refine g_icmp_ge C (tgt := 122) dX12_orderFrom_93 (by decide) (fun h_181 => ?_) (fun h_181 => ?_)
        · skip
          refine g_lo (is := [0, 1, 2, 3]) (lo2 := [(0, .ref x), (1, .int a0), (2, .int a1), (3, .int v_179)]) rfl ?_
          exact ex_90 I_180 (hI_180.trans (congrArg (fun q => cpn_ I b_4 b_1 (72) (150) q) (show v_179.toNatClampNeg = 75 from by have := ix_n rv_179 (by decide); have := rv_179.1; have := rv_179.2; omega))) v_179 rv_179
        · skip
          have r_182 := lt_l (hi := 74) (nle h_181) rv_179 rc_75 (by decide)
          exact rg_no r_182 (by decide)
      | succ m_90 ih_90 =>
        intro v_179 I_180 hk_90 h0_90 hI_180
        have rv_179 : Rg 0 74 v_179 := by unfold Rg; omega
        refine g_iload_n C 3 dX12_orderFrom_90 rfl rfl ?_
        refine g_bipush C (v := 75) dX12_orderFrom_91 (by decide) ?_
        refine g_icmp_ge C (tgt := 122) dX12_orderFrom_93 (by decide) (fun h_183 => ?_) (fun h_183 => ?_)
        · skip
          have r_184 := le_r (h_183) rc_75 rv_179
          exact rg_no r_184 (by decide)
        · skip
          refine g_aload_n C 0 dX12_orderFrom_96 rfl rfl ?_
          refine g_getR C K hLx hkx f_12_48 hb_1 dX12_orderFrom_97 ?_
          refine g_bipush C (v := 75) dX12_orderFrom_100 (by decide) ?_
          refine g_iload_n C 1 dX12_orderFrom_102 rfl rfl ?_
          obtain ⟨x_185, hx_185, rx_185, tx_185⟩ := ex_mulT 150 150 rc_75 ra0 (by decide) (by decide) (by decide) (by decide) (by decide)
          refine g_imul C (v := x_185) dX12_orderFrom_103 hx_185 ?_
          refine g_iload_n C 3 dX12_orderFrom_104 rfl rfl ?_
          obtain ⟨x_186, hx_186, rx_186, tx_186⟩ := ex_add 150 224 rx_185 rv_179 (by decide) (by decide) (by decide) (by decide)
          refine g_iadd C (v := x_186) dX12_orderFrom_105 hx_186 ?_
          refine g_aload_n C 0 dX12_orderFrom_106 rfl rfl ?_
          refine g_getR C K hLx hkx f_12_13 hb_4 dX12_orderFrom_107 ?_
          refine g_bipush C (v := 72) dX12_orderFrom_110 (by decide) ?_
          refine g_iload_n C 3 dX12_orderFrom_112 rfl rfl ?_
          obtain ⟨x_187, hx_187, rx_187, tx_187⟩ := ex_add 72 146 rc_72 rv_179 (by decide) (by decide) (by decide) (by decide)
          refine g_iadd C (v := x_187) dX12_orderFrom_113 hx_187 ?_
          obtain ⟨x_188, hx_188, rx_188⟩ := ex_any (z0 := I_180 b_4 (x_187.toNatClampNeg))
          refine h_iald C K hb_4L hb_4k (v := x_188) (x_187.toNatClampNeg) (rfl) (ix_0 rx_187 (by decide)) (ix_lt rx_187 (by decide) hb_4n (by decide)) hx_188 dX12_orderFrom_114 ?_
          refine h_iast C K hb_1L hb_1k (x_186.toNatClampNeg) (rfl) (ix_0 rx_186 (by decide)) (ix_lt rx_186 (by decide) hb_1n (by decide)) dX12_orderFrom_115 (fun I_189 hI_189 => ?_)
          obtain ⟨x_190, hx_190, rx_190, tx_190⟩ := ex_add (y := 1) 1 75 rv_179 rc_1 (by decide) (by decide) (by decide) (by decide)
          refine g_iinc C dX12_orderFrom_116 (k := 3) (v := x_190) rfl hx_190 (by decide) (lo2 := [(3, .int x_190), (0, .ref x), (1, .int a0), (2, .int a1)]) rfl ?_
          refine g_goto C (tgt := 90) dX12_orderFrom_119 (by decide) ?_
          refine g_lo (is := [1, 2, 3, 0]) (lo2 := [(0, .ref x), (1, .int a0), (2, .int a1), (3, .int x_190)]) rfl ?_
          have kk_90 : x_190.toNatClampNeg = v_179.toNatClampNeg + 1 := by have q1 := ix_n rv_179 (by decide); have q2 := (ti_k tx_190 rc_1); have q3 : x_190.toNatClampNeg = x_190.toInt.toNat := rfl; omega
          exact ih_90 x_190 I_189 (by have := (ti_k tx_190 rc_1); omega) (by have := (ti_k tx_190 rc_1); omega) (by rw [kk_90]; exact cpn_s hI_180 hx_188 hI_189 (show x_187.toNatClampNeg = (72) + v_179.toNatClampNeg from by rw [nx_a tx_187 rc_72 rv_179 (by decide)]; simp only [show (72 : Int32).toNatClampNeg = 72 from rfl] <;> omega) (show x_186.toNatClampNeg = (150) + v_179.toNatClampNeg from by rw [nx_a tx_186 rx_185 rv_179 (by decide), nx_m (k := 75) tx_185 ra0 (by decide)] <;> omega) (Or.inl (ne_ro (ro_a hb_4k (by decide) hb_4o hkx rfl) (ro_a hb_1k (by decide) hb_1o hkx rfl) (by decide))))
    exact l_90 75 0 I (by decide) (by decide) cpn_0
  · skip
    have r_191 := (⟨(ra1).1, (eq_rg (h_171) rc_0).2⟩ : Rg 0 0 a1)
    refine g_iconst C (v := 0) dX12_orderFrom_4 (by decide) ?_
    refine g_istore_n C dX12_orderFrom_5 rfl (by decide) (lo2 := [(3, .int 0), (0, .ref x), (1, .int a0), (2, .int a1)]) rfl ?_
    refine g_iconst C (v := 0) dX12_orderFrom_6 (by decide) ?_
    refine g_istore C dX12_orderFrom_7 (by decide) (lo2 := [(4, .int 0), (3, .int 0), (0, .ref x), (1, .int a0), (2, .int a1)]) rfl ?_
    refine g_lo (is := [2, 3, 4, 1, 0]) (lo2 := [(0, .ref x), (1, .int a0), (2, .int a1), (3, .int 0), (4, .int 0)]) rfl ?_
    exact l_9 8 I J hU hF hG (r_191) 0 0 (rg_w rc_0 (by decide) (by decide)) hd_rf hl_rf (ms_s (a := 0) (b := 7) (N := 8) (rg_w rc_0 (by decide) (by decide)) (by decide))
set_option maxRecDepth 100000 in
set_option maxHeartbeats 8000000 in
theorem c_X12_orderFrom_1 {l : Launch} {D : va_G} {cy : Nat → ClassId} {L : List Nat} {κ ln : Nat → Nat} {R : Nat → Nat → Option Nat} {I : Nat → Nat → Int32} {J : Nat → Nat → Int64} {ow : Nat → Nat × Nat} (W9 : ∀ a ∈ L, Shp L κ ln R ow a) {x : Nat} (hLx : x ∈ L) (hkx : κ x = 12) (a0 : Int32) (a1 : Int32) (ra0 : Rg 1 1 a0) (ra1 : Rg 0 127 a1) (hU : Iw L κ R ow I) (hbc : (bc_ a1).toInt ≤ 6) : CtV l yX12_orderFrom cX12_orderFrom 5 none { frames := 9, cells := 0, slots := 0, locals := 216 } D cy L κ ln R I J [.ref x, .int a0, .int a1] (fun I2 J2 => Iw L κ R ow I2 ∧ Fq L κ ow [1230, 83400, 84600, 84700, 84800] I I2 ∧ Fq L κ ow [] J J2 ∧ (Hd_ R x I I2) ∧ (Hl_ R x I I2 75)) := by
  refine CtV.of (by decide +kernel) (Nat.le_of_ble_eq_true rfl) ?_
  intro p e s m below meth c B K
  have C := B.1
  have hF : Fq L κ ow [1230, 83400, 84600, 84700, 84800] I I := fq_rf
  have hG : Fq L κ ow [] J J := fq_rf
  obtain ⟨b_1, hb_1, hb_1L, hb_1k, hb_1n, hb_1o⟩ := shp_a (W9 x hLx) hkx 28 14 525 rfl (by decide)
  obtain ⟨b_2, hb_2, hb_2L, hb_2k, hb_2n, hb_2o⟩ := shp_a (W9 x hLx) hkx 27 14 7 rfl (by decide)
  obtain ⟨b_3, hb_3, hb_3L, hb_3k, hb_3n, hb_3o⟩ := shp_a (W9 x hLx) hkx 26 14 7 rfl (by decide)
  obtain ⟨b_4, hb_4, hb_4L, hb_4k, hb_4n, hb_4o⟩ := shp_a (W9 x hLx) hkx 14 14 389 rfl (by decide)
  have ea0 : a0.toNatClampNeg = 1 := by have q1 := ix_n ra0 (by decide); have q2 := ra0.1; have q3 := ra0.2; omega
  refine g_lo (is := [0, 1, 2]) (lo2 := [(0, .ref x), (1, .int a0), (2, .int a1)]) rfl ?_
  have l_61 : ∀ (n_61 : Nat) (I_5 : Nat → Nat → Int32) (J_6 : Nat → Nat → Int64) (hU_7 : Iw L κ R ow I_5) (hF_8 : Fq L κ ow [1230, 83400, 84600, 84700, 84800] I I_5) (hG_9 : Fq L κ ow [] J J_6) (r_10 : Rg 0 0 a1) (v_11 : Int32) (v_12 : Int32) (rv_12 : Rg 0 1 v_12) (q_13 : I_5 x 30 = v_11) (hd_14 : Hd_ R x I I_5) (hl_15 : Hl_ R x I I_5 75) (hm_16 : 1 < (v_12 : Int32).toInt + (n_61 : Int)), WG p l e { frames := 9, cells := 0, slots := 0, locals := 216 } s m ([.ref x, .int a0, .int a1] : List Value).toArray below meth c 5 0 0 (MQ below (Qv_ D cy L κ ln R (fun I2 J2 => Iw L κ R ow I2 ∧ Fq L κ ow [1230, 83400, 84600, 84700, 84800] I I2 ∧ Fq L κ ow [] J J2 ∧ (Hd_ R x I I2) ∧ (Hl_ R x I I2 75))) ([.ref x, .int a0, .int a1] : List Value).toArray s 0 0 (Al_ L)) D cy (Al_ L) s.heap L κ ln R I_5 J_6 61 [(0, .ref x), (1, .int a0), (2, .int a1), (3, .int v_11), (4, .int v_12)] [] := by
    intro n_61
    induction n_61 with
    | zero =>
      intro I_5 J_6 hU_7 hF_8 hG_9 r_10 v_11 v_12 rv_12 q_13 hd_14 hl_15 hm_16
      exact ms_0 rv_12 hm_16
    | succ n_61 ih_61 =>
      intro I_5 J_6 hU_7 hF_8 hG_9 r_10 v_11 v_12 rv_12 q_13 hd_14 hl_15 hm_16
      refine g_iload C 4 dX12_orderFrom_61 rfl ?_
      refine g_iload_n C 1 dX12_orderFrom_63 rfl rfl ?_
      refine g_icmp_ge C (tgt := 87) dX12_orderFrom_64 (by decide) (fun h_17 => ?_) (fun h_17 => ?_)
      · skip
        have r_18 := le_r (h_17) ra0 rv_12
        exact g_vret B K rfl ⟨hU_7, hF_8, hG_9, hd_14, hl_15⟩ dX12_orderFrom_87
      · skip
        have r_19 := lt_l (hi := 0) (nle h_17) rv_12 ra0 (by decide)
        refine g_aload_n C 0 dX12_orderFrom_67 rfl rfl ?_
        refine g_getR C K hLx hkx f_12_45 hb_2 dX12_orderFrom_68 ?_
        refine g_iload C 4 dX12_orderFrom_71 rfl ?_
        refine g_aload_n C 0 dX12_orderFrom_73 rfl rfl ?_
        refine g_getR C K hLx hkx f_12_42 hb_3 dX12_orderFrom_74 ?_
        refine g_iload C 4 dX12_orderFrom_77 rfl ?_
        obtain ⟨x_20, hx_20, rx_20⟩ := ex_any (z0 := I_5 b_3 (v_12.toNatClampNeg))
        refine h_iald C K hb_3L hb_3k (v := x_20) (v_12.toNatClampNeg) (rfl) (ix_0 r_19 (by decide)) (ix_lt r_19 (by decide) hb_3n (by decide)) hx_20 dX12_orderFrom_79 ?_
        refine h_iast C K hb_2L hb_2k (v_12.toNatClampNeg) (rfl) (ix_0 r_19 (by decide)) (ix_lt r_19 (by decide) hb_2n (by decide)) dX12_orderFrom_80 (fun I_21 hI_21 => ?_)
        have hU_22 := iw_put W9 hU_7 hI_21 (ro_a hb_2k (by decide) hb_2o hkx rfl) (lo := (-2147483648)) (hi := 2147483647) (rfl) (rx_20) rfl
        have hF_23 := fq_puta hF_8 hI_21 (ro_a hb_2k (by decide) hb_2o hkx rfl) (by decide) (by decide)
        obtain ⟨x_24, hx_24, rx_24, tx_24⟩ := ex_add (y := 1) 1 1 r_19 rc_1 (by decide) (by decide) (by decide) (by decide)
        refine g_iinc C dX12_orderFrom_81 (k := 4) (v := x_24) rfl hx_24 (by decide) (lo2 := [(4, .int x_24), (0, .ref x), (1, .int a0), (2, .int a1), (3, .int v_11)]) rfl ?_
        refine g_goto C (tgt := 61) dX12_orderFrom_84 (by decide) ?_
        refine g_lo (is := [1, 2, 3, 4, 0]) (lo2 := [(0, .ref x), (1, .int a0), (2, .int a1), (3, .int v_11), (4, .int x_24)]) rfl ?_
        exact ih_61 I_21 J_6 hU_22 hF_23 hG_9 (r_10) v_11 x_24 (rg_w rx_24 (by decide) (by decide)) (kp_k (κ := κ) hI_21 (by rw [hkx, hb_2k]; decide) q_13) (hd_u W9 hLx hkx hd_14 hI_21 (Or.inr (Or.inl ⟨(ro_a hb_2k (by decide) hb_2o hkx rfl), by decide⟩))) (hl_u W9 hLx hkx hl_15 hI_21 ⟨(ro_a hb_2k (by decide) hb_2o hkx rfl), by decide⟩) (ms_1 hm_16 (ti_k tx_24 rc_1) (by decide))
  have l_9 : ∀ (n_9 : Nat) (I_25 : Nat → Nat → Int32) (J_26 : Nat → Nat → Int64) (hU_27 : Iw L κ R ow I_25) (hF_28 : Fq L κ ow [1230, 83400, 84600, 84700, 84800] I I_25) (hG_29 : Fq L κ ow [] J J_26) (r_30 : Rg 0 0 a1) (v_31 : Int32) (v_32 : Int32) (rv_32 : Rg 0 7 v_32) (hd_33 : Hd_ R x I I_25) (hl_34 : Hl_ R x I I_25 75) (hm_35 : 7 < (v_32 : Int32).toInt + (n_9 : Int)), WG p l e { frames := 9, cells := 0, slots := 0, locals := 216 } s m ([.ref x, .int a0, .int a1] : List Value).toArray below meth c 5 0 0 (MQ below (Qv_ D cy L κ ln R (fun I2 J2 => Iw L κ R ow I2 ∧ Fq L κ ow [1230, 83400, 84600, 84700, 84800] I I2 ∧ Fq L κ ow [] J J2 ∧ (Hd_ R x I I2) ∧ (Hl_ R x I I2 75))) ([.ref x, .int a0, .int a1] : List Value).toArray s 0 0 (Al_ L)) D cy (Al_ L) s.heap L κ ln R I_25 J_26 9 [(0, .ref x), (1, .int a0), (2, .int a1), (3, .int v_31), (4, .int v_32)] [] := by
    intro n_9
    induction n_9 with
    | zero =>
      intro I_25 J_26 hU_27 hF_28 hG_29 r_30 v_31 v_32 rv_32 hd_33 hl_34 hm_35
      exact ms_0 rv_32 hm_35
    | succ n_9 ih_9 =>
      intro I_25 J_26 hU_27 hF_28 hG_29 r_30 v_31 v_32 rv_32 hd_33 hl_34 hm_35
      have j_38 : ∀ (I_36 : Nat → Nat → Int32) (J_37 : Nat → Nat → Int64) (hU_38 : Iw L κ R ow I_36) (hF_39 : Fq L κ ow [1230, 83400, 84600, 84700, 84800] I I_36) (hG_40 : Fq L κ ow [] J J_37) (r_41 : Rg 0 0 a1) (v_42 : Int32) (v_43 : Int32) (rv_43 : Rg 0 6 v_43) (hm_44 : 7 < (v_43 : Int32).toInt + ((n_9 + 1 : Nat) : Int)) (hd_45 : Hd_ R x I I_36) (hl_46 : Hl_ R x I I_36 75), WG p l e { frames := 9, cells := 0, slots := 0, locals := 216 } s m ([.ref x, .int a0, .int a1] : List Value).toArray below meth c 5 0 0 (MQ below (Qv_ D cy L κ ln R (fun I2 J2 => Iw L κ R ow I2 ∧ Fq L κ ow [1230, 83400, 84600, 84700, 84800] I I2 ∧ Fq L κ ow [] J J2 ∧ (Hd_ R x I I2) ∧ (Hl_ R x I I2 75))) ([.ref x, .int a0, .int a1] : List Value).toArray s 0 0 (Al_ L)) D cy (Al_ L) s.heap L κ ln R I_36 J_37 38 [(0, .ref x), (1, .int a0), (2, .int a1), (3, .int v_42), (4, .int v_43)] [] := by
        intro I_36 J_37 hU_38 hF_39 hG_40 r_41 v_42 v_43 rv_43 hm_44 hd_45 hl_46
        obtain ⟨x_47, hx_47, rx_47, tx_47⟩ := ex_add (y := 1) 1 7 rv_43 rc_1 (by decide) (by decide) (by decide) (by decide)
        refine g_iinc C dX12_orderFrom_38 (k := 4) (v := x_47) rfl hx_47 (by decide) (lo2 := [(4, .int x_47), (0, .ref x), (1, .int a0), (2, .int a1), (3, .int v_42)]) rfl ?_
        refine g_goto C (tgt := 9) dX12_orderFrom_41 (by decide) ?_
        refine g_lo (is := [1, 2, 3, 4, 0]) (lo2 := [(0, .ref x), (1, .int a0), (2, .int a1), (3, .int v_42), (4, .int x_47)]) rfl ?_
        exact ih_9 I_36 J_37 hU_38 hF_39 hG_40 (r_41) v_42 x_47 (rg_w rx_47 (by decide) (by decide)) hd_45 hl_46 (ms_1 hm_44 (ti_k tx_47 rc_1) (by decide))
      refine g_iload C 4 dX12_orderFrom_9 rfl ?_
      refine g_aload_n C 0 dX12_orderFrom_11 rfl rfl ?_
      refine g_getR C K hLx hkx f_12_13 hb_4 dX12_orderFrom_12 ?_
      refine g_iconst C (v := 0) dX12_orderFrom_15 (by decide) ?_
      obtain ⟨x_48, hx_48, rx_48⟩ := ex_getw (I := I_25) (a := b_4) (j := 0) (lo := 0) (hi := 7) hU_27.1 hb_4L (ro_a hb_4k (by decide) hb_4o hkx rfl) (by decide)
      refine h_iald C K hb_4L hb_4k (v := x_48) (0) (by decide) (by decide) (by rw [hb_4n]; decide) hx_48 dX12_orderFrom_16 ?_
      refine g_icmp_ge C (tgt := 44) dX12_orderFrom_17 (by decide) (fun h_49 => ?_) (fun h_49 => ?_)
      · skip
        refine g_iload_n C 3 dX12_orderFrom_44 rfl rfl ?_
        refine g_aload_n C 0 dX12_orderFrom_45 rfl rfl ?_
        obtain ⟨x_50, hx_50, rx_50⟩ := ex_getw (I := I_25) (a := x) (j := 30) (lo := (-2147483648)) (hi := 2147483647) hU_27.1 hLx (ro_o hkx (by decide)) rfl
        refine g_getI C K hLx hkx f_12_298 (v := x_50) hx_50 dX12_orderFrom_46 ?_
        refine g_icmp_lt C (tgt := 53) dX12_orderFrom_49 (by decide) (fun h_51 => ?_) (fun h_51 => ?_)
        · skip
          have r_52 := lt_l (hi := 2147483646) (h_51) (rg_all v_31) rx_50 (by decide)
          have r_53 := lt_r (lo := (-2147483647)) (h_51) (rg_all v_31) rx_50 (by decide)
          refine g_aload_n C 0 dX12_orderFrom_53 rfl rfl ?_
          refine g_iload_n C 3 dX12_orderFrom_54 rfl rfl ?_
          refine h_putI C K hLx hkx f_12_298 p_12_30 dX12_orderFrom_55 (fun I_54 hI_54 => ?_)
          have hU_55 := iw_put W9 hU_27 hI_54 (ro_o hkx (by decide)) (lo := (-2147483648)) (hi := 2147483647) (rfl) (rg_all _) rfl
          have hF_56 := fq_puto hF_28 hI_54 hkx (by decide) (by decide)
          refine g_iconst C (v := 0) dX12_orderFrom_58 (by decide) ?_
          refine g_istore C dX12_orderFrom_59 (by decide) (lo2 := [(4, .int 0), (0, .ref x), (1, .int a0), (2, .int a1), (3, .int v_31)]) rfl ?_
          refine g_lo (is := [1, 2, 3, 4, 0]) (lo2 := [(0, .ref x), (1, .int a0), (2, .int a1), (3, .int v_31), (4, .int 0)]) rfl ?_
          exact l_61 2 I_54 J_26 hU_55 hF_56 hG_29 (r_30) v_31 0 (rg_w rc_0 (by decide) (by decide)) (kp_s hI_54) (hd_u (r := 0) W9 hLx hkx hd_33 hI_54 (Or.inl (ro_o hkx (by decide)))) (hl_u W9 hLx hkx hl_34 hI_54 ⟨(ro_o hkx (by decide)), by decide⟩) (ms_s (a := 0) (b := 1) (N := 2) (rg_w rc_0 (by decide) (by decide)) (by decide))
        · skip
          exact g_vret B K rfl ⟨hU_27, hF_28, hG_29, hd_33, hl_34⟩ dX12_orderFrom_52
      · skip
        have r_57 := lt_l (hi := 6) (nle h_49) rv_32 rx_48 (by decide)
        have r_58 := lt_r (lo := 1) (nle h_49) rv_32 rx_48 (by decide)
        refine g_aload_n C 0 dX12_orderFrom_20 rfl rfl ?_
        refine g_iload C 4 dX12_orderFrom_21 rfl ?_
        refine g_callVI C K (c_X12_isDead W9 hLx hkx v_32 (r_57) hU_27) hLx hkx (by decide) rfl v_12_244 rfl ⟨rfl, rfl⟩ ⟨Nat.le_of_ble_eq_true rfl, Nat.le_of_ble_eq_true rfl⟩ (Nat.le_of_ble_eq_true rfl) ⟨Nat.le_of_ble_eq_true rfl, Nat.le_of_ble_eq_true rfl⟩ dX12_orderFrom_23 rfl (st := []) (fun x_59 I_60 J_61 h_62 => ?_)
        obtain ⟨rfl, rfl, rx_59⟩ := h_62
        refine g_if_ne C (tgt := 38) dX12_orderFrom_26 (by decide) (fun h_63 => ?_) (fun h_63 => ?_)
        · skip
          have n_64 : ¬ x_59 = 0 := h_63
          have r_65 := ne_lo (lo := 1) n_64 rx_59 rc_0 rfl (by decide)
          refine g_lo (is := [0, 1, 2, 3, 4]) (lo2 := [(0, .ref x), (1, .int a0), (2, .int a1), (3, .int v_31), (4, .int v_32)]) rfl ?_
          exact j_38 I_25 J_26 hU_27 hF_28 hG_29 (r_30) v_31 v_32 (r_57) hm_35 hd_33 hl_34
        · skip
          have r_66 := (⟨(rx_59).1, (eq_rg (h_63) rc_0).2⟩ : Rg 0 0 x_59)
          refine g_iload_n C 3 dX12_orderFrom_29 rfl rfl ?_
          refine g_aload_n C 0 dX12_orderFrom_30 rfl rfl ?_
          refine g_iload C 4 dX12_orderFrom_31 rfl ?_
          refine g_callVI C K (c_X12_wantsYet W9 hLx hkx v_32 (r_57) hU_27) hLx hkx (by decide) rfl v_12_268 rfl ⟨rfl, rfl⟩ ⟨Nat.le_of_ble_eq_true rfl, Nat.le_of_ble_eq_true rfl⟩ (Nat.le_of_ble_eq_true rfl) ⟨Nat.le_of_ble_eq_true rfl, Nat.le_of_ble_eq_true rfl⟩ dX12_orderFrom_33 rfl (st := [.int v_31]) (fun x_67 I_68 J_69 h_70 => ?_)
          obtain ⟨rfl, rfl, rx_67, ex_67⟩ := h_70
          obtain ⟨x_71, hx_71, rx_71⟩ := ex_any (z0 := v_31 + x_67)
          refine g_iadd C (v := x_71) dX12_orderFrom_36 hx_71 ?_
          refine g_istore_n C dX12_orderFrom_37 rfl (by decide) (lo2 := [(3, .int x_71), (0, .ref x), (1, .int a0), (2, .int a1), (4, .int v_32)]) rfl ?_
          refine g_lo (is := [1, 2, 3, 0, 4]) (lo2 := [(0, .ref x), (1, .int a0), (2, .int a1), (3, .int x_71), (4, .int v_32)]) rfl ?_
          exact j_38 I_25 J_26 hU_27 hF_28 hG_29 (r_30) x_71 v_32 (r_57) hm_35 hd_33 hl_34
  have l_124 : ∀ (n_124 : Nat) (I_72 : Nat → Nat → Int32) (J_73 : Nat → Nat → Int64) (hU_74 : Iw L κ R ow I_72) (hF_75 : Fq L κ ow [1230, 83400, 84600, 84700, 84800] I I_72) (hG_76 : Fq L κ ow [] J J_73) (r_77 : Rg 1 127 a1) (n_78 : ¬ a1 = 0) (v_79 : Int32) (rv_79 : Rg 0 7 v_79) (hd_80 : Hd_ R x I I_72) (hl_81 : Hl_ R x I I_72 75) (gh_82 : Gh_ R x I_72 75) (hm_83 : 7 < (v_79 : Int32).toInt + (n_124 : Int)), WG p l e { frames := 9, cells := 0, slots := 0, locals := 216 } s m ([.ref x, .int a0, .int a1] : List Value).toArray below meth c 5 0 0 (MQ below (Qv_ D cy L κ ln R (fun I2 J2 => Iw L κ R ow I2 ∧ Fq L κ ow [1230, 83400, 84600, 84700, 84800] I I2 ∧ Fq L κ ow [] J J2 ∧ (Hd_ R x I I2) ∧ (Hl_ R x I I2 75))) ([.ref x, .int a0, .int a1] : List Value).toArray s 0 0 (Al_ L)) D cy (Al_ L) s.heap L κ ln R I_72 J_73 124 [(0, .ref x), (1, .int a0), (2, .int a1), (3, .int v_79)] [] := by
    intro n_124
    induction n_124 with
    | zero =>
      intro I_72 J_73 hU_74 hF_75 hG_76 r_77 n_78 v_79 rv_79 hd_80 hl_81 gh_82 hm_83
      exact ms_0 rv_79 hm_83
    | succ n_124 ih_124 =>
      intro I_72 J_73 hU_74 hF_75 hG_76 r_77 n_78 v_79 rv_79 hd_80 hl_81 gh_82 hm_83
      have j_222 : ∀ (I_84 : Nat → Nat → Int32) (J_85 : Nat → Nat → Int64) (hU_86 : Iw L κ R ow I_84) (hF_87 : Fq L κ ow [1230, 83400, 84600, 84700, 84800] I I_84) (hG_88 : Fq L κ ow [] J J_85) (r_89 : Rg 1 127 a1) (n_90 : ¬ a1 = 0) (v_91 : Int32) (rv_91 : Rg 0 6 v_91) (hm_92 : 7 < (v_91 : Int32).toInt + ((n_124 + 1 : Nat) : Int)) (hd_93 : Hd_ R x I I_84) (hl_94 : Hl_ R x I I_84 75) (gh_95 : Gh_ R x I_84 75), WG p l e { frames := 9, cells := 0, slots := 0, locals := 216 } s m ([.ref x, .int a0, .int a1] : List Value).toArray below meth c 5 0 0 (MQ below (Qv_ D cy L κ ln R (fun I2 J2 => Iw L κ R ow I2 ∧ Fq L κ ow [1230, 83400, 84600, 84700, 84800] I I2 ∧ Fq L κ ow [] J J2 ∧ (Hd_ R x I I2) ∧ (Hl_ R x I I2 75))) ([.ref x, .int a0, .int a1] : List Value).toArray s 0 0 (Al_ L)) D cy (Al_ L) s.heap L κ ln R I_84 J_85 222 [(0, .ref x), (1, .int a0), (2, .int a1), (3, .int v_91)] [] := by
        intro I_84 J_85 hU_86 hF_87 hG_88 r_89 n_90 v_91 rv_91 hm_92 hd_93 hl_94 gh_95
        obtain ⟨x_96, hx_96, rx_96, tx_96⟩ := ex_add (y := 1) 1 7 rv_91 rc_1 (by decide) (by decide) (by decide) (by decide)
        refine g_iinc C dX12_orderFrom_222 (k := 3) (v := x_96) rfl hx_96 (by decide) (lo2 := [(3, .int x_96), (0, .ref x), (1, .int a0), (2, .int a1)]) rfl ?_
        refine g_goto C (tgt := 124) dX12_orderFrom_225 (by decide) ?_
        refine g_lo (is := [1, 2, 3, 0]) (lo2 := [(0, .ref x), (1, .int a0), (2, .int a1), (3, .int x_96)]) rfl ?_
        exact ih_124 I_84 J_85 hU_86 hF_87 hG_88 (r_89) (n_90) x_96 (rg_w rx_96 (by decide) (by decide)) hd_93 hl_94 gh_95 (ms_1 hm_92 (ti_k tx_96 rc_1) (by decide))
      have j_170 : ∀ (I_97 : Nat → Nat → Int32) (J_98 : Nat → Nat → Int64) (hU_99 : Iw L κ R ow I_97) (hF_100 : Fq L κ ow [1230, 83400, 84600, 84700, 84800] I I_97) (hG_101 : Fq L κ ow [] J J_98) (r_102 : Rg 1 127 a1) (n_103 : ¬ a1 = 0) (v_104 : Int32) (rv_104 : Rg 0 6 v_104) (hm_105 : 7 < (v_104 : Int32).toInt + ((n_124 + 1 : Nat) : Int)) (hd_106 : Hd_ R x I I_97) (hl_107 : Hl_ R x I I_97 75) (gh_108 : Gh_ R x I_97 75) (hb_109 : a1 >>> (v_104 &&& 31) &&& 1 = 1), WG p l e { frames := 9, cells := 0, slots := 0, locals := 216 } s m ([.ref x, .int a0, .int a1] : List Value).toArray below meth c 5 0 0 (MQ below (Qv_ D cy L κ ln R (fun I2 J2 => Iw L κ R ow I2 ∧ Fq L κ ow [1230, 83400, 84600, 84700, 84800] I I2 ∧ Fq L κ ow [] J J2 ∧ (Hd_ R x I I2) ∧ (Hl_ R x I I2 75))) ([.ref x, .int a0, .int a1] : List Value).toArray s 0 0 (Al_ L)) D cy (Al_ L) s.heap L κ ln R I_97 J_98 170 [(0, .ref x), (1, .int a0), (2, .int a1), (3, .int v_104)] [] := by
        intro I_97 J_98 hU_99 hF_100 hG_101 r_102 n_103 v_104 rv_104 hm_105 hd_106 hl_107 gh_108 hb_109
        refine g_aload_n C 0 dX12_orderFrom_170 rfl rfl ?_
        refine g_iload_n C 1 dX12_orderFrom_171 rfl rfl ?_
        refine g_iconst C (v := 1) dX12_orderFrom_172 (by decide) ?_
        obtain ⟨x_110, hx_110, rx_110, tx_110⟩ := ex_add 2 2 ra0 rc_1 (by decide) (by decide) (by decide) (by decide)
        refine g_iadd C (v := x_110) dX12_orderFrom_173 hx_110 ?_
        refine g_iload_n C 2 dX12_orderFrom_174 rfl rfl ?_
        refine g_iconst C (v := 1) dX12_orderFrom_175 (by decide) ?_
        refine g_iload_n C 3 dX12_orderFrom_176 rfl rfl ?_
        obtain ⟨x_111, hx_111, rx_111⟩ := ex_shl (x := 1) (y := v_104) 6 64 rfl (rv_104) (by decide)
        refine g_ishl C (v := x_111) dX12_orderFrom_177 hx_111 ?_
        refine g_iconst C (v := (-1)) dX12_orderFrom_178 (by decide) ?_
        obtain ⟨x_112, hx_112, rx_112⟩ := ex_any (z0 := x_111 ^^^ (-1))
        refine g_ixor C (v := x_112) dX12_orderFrom_179 hx_112 ?_
        obtain ⟨x_113, hx_113, rx_113⟩ := ex_andl (x := a1) (y := x_112) (b := 127) (rg_w r_102 (by decide) (by decide))
        refine g_iand C (v := x_113) dX12_orderFrom_180 hx_113 ?_
        refine g_callVV C K (c_X12_orderFrom_2 W9 hLx hkx x_110 x_113 (rx_110) (rx_113) hU_99  (by have q1 := bc_rm (z := x_113) (rg_w r_102 (by decide) (by decide)) (rv_104) hb_109 (by rw [hx_111, hx_112]; exact hx_113); have q2 := hbc; omega)) hLx hkx (by decide) rfl v_12_304 rfl ⟨rfl, rfl⟩ ⟨Nat.le_of_ble_eq_true rfl, Nat.le_of_ble_eq_true rfl⟩ (Nat.le_of_ble_eq_true rfl) ⟨Nat.le_of_ble_eq_true rfl, Nat.le_of_ble_eq_true rfl⟩ dX12_orderFrom_181 rfl (st := []) (fun I_115 J_116 h_117 => ?_)
        obtain ⟨hUI_115, hFI_115, hGJ_116, ex_114⟩ := h_117
        have hF_118 := fq_tr hF_100 hFI_115 (by decide)
        have hG_119 := fq_tr hG_101 hGJ_116 (by decide)
        refine g_iconst C (v := 0) dX12_orderFrom_184 (by decide) ?_
        refine g_istore C dX12_orderFrom_185 (by decide) (lo2 := [(4, .int 0), (0, .ref x), (1, .int a0), (2, .int a1), (3, .int v_104)]) rfl ?_
        refine g_lo (is := [1, 2, 3, 4, 0]) (lo2 := [(0, .ref x), (1, .int a0), (2, .int a1), (3, .int v_104), (4, .int 0)]) rfl ?_
        have ex_187 : ∀ (I_121 : Nat → Nat → Int32) (hI_121 : I_121 = cpn_ I_115 b_1 b_4 (75) (72) 75) (v_120 : Int32) (rv_120 : Rg 75 75 v_120), WG p l e { frames := 9, cells := 0, slots := 0, locals := 216 } s m ([.ref x, .int a0, .int a1] : List Value).toArray below meth c 5 0 0 (MQ below (Qv_ D cy L κ ln R (fun I2 J2 => Iw L κ R ow I2 ∧ Fq L κ ow [1230, 83400, 84600, 84700, 84800] I I2 ∧ Fq L κ ow [] J J2 ∧ (Hd_ R x I I2) ∧ (Hl_ R x I I2 75))) ([.ref x, .int a0, .int a1] : List Value).toArray s 0 0 (Al_ L)) D cy (Al_ L) s.heap L κ ln R I_121 J_116 222 [(0, .ref x), (1, .int a0), (2, .int a1), (3, .int v_104), (4, .int v_120)] [] := by
          intro I_121 hI_121 v_120 rv_120
          have hF_122 := fq_cpn hF_118 hI_121 (ro_a hb_4k (by decide) hb_4o hkx rfl) (by decide) (by decide)
          have hU_123 := uw_cpn hUI_115.1 hb_1L hI_121 (ro_a hb_4k (by decide) hb_4o hkx rfl) (ro_a hb_1k (by decide) hb_1o hkx rfl) (fun i hi => by rw [bn_834, bn_848, show (75 + i) % 75 = i by omega]; exact ⟨Int.le_refl _, Int.le_refl _⟩)
          have hU_124 := iw_set W9 hUI_115.2 hU_123 hLx hkx hb_4 hI_121 ((gh_of gh_108 ex_114.1 ex_114.2 (by decide)) _ _ hb_4 hb_1)
          refine g_lo (is := [0, 1, 2, 3]) (lo2 := [(0, .ref x), (1, .int a0), (2, .int a1), (3, .int v_104)]) rfl ?_
          exact j_222 I_121 J_116 hU_124 hF_122 hG_119 (r_102) (n_103) v_104 (rv_104) hm_105 (hd_c (r := 0) W9 hLx hkx (hd_t hd_106 ex_114.1) hI_121 (Or.inr (by omega))) (hl_c W9 hLx hkx (hl_t hl_107 ex_114.2 (by decide)) hI_121 (Or.inl ⟨(ro_a hb_4k (by decide) hb_4o hkx rfl), by decide⟩)) (gh_c W9 hLx hkx hb_4 (gh_of gh_108 ex_114.1 ex_114.2 (by decide)) hI_121)
        have l_187 : ∀ (m_187 : Nat) (v_125 : Int32) (I_126 : Nat → Nat → Int32), v_125.toInt + (m_187 : Int) = 75 → 0 ≤ v_125.toInt → I_126 = cpn_ I_115 b_1 b_4 (75) (72) v_125.toNatClampNeg → WG p l e { frames := 9, cells := 0, slots := 0, locals := 216 } s m ([.ref x, .int a0, .int a1] : List Value).toArray below meth c 5 0 0 (MQ below (Qv_ D cy L κ ln R (fun I2 J2 => Iw L κ R ow I2 ∧ Fq L κ ow [1230, 83400, 84600, 84700, 84800] I I2 ∧ Fq L κ ow [] J J2 ∧ (Hd_ R x I I2) ∧ (Hl_ R x I I2 75))) ([.ref x, .int a0, .int a1] : List Value).toArray s 0 0 (Al_ L)) D cy (Al_ L) s.heap L κ ln R I_126 J_116 187 [(0, .ref x), (1, .int a0), (2, .int a1), (3, .int v_104), (4, .int v_125)] [] := by
          intro m_187
          induction m_187 with
          | zero =>
            intro v_125 I_126 hk_187 h0_187 hI_126
            have rv_125 : Rg 75 75 v_125 := by unfold Rg; omega
            refine g_iload C 4 dX12_orderFrom_187 rfl ?_
            refine g_bipush C (v := 75) dX12_orderFrom_189 (by decide) ?_
            refine g_icmp_ge C (tgt := 222) dX12_orderFrom_191 (by decide) (fun h_127 => ?_) (fun h_127 => ?_)
            · skip
              refine g_lo (is := [0, 1, 2, 3, 4]) (lo2 := [(0, .ref x), (1, .int a0), (2, .int a1), (3, .int v_104), (4, .int v_125)]) rfl ?_
              exact ex_187 I_126 (hI_126.trans (congrArg (fun q => cpn_ I_115 b_1 b_4 (75) (72) q) (show v_125.toNatClampNeg = 75 from by have := ix_n rv_125 (by decide); have := rv_125.1; have := rv_125.2; omega))) v_125 rv_125
            · skip
              have r_128 := lt_l (hi := 74) (nle h_127) rv_125 rc_75 (by decide)
              exact rg_no r_128 (by decide)
          | succ m_187 ih_187 =>
            intro v_125 I_126 hk_187 h0_187 hI_126
            have rv_125 : Rg 0 74 v_125 := by unfold Rg; omega
            refine g_iload C 4 dX12_orderFrom_187 rfl ?_
            refine g_bipush C (v := 75) dX12_orderFrom_189 (by decide) ?_
            refine g_icmp_ge C (tgt := 222) dX12_orderFrom_191 (by decide) (fun h_129 => ?_) (fun h_129 => ?_)
            · skip
              have r_130 := le_r (h_129) rc_75 rv_125
              exact rg_no r_130 (by decide)
            · skip
              refine g_aload_n C 0 dX12_orderFrom_194 rfl rfl ?_
              refine g_getR C K hLx hkx f_12_13 hb_4 dX12_orderFrom_195 ?_
              refine g_bipush C (v := 72) dX12_orderFrom_198 (by decide) ?_
              refine g_iload C 4 dX12_orderFrom_200 rfl ?_
              obtain ⟨x_131, hx_131, rx_131, tx_131⟩ := ex_add 72 146 rc_72 rv_125 (by decide) (by decide) (by decide) (by decide)
              refine g_iadd C (v := x_131) dX12_orderFrom_202 hx_131 ?_
              refine g_aload_n C 0 dX12_orderFrom_203 rfl rfl ?_
              refine g_getR C K hLx hkx f_12_48 hb_1 dX12_orderFrom_204 ?_
              refine g_bipush C (v := 75) dX12_orderFrom_207 (by decide) ?_
              refine g_iload_n C 1 dX12_orderFrom_209 rfl rfl ?_
              obtain ⟨x_132, hx_132, rx_132, tx_132⟩ := ex_mulT 75 75 rc_75 ra0 (by decide) (by decide) (by decide) (by decide) (by decide)
              refine g_imul C (v := x_132) dX12_orderFrom_210 hx_132 ?_
              refine g_iload C 4 dX12_orderFrom_211 rfl ?_
              obtain ⟨x_133, hx_133, rx_133, tx_133⟩ := ex_add 75 149 rx_132 rv_125 (by decide) (by decide) (by decide) (by decide)
              refine g_iadd C (v := x_133) dX12_orderFrom_213 hx_133 ?_
              obtain ⟨x_134, hx_134, rx_134⟩ := ex_any (z0 := I_126 b_1 (x_133.toNatClampNeg))
              refine h_iald C K hb_1L hb_1k (v := x_134) (x_133.toNatClampNeg) (rfl) (ix_0 rx_133 (by decide)) (ix_lt rx_133 (by decide) hb_1n (by decide)) hx_134 dX12_orderFrom_214 ?_
              refine h_iast C K hb_4L hb_4k (x_131.toNatClampNeg) (rfl) (ix_0 rx_131 (by decide)) (ix_lt rx_131 (by decide) hb_4n (by decide)) dX12_orderFrom_215 (fun I_135 hI_135 => ?_)
              obtain ⟨x_136, hx_136, rx_136, tx_136⟩ := ex_add (y := 1) 1 75 rv_125 rc_1 (by decide) (by decide) (by decide) (by decide)
              refine g_iinc C dX12_orderFrom_216 (k := 4) (v := x_136) rfl hx_136 (by decide) (lo2 := [(4, .int x_136), (0, .ref x), (1, .int a0), (2, .int a1), (3, .int v_104)]) rfl ?_
              refine g_goto C (tgt := 187) dX12_orderFrom_219 (by decide) ?_
              refine g_lo (is := [1, 2, 3, 4, 0]) (lo2 := [(0, .ref x), (1, .int a0), (2, .int a1), (3, .int v_104), (4, .int x_136)]) rfl ?_
              have kk_187 : x_136.toNatClampNeg = v_125.toNatClampNeg + 1 := by have q1 := ix_n rv_125 (by decide); have q2 := (ti_k tx_136 rc_1); have q3 : x_136.toNatClampNeg = x_136.toInt.toNat := rfl; omega
              exact ih_187 x_136 I_135 (by have := (ti_k tx_136 rc_1); omega) (by have := (ti_k tx_136 rc_1); omega) (by rw [kk_187]; exact cpn_s hI_126 hx_134 hI_135 (show x_133.toNatClampNeg = (75) + v_125.toNatClampNeg from by rw [nx_a tx_133 rx_132 rv_125 (by decide), nx_m (k := 75) tx_132 ra0 (by decide)] <;> omega) (show x_131.toNatClampNeg = (72) + v_125.toNatClampNeg from by rw [nx_a tx_131 rc_72 rv_125 (by decide)]; simp only [show (72 : Int32).toNatClampNeg = 72 from rfl] <;> omega) (Or.inl (ne_ro (ro_a hb_1k (by decide) hb_1o hkx rfl) (ro_a hb_4k (by decide) hb_4o hkx rfl) (by decide))))
        exact l_187 75 0 I_115 (by decide) (by decide) cpn_0
      refine g_iload_n C 3 dX12_orderFrom_124 rfl rfl ?_
      refine g_aload_n C 0 dX12_orderFrom_125 rfl rfl ?_
      refine g_getR C K hLx hkx f_12_13 hb_4 dX12_orderFrom_126 ?_
      refine g_iconst C (v := 0) dX12_orderFrom_129 (by decide) ?_
      obtain ⟨x_137, hx_137, rx_137⟩ := ex_getw (I := I_72) (a := b_4) (j := 0) (lo := 0) (hi := 7) hU_74.1 hb_4L (ro_a hb_4k (by decide) hb_4o hkx rfl) (by decide)
      refine h_iald C K hb_4L hb_4k (v := x_137) (0) (by decide) (by decide) (by rw [hb_4n]; decide) hx_137 dX12_orderFrom_130 ?_
      refine g_icmp_ge C (tgt := 228) dX12_orderFrom_131 (by decide) (fun h_138 => ?_) (fun h_138 => ?_)
      · skip
        exact g_vret B K rfl ⟨hU_74, hF_75, hG_76, hd_80, hl_81⟩ dX12_orderFrom_228
      · skip
        have r_139 := lt_l (hi := 6) (nle h_138) rv_79 rx_137 (by decide)
        have r_140 := lt_r (lo := 1) (nle h_138) rv_79 rx_137 (by decide)
        refine g_iload_n C 2 dX12_orderFrom_134 rfl rfl ?_
        refine g_iload_n C 3 dX12_orderFrom_135 rfl rfl ?_
        refine g_callSI C K (c_X12_has W9 a1 v_79  hU_74) s_12_231 rfl ⟨rfl, rfl⟩ ⟨Nat.le_of_ble_eq_true rfl, Nat.le_of_ble_eq_true rfl⟩ (Nat.le_of_ble_eq_true rfl) ⟨Nat.le_of_ble_eq_true rfl, Nat.le_of_ble_eq_true rfl⟩ dX12_orderFrom_136 rfl (st := []) (fun x_141 I_142 J_143 h_144 => ?_)
        obtain ⟨rfl, rfl, rx_141, ex_141⟩ := h_144
        refine g_if_ne C (tgt := 145) dX12_orderFrom_139 (by decide) (fun h_145 => ?_) (fun h_145 => ?_)
        · skip
          have n_146 : ¬ x_141 = 0 := h_145
          have r_147 := ne_lo (lo := 1) n_146 rx_141 rc_0 rfl (by decide)
          refine g_aload_n C 0 dX12_orderFrom_145 rfl rfl ?_
          refine g_getR C K hLx hkx f_12_42 hb_3 dX12_orderFrom_146 ?_
          refine g_iload_n C 1 dX12_orderFrom_149 rfl rfl ?_
          refine g_iload_n C 3 dX12_orderFrom_150 rfl rfl ?_
          refine h_iast C K hb_3L hb_3k (a0.toNatClampNeg) (rfl) (ix_0 ra0 (by decide)) (ix_lt ra0 (by decide) hb_3n (by decide)) dX12_orderFrom_151 (fun I_148 hI_148 => ?_)
          have hU_149 := iw_put W9 hU_74 hI_148 (ro_a hb_3k (by decide) hb_3o hkx rfl) (lo := (-2147483648)) (hi := 2147483647) (rfl) (rg_all _) rfl
          have hF_150 := fq_puta hF_75 hI_148 (ro_a hb_3k (by decide) hb_3o hkx rfl) (by decide) (by decide)
          refine g_aload_n C 0 dX12_orderFrom_152 rfl rfl ?_
          refine g_iload_n C 3 dX12_orderFrom_153 rfl rfl ?_
          refine g_callVV C K (c_X12_eatsAll W9 hLx hkx v_79 (r_139) hU_149) hLx hkx (by decide) rfl v_12_301 rfl ⟨rfl, rfl⟩ ⟨Nat.le_of_ble_eq_true rfl, Nat.le_of_ble_eq_true rfl⟩ (Nat.le_of_ble_eq_true rfl) ⟨Nat.le_of_ble_eq_true rfl, Nat.le_of_ble_eq_true rfl⟩ dX12_orderFrom_154 rfl (st := []) (fun I_152 J_153 h_154 => ?_)
          obtain ⟨hUI_152, hFI_152, hGJ_153, ex_151⟩ := h_154
          have hF_155 := fq_tr hF_150 hFI_152 (by decide)
          have hG_156 := fq_tr hG_76 hGJ_153 (by decide)
          refine g_aload_n C 0 dX12_orderFrom_157 rfl rfl ?_
          refine g_iload_n C 3 dX12_orderFrom_158 rfl rfl ?_
          refine g_callVI C K (c_X12_plateOf W9 hLx hkx v_79 (r_139) hUI_152) hLx hkx (by decide) rfl v_12_247 rfl ⟨rfl, rfl⟩ ⟨Nat.le_of_ble_eq_true rfl, Nat.le_of_ble_eq_true rfl⟩ (Nat.le_of_ble_eq_true rfl) ⟨Nat.le_of_ble_eq_true rfl, Nat.le_of_ble_eq_true rfl⟩ dX12_orderFrom_159 rfl (st := []) (fun x_157 I_158 J_159 h_160 => ?_)
          obtain ⟨rfl, rfl, rx_157⟩ := h_160
          refine g_if_le C (tgt := 170) dX12_orderFrom_162 (by decide) (fun h_161 => ?_) (fun h_161 => ?_)
          · skip
            have r_162 := le_l (h_161) rx_157 rc_0
            refine g_lo (is := [0, 1, 2, 3]) (lo2 := [(0, .ref x), (1, .int a0), (2, .int a1), (3, .int v_79)]) rfl ?_
            exact j_170 I_152 J_153 hUI_152 hF_155 hG_156 (r_77) (n_78) v_79 (r_139) hm_83 (hd_t (hd_u W9 hLx hkx hd_80 hI_148 (Or.inr (Or.inl ⟨(ro_a hb_3k (by decide) hb_3o hkx rfl), by decide⟩))) ex_151) (hl_fq W9 hLx hkx (hl_u W9 hLx hkx hl_81 hI_148 ⟨(ro_a hb_3k (by decide) hb_3o hkx rfl), by decide⟩) hFI_152 (by decide)) (gh_mv W9 hLx hkx (gh_u W9 hLx hkx gh_82 hI_148 ⟨(ro_a hb_3k (by decide) hb_3o hkx rfl), by decide, by decide⟩) ex_151 hFI_152 (by decide)) (ex_141 n_146)
          · skip
            have r_163 := lt_r (lo := 1) (nle h_161) rc_0 rx_157 (by decide)
            refine g_aload_n C 0 dX12_orderFrom_165 rfl rfl ?_
            refine g_iload_n C 3 dX12_orderFrom_166 rfl rfl ?_
            refine g_callVV C K (c_X12_pass W9 hLx hkx v_79 (r_139) hUI_152) hLx hkx (by decide) rfl v_12_275 rfl ⟨rfl, rfl⟩ ⟨Nat.le_of_ble_eq_true rfl, Nat.le_of_ble_eq_true rfl⟩ (Nat.le_of_ble_eq_true rfl) ⟨Nat.le_of_ble_eq_true rfl, Nat.le_of_ble_eq_true rfl⟩ dX12_orderFrom_167 rfl (st := []) (fun I_165 J_166 h_167 => ?_)
            obtain ⟨hUI_165, hFI_165, hGJ_166, ex_164⟩ := h_167
            have hF_168 := fq_tr hF_155 hFI_165 (by decide)
            have hG_169 := fq_tr hG_156 hGJ_166 (by decide)
            refine g_lo (is := [0, 1, 2, 3]) (lo2 := [(0, .ref x), (1, .int a0), (2, .int a1), (3, .int v_79)]) rfl ?_
            exact j_170 I_165 J_166 hUI_165 hF_168 hG_169 (r_77) (n_78) v_79 (r_139) hm_83 (hd_t (hd_t (hd_u W9 hLx hkx hd_80 hI_148 (Or.inr (Or.inl ⟨(ro_a hb_3k (by decide) hb_3o hkx rfl), by decide⟩))) ex_151) ex_164) (hl_fq W9 hLx hkx (hl_fq W9 hLx hkx (hl_u W9 hLx hkx hl_81 hI_148 ⟨(ro_a hb_3k (by decide) hb_3o hkx rfl), by decide⟩) hFI_152 (by decide)) hFI_165 (by decide)) (gh_mv W9 hLx hkx (gh_mv W9 hLx hkx (gh_u W9 hLx hkx gh_82 hI_148 ⟨(ro_a hb_3k (by decide) hb_3o hkx rfl), by decide, by decide⟩) ex_151 hFI_152 (by decide)) ex_164 hFI_165 (by decide)) (ex_141 n_146)
        · skip
          have r_170 := (⟨(rx_141).1, (eq_rg (h_145) rc_0).2⟩ : Rg 0 0 x_141)
          refine g_goto C (tgt := 222) dX12_orderFrom_142 (by decide) ?_
          refine g_lo (is := [0, 1, 2, 3]) (lo2 := [(0, .ref x), (1, .int a0), (2, .int a1), (3, .int v_79)]) rfl ?_
          exact j_222 I_72 J_73 hU_74 hF_75 hG_76 (r_77) (n_78) v_79 (r_139) hm_83 hd_80 hl_81 gh_82
  refine g_iload_n C 2 dX12_orderFrom_0 rfl rfl ?_
  refine g_if_ne C (tgt := 88) dX12_orderFrom_1 (by decide) (fun h_171 => ?_) (fun h_171 => ?_)
  · skip
    have n_172 : ¬ a1 = 0 := h_171
    have r_173 := ne_lo (lo := 1) n_172 ra1 rc_0 rfl (by decide)
    refine g_iconst C (v := 0) dX12_orderFrom_88 (by decide) ?_
    refine g_istore_n C dX12_orderFrom_89 rfl (by decide) (lo2 := [(3, .int 0), (0, .ref x), (1, .int a0), (2, .int a1)]) rfl ?_
    refine g_lo (is := [1, 2, 3, 0]) (lo2 := [(0, .ref x), (1, .int a0), (2, .int a1), (3, .int 0)]) rfl ?_
    have ex_90 : ∀ (I_175 : Nat → Nat → Int32) (hI_175 : I_175 = cpn_ I b_4 b_1 (72) (75) 75) (v_174 : Int32) (rv_174 : Rg 75 75 v_174), WG p l e { frames := 9, cells := 0, slots := 0, locals := 216 } s m ([.ref x, .int a0, .int a1] : List Value).toArray below meth c 5 0 0 (MQ below (Qv_ D cy L κ ln R (fun I2 J2 => Iw L κ R ow I2 ∧ Fq L κ ow [1230, 83400, 84600, 84700, 84800] I I2 ∧ Fq L κ ow [] J J2 ∧ (Hd_ R x I I2) ∧ (Hl_ R x I I2 75))) ([.ref x, .int a0, .int a1] : List Value).toArray s 0 0 (Al_ L)) D cy (Al_ L) s.heap L κ ln R I_175 J 122 [(0, .ref x), (1, .int a0), (2, .int a1), (3, .int v_174)] [] := by
      intro I_175 hI_175 v_174 rv_174
      have hF_176 := fq_cpn hF hI_175 (ro_a hb_1k (by decide) hb_1o hkx rfl) (by decide) (by decide)
      have hU_177 := uw_cpn hU.1 hb_4L hI_175 (ro_a hb_1k (by decide) hb_1o hkx rfl) (ro_a hb_4k (by decide) hb_4o hkx rfl) (fun i hi => by rw [bn_848, bn_834, show (75 + i) % 75 = i by omega]; exact ⟨Int.le_refl _, Int.le_refl _⟩)
      have hU_178 := iw_cpo W9 hU.2 hU_177 hI_175 (ro_a hb_1k (by decide) hb_1o hkx rfl) (fun _ => rfl)
      refine g_iconst C (v := 0) dX12_orderFrom_122 (by decide) ?_
      refine g_istore_n C dX12_orderFrom_123 rfl (by decide) (lo2 := [(3, .int 0), (0, .ref x), (1, .int a0), (2, .int a1)]) rfl ?_
      refine g_lo (is := [1, 2, 3, 0]) (lo2 := [(0, .ref x), (1, .int a0), (2, .int a1), (3, .int 0)]) rfl ?_
      exact l_124 8 I_175 J hU_178 hF_176 hG (r_173) (n_172) 0 (rg_w rc_0 (by decide) (by decide)) (hd_c (r := 848) W9 hLx hkx hd_rf hI_175 (Or.inl ⟨(ro_a hb_1k (by decide) hb_1o hkx rfl), by decide⟩)) (hl_c (r := 0) W9 hLx hkx hl_rf hI_175 (Or.inr (Nat.le_refl _))) (gh_lay W9 hU.2 hLx hkx hb_4 hb_1 hI_175) (ms_s (a := 0) (b := 7) (N := 8) (rg_w rc_0 (by decide) (by decide)) (by decide))
    have l_90 : ∀ (m_90 : Nat) (v_179 : Int32) (I_180 : Nat → Nat → Int32), v_179.toInt + (m_90 : Int) = 75 → 0 ≤ v_179.toInt → I_180 = cpn_ I b_4 b_1 (72) (75) v_179.toNatClampNeg → WG p l e { frames := 9, cells := 0, slots := 0, locals := 216 } s m ([.ref x, .int a0, .int a1] : List Value).toArray below meth c 5 0 0 (MQ below (Qv_ D cy L κ ln R (fun I2 J2 => Iw L κ R ow I2 ∧ Fq L κ ow [1230, 83400, 84600, 84700, 84800] I I2 ∧ Fq L κ ow [] J J2 ∧ (Hd_ R x I I2) ∧ (Hl_ R x I I2 75))) ([.ref x, .int a0, .int a1] : List Value).toArray s 0 0 (Al_ L)) D cy (Al_ L) s.heap L κ ln R I_180 J 90 [(0, .ref x), (1, .int a0), (2, .int a1), (3, .int v_179)] [] := by
      intro m_90
      induction m_90 with
      | zero =>
        intro v_179 I_180 hk_90 h0_90 hI_180
        have rv_179 : Rg 75 75 v_179 := by unfold Rg; omega
        refine g_iload_n C 3 dX12_orderFrom_90 rfl rfl ?_
        refine g_bipush C (v := 75) dX12_orderFrom_91 (by decide) ?_
        refine g_icmp_ge C (tgt := 122) dX12_orderFrom_93 (by decide) (fun h_181 => ?_) (fun h_181 => ?_)
        · skip
          refine g_lo (is := [0, 1, 2, 3]) (lo2 := [(0, .ref x), (1, .int a0), (2, .int a1), (3, .int v_179)]) rfl ?_
          exact ex_90 I_180 (hI_180.trans (congrArg (fun q => cpn_ I b_4 b_1 (72) (75) q) (show v_179.toNatClampNeg = 75 from by have := ix_n rv_179 (by decide); have := rv_179.1; have := rv_179.2; omega))) v_179 rv_179
        · skip
          have r_182 := lt_l (hi := 74) (nle h_181) rv_179 rc_75 (by decide)
          exact rg_no r_182 (by decide)
      | succ m_90 ih_90 =>
        intro v_179 I_180 hk_90 h0_90 hI_180
        have rv_179 : Rg 0 74 v_179 := by unfold Rg; omega
        refine g_iload_n C 3 dX12_orderFrom_90 rfl rfl ?_
        refine g_bipush C (v := 75) dX12_orderFrom_91 (by decide) ?_
        refine g_icmp_ge C (tgt := 122) dX12_orderFrom_93 (by decide) (fun h_183 => ?_) (fun h_183 => ?_)
        · skip
          have r_184 := le_r (h_183) rc_75 rv_179
          exact rg_no r_184 (by decide)
        · skip
          refine g_aload_n C 0 dX12_orderFrom_96 rfl rfl ?_
          refine g_getR C K hLx hkx f_12_48 hb_1 dX12_orderFrom_97 ?_
          refine g_bipush C (v := 75) dX12_orderFrom_100 (by decide) ?_
          refine g_iload_n C 1 dX12_orderFrom_102 rfl rfl ?_
          obtain ⟨x_185, hx_185, rx_185, tx_185⟩ := ex_mulT 75 75 rc_75 ra0 (by decide) (by decide) (by decide) (by decide) (by decide)
          refine g_imul C (v := x_185) dX12_orderFrom_103 hx_185 ?_
          refine g_iload_n C 3 dX12_orderFrom_104 rfl rfl ?_
          obtain ⟨x_186, hx_186, rx_186, tx_186⟩ := ex_add 75 149 rx_185 rv_179 (by decide) (by decide) (by decide) (by decide)
          refine g_iadd C (v := x_186) dX12_orderFrom_105 hx_186 ?_
          refine g_aload_n C 0 dX12_orderFrom_106 rfl rfl ?_
          refine g_getR C K hLx hkx f_12_13 hb_4 dX12_orderFrom_107 ?_
          refine g_bipush C (v := 72) dX12_orderFrom_110 (by decide) ?_
          refine g_iload_n C 3 dX12_orderFrom_112 rfl rfl ?_
          obtain ⟨x_187, hx_187, rx_187, tx_187⟩ := ex_add 72 146 rc_72 rv_179 (by decide) (by decide) (by decide) (by decide)
          refine g_iadd C (v := x_187) dX12_orderFrom_113 hx_187 ?_
          obtain ⟨x_188, hx_188, rx_188⟩ := ex_any (z0 := I_180 b_4 (x_187.toNatClampNeg))
          refine h_iald C K hb_4L hb_4k (v := x_188) (x_187.toNatClampNeg) (rfl) (ix_0 rx_187 (by decide)) (ix_lt rx_187 (by decide) hb_4n (by decide)) hx_188 dX12_orderFrom_114 ?_
          refine h_iast C K hb_1L hb_1k (x_186.toNatClampNeg) (rfl) (ix_0 rx_186 (by decide)) (ix_lt rx_186 (by decide) hb_1n (by decide)) dX12_orderFrom_115 (fun I_189 hI_189 => ?_)
          obtain ⟨x_190, hx_190, rx_190, tx_190⟩ := ex_add (y := 1) 1 75 rv_179 rc_1 (by decide) (by decide) (by decide) (by decide)
          refine g_iinc C dX12_orderFrom_116 (k := 3) (v := x_190) rfl hx_190 (by decide) (lo2 := [(3, .int x_190), (0, .ref x), (1, .int a0), (2, .int a1)]) rfl ?_
          refine g_goto C (tgt := 90) dX12_orderFrom_119 (by decide) ?_
          refine g_lo (is := [1, 2, 3, 0]) (lo2 := [(0, .ref x), (1, .int a0), (2, .int a1), (3, .int x_190)]) rfl ?_
          have kk_90 : x_190.toNatClampNeg = v_179.toNatClampNeg + 1 := by have q1 := ix_n rv_179 (by decide); have q2 := (ti_k tx_190 rc_1); have q3 : x_190.toNatClampNeg = x_190.toInt.toNat := rfl; omega
          exact ih_90 x_190 I_189 (by have := (ti_k tx_190 rc_1); omega) (by have := (ti_k tx_190 rc_1); omega) (by rw [kk_90]; exact cpn_s hI_180 hx_188 hI_189 (show x_187.toNatClampNeg = (72) + v_179.toNatClampNeg from by rw [nx_a tx_187 rc_72 rv_179 (by decide)]; simp only [show (72 : Int32).toNatClampNeg = 72 from rfl] <;> omega) (show x_186.toNatClampNeg = (75) + v_179.toNatClampNeg from by rw [nx_a tx_186 rx_185 rv_179 (by decide), nx_m (k := 75) tx_185 ra0 (by decide)] <;> omega) (Or.inl (ne_ro (ro_a hb_4k (by decide) hb_4o hkx rfl) (ro_a hb_1k (by decide) hb_1o hkx rfl) (by decide))))
    exact l_90 75 0 I (by decide) (by decide) cpn_0
  · skip
    have r_191 := (⟨(ra1).1, (eq_rg (h_171) rc_0).2⟩ : Rg 0 0 a1)
    refine g_iconst C (v := 0) dX12_orderFrom_4 (by decide) ?_
    refine g_istore_n C dX12_orderFrom_5 rfl (by decide) (lo2 := [(3, .int 0), (0, .ref x), (1, .int a0), (2, .int a1)]) rfl ?_
    refine g_iconst C (v := 0) dX12_orderFrom_6 (by decide) ?_
    refine g_istore C dX12_orderFrom_7 (by decide) (lo2 := [(4, .int 0), (3, .int 0), (0, .ref x), (1, .int a0), (2, .int a1)]) rfl ?_
    refine g_lo (is := [2, 3, 4, 1, 0]) (lo2 := [(0, .ref x), (1, .int a0), (2, .int a1), (3, .int 0), (4, .int 0)]) rfl ?_
    exact l_9 8 I J hU hF hG (r_191) 0 0 (rg_w rc_0 (by decide) (by decide)) hd_rf hl_rf (ms_s (a := 0) (b := 7) (N := 8) (rg_w rc_0 (by decide) (by decide)) (by decide))
set_option maxRecDepth 100000 in
set_option maxHeartbeats 8000000 in
theorem c_X12_orderFrom_0 {l : Launch} {D : va_G} {cy : Nat → ClassId} {L : List Nat} {κ ln : Nat → Nat} {R : Nat → Nat → Option Nat} {I : Nat → Nat → Int32} {J : Nat → Nat → Int64} {ow : Nat → Nat × Nat} (W9 : ∀ a ∈ L, Shp L κ ln R ow a) {x : Nat} (hLx : x ∈ L) (hkx : κ x = 12) (a0 : Int32) (a1 : Int32) (ra0 : Rg 0 0 a0) (ra1 : Rg 0 127 a1) (hU : Iw L κ R ow I) (hbc : (bc_ a1).toInt ≤ 7) : CtV l yX12_orderFrom cX12_orderFrom 5 none { frames := 10, cells := 0, slots := 0, locals := 240 } D cy L κ ln R I J [.ref x, .int a0, .int a1] (fun I2 J2 => Iw L κ R ow I2 ∧ Fq L κ ow [1230, 83400, 84600, 84700, 84800] I I2 ∧ Fq L κ ow [] J J2 ∧ (Hd_ R x I I2) ∧ (Hl_ R x I I2 0)) := by
  refine CtV.of (by decide +kernel) (Nat.le_of_ble_eq_true rfl) ?_
  intro p e s m below meth c B K
  have C := B.1
  have hF : Fq L κ ow [1230, 83400, 84600, 84700, 84800] I I := fq_rf
  have hG : Fq L κ ow [] J J := fq_rf
  obtain ⟨b_1, hb_1, hb_1L, hb_1k, hb_1n, hb_1o⟩ := shp_a (W9 x hLx) hkx 28 14 525 rfl (by decide)
  obtain ⟨b_2, hb_2, hb_2L, hb_2k, hb_2n, hb_2o⟩ := shp_a (W9 x hLx) hkx 26 14 7 rfl (by decide)
  obtain ⟨b_3, hb_3, hb_3L, hb_3k, hb_3n, hb_3o⟩ := shp_a (W9 x hLx) hkx 14 14 389 rfl (by decide)
  have ea0 : a0.toNatClampNeg = 0 := by have q1 := ix_n ra0 (by decide); have q2 := ra0.1; have q3 := ra0.2; omega
  refine g_lo (is := [0, 1, 2]) (lo2 := [(0, .ref x), (1, .int a0), (2, .int a1)]) rfl ?_
  have j_61 : ∀ (I_4 : Nat → Nat → Int32) (J_5 : Nat → Nat → Int64) (hU_6 : Iw L κ R ow I_4) (hF_7 : Fq L κ ow [1230, 83400, 84600, 84700, 84800] I I_4) (hG_8 : Fq L κ ow [] J J_5) (r_9 : Rg 0 0 a1) (v_10 : Int32) (q_11 : I_4 x 30 = v_10) (hd_12 : Hd_ R x I I_4) (hl_13 : Hl_ R x I I_4 0), WG p l e { frames := 10, cells := 0, slots := 0, locals := 240 } s m ([.ref x, .int a0, .int a1] : List Value).toArray below meth c 5 0 0 (MQ below (Qv_ D cy L κ ln R (fun I2 J2 => Iw L κ R ow I2 ∧ Fq L κ ow [1230, 83400, 84600, 84700, 84800] I I2 ∧ Fq L κ ow [] J J2 ∧ (Hd_ R x I I2) ∧ (Hl_ R x I I2 0))) ([.ref x, .int a0, .int a1] : List Value).toArray s 0 0 (Al_ L)) D cy (Al_ L) s.heap L κ ln R I_4 J_5 61 [(0, .ref x), (1, .int a0), (2, .int a1), (3, .int v_10), (4, .int 0)] [] := by
    intro I_4 J_5 hU_6 hF_7 hG_8 r_9 v_10 q_11 hd_12 hl_13
    refine g_iload C 4 dX12_orderFrom_61 rfl ?_
    refine g_iload_n C 1 dX12_orderFrom_63 rfl rfl ?_
    refine g_icmp_ge C (tgt := 87) dX12_orderFrom_64 (by decide) (fun h_14 => ?_) (fun h_14 => ?_)
    · skip
      exact g_vret B K rfl ⟨hU_6, hF_7, hG_8, hd_12, hl_13⟩ dX12_orderFrom_87
    · skip
      have r_15 := lt_r (lo := 1) (nle h_14) rc_0 ra0 (by decide)
      exact rg_no r_15 (by decide)
  have l_9 : ∀ (n_9 : Nat) (I_16 : Nat → Nat → Int32) (J_17 : Nat → Nat → Int64) (hU_18 : Iw L κ R ow I_16) (hF_19 : Fq L κ ow [1230, 83400, 84600, 84700, 84800] I I_16) (hG_20 : Fq L κ ow [] J J_17) (r_21 : Rg 0 0 a1) (v_22 : Int32) (v_23 : Int32) (rv_23 : Rg 0 7 v_23) (hd_24 : Hd_ R x I I_16) (hl_25 : Hl_ R x I I_16 0) (hm_26 : 7 < (v_23 : Int32).toInt + (n_9 : Int)), WG p l e { frames := 10, cells := 0, slots := 0, locals := 240 } s m ([.ref x, .int a0, .int a1] : List Value).toArray below meth c 5 0 0 (MQ below (Qv_ D cy L κ ln R (fun I2 J2 => Iw L κ R ow I2 ∧ Fq L κ ow [1230, 83400, 84600, 84700, 84800] I I2 ∧ Fq L κ ow [] J J2 ∧ (Hd_ R x I I2) ∧ (Hl_ R x I I2 0))) ([.ref x, .int a0, .int a1] : List Value).toArray s 0 0 (Al_ L)) D cy (Al_ L) s.heap L κ ln R I_16 J_17 9 [(0, .ref x), (1, .int a0), (2, .int a1), (3, .int v_22), (4, .int v_23)] [] := by
    intro n_9
    induction n_9 with
    | zero =>
      intro I_16 J_17 hU_18 hF_19 hG_20 r_21 v_22 v_23 rv_23 hd_24 hl_25 hm_26
      exact ms_0 rv_23 hm_26
    | succ n_9 ih_9 =>
      intro I_16 J_17 hU_18 hF_19 hG_20 r_21 v_22 v_23 rv_23 hd_24 hl_25 hm_26
      have j_38 : ∀ (I_27 : Nat → Nat → Int32) (J_28 : Nat → Nat → Int64) (hU_29 : Iw L κ R ow I_27) (hF_30 : Fq L κ ow [1230, 83400, 84600, 84700, 84800] I I_27) (hG_31 : Fq L κ ow [] J J_28) (r_32 : Rg 0 0 a1) (v_33 : Int32) (v_34 : Int32) (rv_34 : Rg 0 6 v_34) (hm_35 : 7 < (v_34 : Int32).toInt + ((n_9 + 1 : Nat) : Int)) (hd_36 : Hd_ R x I I_27) (hl_37 : Hl_ R x I I_27 0), WG p l e { frames := 10, cells := 0, slots := 0, locals := 240 } s m ([.ref x, .int a0, .int a1] : List Value).toArray below meth c 5 0 0 (MQ below (Qv_ D cy L κ ln R (fun I2 J2 => Iw L κ R ow I2 ∧ Fq L κ ow [1230, 83400, 84600, 84700, 84800] I I2 ∧ Fq L κ ow [] J J2 ∧ (Hd_ R x I I2) ∧ (Hl_ R x I I2 0))) ([.ref x, .int a0, .int a1] : List Value).toArray s 0 0 (Al_ L)) D cy (Al_ L) s.heap L κ ln R I_27 J_28 38 [(0, .ref x), (1, .int a0), (2, .int a1), (3, .int v_33), (4, .int v_34)] [] := by
        intro I_27 J_28 hU_29 hF_30 hG_31 r_32 v_33 v_34 rv_34 hm_35 hd_36 hl_37
        obtain ⟨x_38, hx_38, rx_38, tx_38⟩ := ex_add (y := 1) 1 7 rv_34 rc_1 (by decide) (by decide) (by decide) (by decide)
        refine g_iinc C dX12_orderFrom_38 (k := 4) (v := x_38) rfl hx_38 (by decide) (lo2 := [(4, .int x_38), (0, .ref x), (1, .int a0), (2, .int a1), (3, .int v_33)]) rfl ?_
        refine g_goto C (tgt := 9) dX12_orderFrom_41 (by decide) ?_
        refine g_lo (is := [1, 2, 3, 4, 0]) (lo2 := [(0, .ref x), (1, .int a0), (2, .int a1), (3, .int v_33), (4, .int x_38)]) rfl ?_
        exact ih_9 I_27 J_28 hU_29 hF_30 hG_31 (r_32) v_33 x_38 (rg_w rx_38 (by decide) (by decide)) hd_36 hl_37 (ms_1 hm_35 (ti_k tx_38 rc_1) (by decide))
      refine g_iload C 4 dX12_orderFrom_9 rfl ?_
      refine g_aload_n C 0 dX12_orderFrom_11 rfl rfl ?_
      refine g_getR C K hLx hkx f_12_13 hb_3 dX12_orderFrom_12 ?_
      refine g_iconst C (v := 0) dX12_orderFrom_15 (by decide) ?_
      obtain ⟨x_39, hx_39, rx_39⟩ := ex_getw (I := I_16) (a := b_3) (j := 0) (lo := 0) (hi := 7) hU_18.1 hb_3L (ro_a hb_3k (by decide) hb_3o hkx rfl) (by decide)
      refine h_iald C K hb_3L hb_3k (v := x_39) (0) (by decide) (by decide) (by rw [hb_3n]; decide) hx_39 dX12_orderFrom_16 ?_
      refine g_icmp_ge C (tgt := 44) dX12_orderFrom_17 (by decide) (fun h_40 => ?_) (fun h_40 => ?_)
      · skip
        refine g_iload_n C 3 dX12_orderFrom_44 rfl rfl ?_
        refine g_aload_n C 0 dX12_orderFrom_45 rfl rfl ?_
        obtain ⟨x_41, hx_41, rx_41⟩ := ex_getw (I := I_16) (a := x) (j := 30) (lo := (-2147483648)) (hi := 2147483647) hU_18.1 hLx (ro_o hkx (by decide)) rfl
        refine g_getI C K hLx hkx f_12_298 (v := x_41) hx_41 dX12_orderFrom_46 ?_
        refine g_icmp_lt C (tgt := 53) dX12_orderFrom_49 (by decide) (fun h_42 => ?_) (fun h_42 => ?_)
        · skip
          have r_43 := lt_l (hi := 2147483646) (h_42) (rg_all v_22) rx_41 (by decide)
          have r_44 := lt_r (lo := (-2147483647)) (h_42) (rg_all v_22) rx_41 (by decide)
          refine g_aload_n C 0 dX12_orderFrom_53 rfl rfl ?_
          refine g_iload_n C 3 dX12_orderFrom_54 rfl rfl ?_
          refine h_putI C K hLx hkx f_12_298 p_12_30 dX12_orderFrom_55 (fun I_45 hI_45 => ?_)
          have hU_46 := iw_put W9 hU_18 hI_45 (ro_o hkx (by decide)) (lo := (-2147483648)) (hi := 2147483647) (rfl) (rg_all _) rfl
          have hF_47 := fq_puto hF_19 hI_45 hkx (by decide) (by decide)
          refine g_iconst C (v := 0) dX12_orderFrom_58 (by decide) ?_
          refine g_istore C dX12_orderFrom_59 (by decide) (lo2 := [(4, .int 0), (0, .ref x), (1, .int a0), (2, .int a1), (3, .int v_22)]) rfl ?_
          refine g_lo (is := [1, 2, 3, 4, 0]) (lo2 := [(0, .ref x), (1, .int a0), (2, .int a1), (3, .int v_22), (4, .int 0)]) rfl ?_
          exact j_61 I_45 J_17 hU_46 hF_47 hG_20 (r_21) v_22 (kp_s hI_45) (hd_u (r := 0) W9 hLx hkx hd_24 hI_45 (Or.inl (ro_o hkx (by decide)))) (hl_u W9 hLx hkx hl_25 hI_45 ⟨(ro_o hkx (by decide)), by decide⟩)
        · skip
          exact g_vret B K rfl ⟨hU_18, hF_19, hG_20, hd_24, hl_25⟩ dX12_orderFrom_52
      · skip
        have r_48 := lt_l (hi := 6) (nle h_40) rv_23 rx_39 (by decide)
        have r_49 := lt_r (lo := 1) (nle h_40) rv_23 rx_39 (by decide)
        refine g_aload_n C 0 dX12_orderFrom_20 rfl rfl ?_
        refine g_iload C 4 dX12_orderFrom_21 rfl ?_
        refine g_callVI C K (c_X12_isDead W9 hLx hkx v_23 (r_48) hU_18) hLx hkx (by decide) rfl v_12_244 rfl ⟨rfl, rfl⟩ ⟨Nat.le_of_ble_eq_true rfl, Nat.le_of_ble_eq_true rfl⟩ (Nat.le_of_ble_eq_true rfl) ⟨Nat.le_of_ble_eq_true rfl, Nat.le_of_ble_eq_true rfl⟩ dX12_orderFrom_23 rfl (st := []) (fun x_50 I_51 J_52 h_53 => ?_)
        obtain ⟨rfl, rfl, rx_50⟩ := h_53
        refine g_if_ne C (tgt := 38) dX12_orderFrom_26 (by decide) (fun h_54 => ?_) (fun h_54 => ?_)
        · skip
          have n_55 : ¬ x_50 = 0 := h_54
          have r_56 := ne_lo (lo := 1) n_55 rx_50 rc_0 rfl (by decide)
          refine g_lo (is := [0, 1, 2, 3, 4]) (lo2 := [(0, .ref x), (1, .int a0), (2, .int a1), (3, .int v_22), (4, .int v_23)]) rfl ?_
          exact j_38 I_16 J_17 hU_18 hF_19 hG_20 (r_21) v_22 v_23 (r_48) hm_26 hd_24 hl_25
        · skip
          have r_57 := (⟨(rx_50).1, (eq_rg (h_54) rc_0).2⟩ : Rg 0 0 x_50)
          refine g_iload_n C 3 dX12_orderFrom_29 rfl rfl ?_
          refine g_aload_n C 0 dX12_orderFrom_30 rfl rfl ?_
          refine g_iload C 4 dX12_orderFrom_31 rfl ?_
          refine g_callVI C K (c_X12_wantsYet W9 hLx hkx v_23 (r_48) hU_18) hLx hkx (by decide) rfl v_12_268 rfl ⟨rfl, rfl⟩ ⟨Nat.le_of_ble_eq_true rfl, Nat.le_of_ble_eq_true rfl⟩ (Nat.le_of_ble_eq_true rfl) ⟨Nat.le_of_ble_eq_true rfl, Nat.le_of_ble_eq_true rfl⟩ dX12_orderFrom_33 rfl (st := [.int v_22]) (fun x_58 I_59 J_60 h_61 => ?_)
          obtain ⟨rfl, rfl, rx_58, ex_58⟩ := h_61
          obtain ⟨x_62, hx_62, rx_62⟩ := ex_any (z0 := v_22 + x_58)
          refine g_iadd C (v := x_62) dX12_orderFrom_36 hx_62 ?_
          refine g_istore_n C dX12_orderFrom_37 rfl (by decide) (lo2 := [(3, .int x_62), (0, .ref x), (1, .int a0), (2, .int a1), (4, .int v_23)]) rfl ?_
          refine g_lo (is := [1, 2, 3, 0, 4]) (lo2 := [(0, .ref x), (1, .int a0), (2, .int a1), (3, .int x_62), (4, .int v_23)]) rfl ?_
          exact j_38 I_16 J_17 hU_18 hF_19 hG_20 (r_21) x_62 v_23 (r_48) hm_26 hd_24 hl_25
  have l_124 : ∀ (n_124 : Nat) (I_63 : Nat → Nat → Int32) (J_64 : Nat → Nat → Int64) (hU_65 : Iw L κ R ow I_63) (hF_66 : Fq L κ ow [1230, 83400, 84600, 84700, 84800] I I_63) (hG_67 : Fq L κ ow [] J J_64) (r_68 : Rg 1 127 a1) (n_69 : ¬ a1 = 0) (v_70 : Int32) (rv_70 : Rg 0 7 v_70) (hd_71 : Hd_ R x I I_63) (hl_72 : Hl_ R x I I_63 0) (gh_73 : Gh_ R x I_63 0) (hm_74 : 7 < (v_70 : Int32).toInt + (n_124 : Int)), WG p l e { frames := 10, cells := 0, slots := 0, locals := 240 } s m ([.ref x, .int a0, .int a1] : List Value).toArray below meth c 5 0 0 (MQ below (Qv_ D cy L κ ln R (fun I2 J2 => Iw L κ R ow I2 ∧ Fq L κ ow [1230, 83400, 84600, 84700, 84800] I I2 ∧ Fq L κ ow [] J J2 ∧ (Hd_ R x I I2) ∧ (Hl_ R x I I2 0))) ([.ref x, .int a0, .int a1] : List Value).toArray s 0 0 (Al_ L)) D cy (Al_ L) s.heap L κ ln R I_63 J_64 124 [(0, .ref x), (1, .int a0), (2, .int a1), (3, .int v_70)] [] := by
    intro n_124
    induction n_124 with
    | zero =>
      intro I_63 J_64 hU_65 hF_66 hG_67 r_68 n_69 v_70 rv_70 hd_71 hl_72 gh_73 hm_74
      exact ms_0 rv_70 hm_74
    | succ n_124 ih_124 =>
      intro I_63 J_64 hU_65 hF_66 hG_67 r_68 n_69 v_70 rv_70 hd_71 hl_72 gh_73 hm_74
      have j_222 : ∀ (I_75 : Nat → Nat → Int32) (J_76 : Nat → Nat → Int64) (hU_77 : Iw L κ R ow I_75) (hF_78 : Fq L κ ow [1230, 83400, 84600, 84700, 84800] I I_75) (hG_79 : Fq L κ ow [] J J_76) (r_80 : Rg 1 127 a1) (n_81 : ¬ a1 = 0) (v_82 : Int32) (rv_82 : Rg 0 6 v_82) (hm_83 : 7 < (v_82 : Int32).toInt + ((n_124 + 1 : Nat) : Int)) (hd_84 : Hd_ R x I I_75) (hl_85 : Hl_ R x I I_75 0) (gh_86 : Gh_ R x I_75 0), WG p l e { frames := 10, cells := 0, slots := 0, locals := 240 } s m ([.ref x, .int a0, .int a1] : List Value).toArray below meth c 5 0 0 (MQ below (Qv_ D cy L κ ln R (fun I2 J2 => Iw L κ R ow I2 ∧ Fq L κ ow [1230, 83400, 84600, 84700, 84800] I I2 ∧ Fq L κ ow [] J J2 ∧ (Hd_ R x I I2) ∧ (Hl_ R x I I2 0))) ([.ref x, .int a0, .int a1] : List Value).toArray s 0 0 (Al_ L)) D cy (Al_ L) s.heap L κ ln R I_75 J_76 222 [(0, .ref x), (1, .int a0), (2, .int a1), (3, .int v_82)] [] := by
        intro I_75 J_76 hU_77 hF_78 hG_79 r_80 n_81 v_82 rv_82 hm_83 hd_84 hl_85 gh_86
        obtain ⟨x_87, hx_87, rx_87, tx_87⟩ := ex_add (y := 1) 1 7 rv_82 rc_1 (by decide) (by decide) (by decide) (by decide)
        refine g_iinc C dX12_orderFrom_222 (k := 3) (v := x_87) rfl hx_87 (by decide) (lo2 := [(3, .int x_87), (0, .ref x), (1, .int a0), (2, .int a1)]) rfl ?_
        refine g_goto C (tgt := 124) dX12_orderFrom_225 (by decide) ?_
        refine g_lo (is := [1, 2, 3, 0]) (lo2 := [(0, .ref x), (1, .int a0), (2, .int a1), (3, .int x_87)]) rfl ?_
        exact ih_124 I_75 J_76 hU_77 hF_78 hG_79 (r_80) (n_81) x_87 (rg_w rx_87 (by decide) (by decide)) hd_84 hl_85 gh_86 (ms_1 hm_83 (ti_k tx_87 rc_1) (by decide))
      have j_170 : ∀ (I_88 : Nat → Nat → Int32) (J_89 : Nat → Nat → Int64) (hU_90 : Iw L κ R ow I_88) (hF_91 : Fq L κ ow [1230, 83400, 84600, 84700, 84800] I I_88) (hG_92 : Fq L κ ow [] J J_89) (r_93 : Rg 1 127 a1) (n_94 : ¬ a1 = 0) (v_95 : Int32) (rv_95 : Rg 0 6 v_95) (hm_96 : 7 < (v_95 : Int32).toInt + ((n_124 + 1 : Nat) : Int)) (hd_97 : Hd_ R x I I_88) (hl_98 : Hl_ R x I I_88 0) (gh_99 : Gh_ R x I_88 0) (hb_100 : a1 >>> (v_95 &&& 31) &&& 1 = 1), WG p l e { frames := 10, cells := 0, slots := 0, locals := 240 } s m ([.ref x, .int a0, .int a1] : List Value).toArray below meth c 5 0 0 (MQ below (Qv_ D cy L κ ln R (fun I2 J2 => Iw L κ R ow I2 ∧ Fq L κ ow [1230, 83400, 84600, 84700, 84800] I I2 ∧ Fq L κ ow [] J J2 ∧ (Hd_ R x I I2) ∧ (Hl_ R x I I2 0))) ([.ref x, .int a0, .int a1] : List Value).toArray s 0 0 (Al_ L)) D cy (Al_ L) s.heap L κ ln R I_88 J_89 170 [(0, .ref x), (1, .int a0), (2, .int a1), (3, .int v_95)] [] := by
        intro I_88 J_89 hU_90 hF_91 hG_92 r_93 n_94 v_95 rv_95 hm_96 hd_97 hl_98 gh_99 hb_100
        refine g_aload_n C 0 dX12_orderFrom_170 rfl rfl ?_
        refine g_iload_n C 1 dX12_orderFrom_171 rfl rfl ?_
        refine g_iconst C (v := 1) dX12_orderFrom_172 (by decide) ?_
        obtain ⟨x_101, hx_101, rx_101, tx_101⟩ := ex_add 1 1 ra0 rc_1 (by decide) (by decide) (by decide) (by decide)
        refine g_iadd C (v := x_101) dX12_orderFrom_173 hx_101 ?_
        refine g_iload_n C 2 dX12_orderFrom_174 rfl rfl ?_
        refine g_iconst C (v := 1) dX12_orderFrom_175 (by decide) ?_
        refine g_iload_n C 3 dX12_orderFrom_176 rfl rfl ?_
        obtain ⟨x_102, hx_102, rx_102⟩ := ex_shl (x := 1) (y := v_95) 6 64 rfl (rv_95) (by decide)
        refine g_ishl C (v := x_102) dX12_orderFrom_177 hx_102 ?_
        refine g_iconst C (v := (-1)) dX12_orderFrom_178 (by decide) ?_
        obtain ⟨x_103, hx_103, rx_103⟩ := ex_any (z0 := x_102 ^^^ (-1))
        refine g_ixor C (v := x_103) dX12_orderFrom_179 hx_103 ?_
        obtain ⟨x_104, hx_104, rx_104⟩ := ex_andl (x := a1) (y := x_103) (b := 127) (rg_w r_93 (by decide) (by decide))
        refine g_iand C (v := x_104) dX12_orderFrom_180 hx_104 ?_
        refine g_callVV C K (c_X12_orderFrom_1 W9 hLx hkx x_101 x_104 (rx_101) (rx_104) hU_90  (by have q1 := bc_rm (z := x_104) (rg_w r_93 (by decide) (by decide)) (rv_95) hb_100 (by rw [hx_102, hx_103]; exact hx_104); have q2 := hbc; omega)) hLx hkx (by decide) rfl v_12_304 rfl ⟨rfl, rfl⟩ ⟨Nat.le_of_ble_eq_true rfl, Nat.le_of_ble_eq_true rfl⟩ (Nat.le_of_ble_eq_true rfl) ⟨Nat.le_of_ble_eq_true rfl, Nat.le_of_ble_eq_true rfl⟩ dX12_orderFrom_181 rfl (st := []) (fun I_106 J_107 h_108 => ?_)
        obtain ⟨hUI_106, hFI_106, hGJ_107, ex_105⟩ := h_108
        have hF_109 := fq_tr hF_91 hFI_106 (by decide)
        have hG_110 := fq_tr hG_92 hGJ_107 (by decide)
        refine g_iconst C (v := 0) dX12_orderFrom_184 (by decide) ?_
        refine g_istore C dX12_orderFrom_185 (by decide) (lo2 := [(4, .int 0), (0, .ref x), (1, .int a0), (2, .int a1), (3, .int v_95)]) rfl ?_
        refine g_lo (is := [1, 2, 3, 4, 0]) (lo2 := [(0, .ref x), (1, .int a0), (2, .int a1), (3, .int v_95), (4, .int 0)]) rfl ?_
        have ex_187 : ∀ (I_112 : Nat → Nat → Int32) (hI_112 : I_112 = cpn_ I_106 b_1 b_3 (0) (72) 75) (v_111 : Int32) (rv_111 : Rg 75 75 v_111), WG p l e { frames := 10, cells := 0, slots := 0, locals := 240 } s m ([.ref x, .int a0, .int a1] : List Value).toArray below meth c 5 0 0 (MQ below (Qv_ D cy L κ ln R (fun I2 J2 => Iw L κ R ow I2 ∧ Fq L κ ow [1230, 83400, 84600, 84700, 84800] I I2 ∧ Fq L κ ow [] J J2 ∧ (Hd_ R x I I2) ∧ (Hl_ R x I I2 0))) ([.ref x, .int a0, .int a1] : List Value).toArray s 0 0 (Al_ L)) D cy (Al_ L) s.heap L κ ln R I_112 J_107 222 [(0, .ref x), (1, .int a0), (2, .int a1), (3, .int v_95), (4, .int v_111)] [] := by
          intro I_112 hI_112 v_111 rv_111
          have hF_113 := fq_cpn hF_109 hI_112 (ro_a hb_3k (by decide) hb_3o hkx rfl) (by decide) (by decide)
          have hU_114 := uw_cpn hUI_106.1 hb_1L hI_112 (ro_a hb_3k (by decide) hb_3o hkx rfl) (ro_a hb_1k (by decide) hb_1o hkx rfl) (fun i hi => by rw [bn_834, bn_848, show (0 + i) % 75 = i by omega]; exact ⟨Int.le_refl _, Int.le_refl _⟩)
          have hU_115 := iw_set W9 hUI_106.2 hU_114 hLx hkx hb_3 hI_112 ((gh_of gh_99 ex_105.1 ex_105.2 (by decide)) _ _ hb_3 hb_1)
          refine g_lo (is := [0, 1, 2, 3]) (lo2 := [(0, .ref x), (1, .int a0), (2, .int a1), (3, .int v_95)]) rfl ?_
          exact j_222 I_112 J_107 hU_115 hF_113 hG_110 (r_93) (n_94) v_95 (rv_95) hm_96 (hd_c (r := 0) W9 hLx hkx (hd_t hd_97 ex_105.1) hI_112 (Or.inr (by omega))) (hl_c W9 hLx hkx (hl_t hl_98 ex_105.2 (by decide)) hI_112 (Or.inl ⟨(ro_a hb_3k (by decide) hb_3o hkx rfl), by decide⟩)) (gh_c W9 hLx hkx hb_3 (gh_of gh_99 ex_105.1 ex_105.2 (by decide)) hI_112)
        have l_187 : ∀ (m_187 : Nat) (v_116 : Int32) (I_117 : Nat → Nat → Int32), v_116.toInt + (m_187 : Int) = 75 → 0 ≤ v_116.toInt → I_117 = cpn_ I_106 b_1 b_3 (0) (72) v_116.toNatClampNeg → WG p l e { frames := 10, cells := 0, slots := 0, locals := 240 } s m ([.ref x, .int a0, .int a1] : List Value).toArray below meth c 5 0 0 (MQ below (Qv_ D cy L κ ln R (fun I2 J2 => Iw L κ R ow I2 ∧ Fq L κ ow [1230, 83400, 84600, 84700, 84800] I I2 ∧ Fq L κ ow [] J J2 ∧ (Hd_ R x I I2) ∧ (Hl_ R x I I2 0))) ([.ref x, .int a0, .int a1] : List Value).toArray s 0 0 (Al_ L)) D cy (Al_ L) s.heap L κ ln R I_117 J_107 187 [(0, .ref x), (1, .int a0), (2, .int a1), (3, .int v_95), (4, .int v_116)] [] := by
          intro m_187
          induction m_187 with
          | zero =>
            intro v_116 I_117 hk_187 h0_187 hI_117
            have rv_116 : Rg 75 75 v_116 := by unfold Rg; omega
            refine g_iload C 4 dX12_orderFrom_187 rfl ?_
            refine g_bipush C (v := 75) dX12_orderFrom_189 (by decide) ?_
            refine g_icmp_ge C (tgt := 222) dX12_orderFrom_191 (by decide) (fun h_118 => ?_) (fun h_118 => ?_)
            · skip
              refine g_lo (is := [0, 1, 2, 3, 4]) (lo2 := [(0, .ref x), (1, .int a0), (2, .int a1), (3, .int v_95), (4, .int v_116)]) rfl ?_
              exact ex_187 I_117 (hI_117.trans (congrArg (fun q => cpn_ I_106 b_1 b_3 (0) (72) q) (show v_116.toNatClampNeg = 75 from by have := ix_n rv_116 (by decide); have := rv_116.1; have := rv_116.2; omega))) v_116 rv_116
            · skip
              have r_119 := lt_l (hi := 74) (nle h_118) rv_116 rc_75 (by decide)
              exact rg_no r_119 (by decide)
          | succ m_187 ih_187 =>
            intro v_116 I_117 hk_187 h0_187 hI_117
            have rv_116 : Rg 0 74 v_116 := by unfold Rg; omega
            refine g_iload C 4 dX12_orderFrom_187 rfl ?_
            refine g_bipush C (v := 75) dX12_orderFrom_189 (by decide) ?_
            refine g_icmp_ge C (tgt := 222) dX12_orderFrom_191 (by decide) (fun h_120 => ?_) (fun h_120 => ?_)
            · skip
              have r_121 := le_r (h_120) rc_75 rv_116
              exact rg_no r_121 (by decide)
            · skip
              refine g_aload_n C 0 dX12_orderFrom_194 rfl rfl ?_
              refine g_getR C K hLx hkx f_12_13 hb_3 dX12_orderFrom_195 ?_
              refine g_bipush C (v := 72) dX12_orderFrom_198 (by decide) ?_
              refine g_iload C 4 dX12_orderFrom_200 rfl ?_
              obtain ⟨x_122, hx_122, rx_122, tx_122⟩ := ex_add 72 146 rc_72 rv_116 (by decide) (by decide) (by decide) (by decide)
              refine g_iadd C (v := x_122) dX12_orderFrom_202 hx_122 ?_
              refine g_aload_n C 0 dX12_orderFrom_203 rfl rfl ?_
              refine g_getR C K hLx hkx f_12_48 hb_1 dX12_orderFrom_204 ?_
              refine g_bipush C (v := 75) dX12_orderFrom_207 (by decide) ?_
              refine g_iload_n C 1 dX12_orderFrom_209 rfl rfl ?_
              obtain ⟨x_123, hx_123, rx_123, tx_123⟩ := ex_mulT 0 0 rc_75 ra0 (by decide) (by decide) (by decide) (by decide) (by decide)
              refine g_imul C (v := x_123) dX12_orderFrom_210 hx_123 ?_
              refine g_iload C 4 dX12_orderFrom_211 rfl ?_
              obtain ⟨x_124, hx_124, rx_124, tx_124⟩ := ex_add 0 74 rx_123 rv_116 (by decide) (by decide) (by decide) (by decide)
              refine g_iadd C (v := x_124) dX12_orderFrom_213 hx_124 ?_
              obtain ⟨x_125, hx_125, rx_125⟩ := ex_any (z0 := I_117 b_1 (x_124.toNatClampNeg))
              refine h_iald C K hb_1L hb_1k (v := x_125) (x_124.toNatClampNeg) (rfl) (ix_0 rx_124 (by decide)) (ix_lt rx_124 (by decide) hb_1n (by decide)) hx_125 dX12_orderFrom_214 ?_
              refine h_iast C K hb_3L hb_3k (x_122.toNatClampNeg) (rfl) (ix_0 rx_122 (by decide)) (ix_lt rx_122 (by decide) hb_3n (by decide)) dX12_orderFrom_215 (fun I_126 hI_126 => ?_)
              obtain ⟨x_127, hx_127, rx_127, tx_127⟩ := ex_add (y := 1) 1 75 rv_116 rc_1 (by decide) (by decide) (by decide) (by decide)
              refine g_iinc C dX12_orderFrom_216 (k := 4) (v := x_127) rfl hx_127 (by decide) (lo2 := [(4, .int x_127), (0, .ref x), (1, .int a0), (2, .int a1), (3, .int v_95)]) rfl ?_
              refine g_goto C (tgt := 187) dX12_orderFrom_219 (by decide) ?_
              refine g_lo (is := [1, 2, 3, 4, 0]) (lo2 := [(0, .ref x), (1, .int a0), (2, .int a1), (3, .int v_95), (4, .int x_127)]) rfl ?_
              have kk_187 : x_127.toNatClampNeg = v_116.toNatClampNeg + 1 := by have q1 := ix_n rv_116 (by decide); have q2 := (ti_k tx_127 rc_1); have q3 : x_127.toNatClampNeg = x_127.toInt.toNat := rfl; omega
              exact ih_187 x_127 I_126 (by have := (ti_k tx_127 rc_1); omega) (by have := (ti_k tx_127 rc_1); omega) (by rw [kk_187]; exact cpn_s hI_117 hx_125 hI_126 (show x_124.toNatClampNeg = (0) + v_116.toNatClampNeg from by rw [nx_a tx_124 rx_123 rv_116 (by decide), nx_m (k := 75) tx_123 ra0 (by decide)] <;> omega) (show x_122.toNatClampNeg = (72) + v_116.toNatClampNeg from by rw [nx_a tx_122 rc_72 rv_116 (by decide)]; simp only [show (72 : Int32).toNatClampNeg = 72 from rfl] <;> omega) (Or.inl (ne_ro (ro_a hb_1k (by decide) hb_1o hkx rfl) (ro_a hb_3k (by decide) hb_3o hkx rfl) (by decide))))
        exact l_187 75 0 I_106 (by decide) (by decide) cpn_0
      refine g_iload_n C 3 dX12_orderFrom_124 rfl rfl ?_
      refine g_aload_n C 0 dX12_orderFrom_125 rfl rfl ?_
      refine g_getR C K hLx hkx f_12_13 hb_3 dX12_orderFrom_126 ?_
      refine g_iconst C (v := 0) dX12_orderFrom_129 (by decide) ?_
      obtain ⟨x_128, hx_128, rx_128⟩ := ex_getw (I := I_63) (a := b_3) (j := 0) (lo := 0) (hi := 7) hU_65.1 hb_3L (ro_a hb_3k (by decide) hb_3o hkx rfl) (by decide)
      refine h_iald C K hb_3L hb_3k (v := x_128) (0) (by decide) (by decide) (by rw [hb_3n]; decide) hx_128 dX12_orderFrom_130 ?_
      refine g_icmp_ge C (tgt := 228) dX12_orderFrom_131 (by decide) (fun h_129 => ?_) (fun h_129 => ?_)
      · skip
        exact g_vret B K rfl ⟨hU_65, hF_66, hG_67, hd_71, hl_72⟩ dX12_orderFrom_228
      · skip
        have r_130 := lt_l (hi := 6) (nle h_129) rv_70 rx_128 (by decide)
        have r_131 := lt_r (lo := 1) (nle h_129) rv_70 rx_128 (by decide)
        refine g_iload_n C 2 dX12_orderFrom_134 rfl rfl ?_
        refine g_iload_n C 3 dX12_orderFrom_135 rfl rfl ?_
        refine g_callSI C K (c_X12_has W9 a1 v_70  hU_65) s_12_231 rfl ⟨rfl, rfl⟩ ⟨Nat.le_of_ble_eq_true rfl, Nat.le_of_ble_eq_true rfl⟩ (Nat.le_of_ble_eq_true rfl) ⟨Nat.le_of_ble_eq_true rfl, Nat.le_of_ble_eq_true rfl⟩ dX12_orderFrom_136 rfl (st := []) (fun x_132 I_133 J_134 h_135 => ?_)
        obtain ⟨rfl, rfl, rx_132, ex_132⟩ := h_135
        refine g_if_ne C (tgt := 145) dX12_orderFrom_139 (by decide) (fun h_136 => ?_) (fun h_136 => ?_)
        · skip
          have n_137 : ¬ x_132 = 0 := h_136
          have r_138 := ne_lo (lo := 1) n_137 rx_132 rc_0 rfl (by decide)
          refine g_aload_n C 0 dX12_orderFrom_145 rfl rfl ?_
          refine g_getR C K hLx hkx f_12_42 hb_2 dX12_orderFrom_146 ?_
          refine g_iload_n C 1 dX12_orderFrom_149 rfl rfl ?_
          refine g_iload_n C 3 dX12_orderFrom_150 rfl rfl ?_
          refine h_iast C K hb_2L hb_2k (a0.toNatClampNeg) (rfl) (ix_0 ra0 (by decide)) (ix_lt ra0 (by decide) hb_2n (by decide)) dX12_orderFrom_151 (fun I_139 hI_139 => ?_)
          have hU_140 := iw_put W9 hU_65 hI_139 (ro_a hb_2k (by decide) hb_2o hkx rfl) (lo := (-2147483648)) (hi := 2147483647) (rfl) (rg_all _) rfl
          have hF_141 := fq_puta hF_66 hI_139 (ro_a hb_2k (by decide) hb_2o hkx rfl) (by decide) (by decide)
          refine g_aload_n C 0 dX12_orderFrom_152 rfl rfl ?_
          refine g_iload_n C 3 dX12_orderFrom_153 rfl rfl ?_
          refine g_callVV C K (c_X12_eatsAll W9 hLx hkx v_70 (r_130) hU_140) hLx hkx (by decide) rfl v_12_301 rfl ⟨rfl, rfl⟩ ⟨Nat.le_of_ble_eq_true rfl, Nat.le_of_ble_eq_true rfl⟩ (Nat.le_of_ble_eq_true rfl) ⟨Nat.le_of_ble_eq_true rfl, Nat.le_of_ble_eq_true rfl⟩ dX12_orderFrom_154 rfl (st := []) (fun I_143 J_144 h_145 => ?_)
          obtain ⟨hUI_143, hFI_143, hGJ_144, ex_142⟩ := h_145
          have hF_146 := fq_tr hF_141 hFI_143 (by decide)
          have hG_147 := fq_tr hG_67 hGJ_144 (by decide)
          refine g_aload_n C 0 dX12_orderFrom_157 rfl rfl ?_
          refine g_iload_n C 3 dX12_orderFrom_158 rfl rfl ?_
          refine g_callVI C K (c_X12_plateOf W9 hLx hkx v_70 (r_130) hUI_143) hLx hkx (by decide) rfl v_12_247 rfl ⟨rfl, rfl⟩ ⟨Nat.le_of_ble_eq_true rfl, Nat.le_of_ble_eq_true rfl⟩ (Nat.le_of_ble_eq_true rfl) ⟨Nat.le_of_ble_eq_true rfl, Nat.le_of_ble_eq_true rfl⟩ dX12_orderFrom_159 rfl (st := []) (fun x_148 I_149 J_150 h_151 => ?_)
          obtain ⟨rfl, rfl, rx_148⟩ := h_151
          refine g_if_le C (tgt := 170) dX12_orderFrom_162 (by decide) (fun h_152 => ?_) (fun h_152 => ?_)
          · skip
            have r_153 := le_l (h_152) rx_148 rc_0
            refine g_lo (is := [0, 1, 2, 3]) (lo2 := [(0, .ref x), (1, .int a0), (2, .int a1), (3, .int v_70)]) rfl ?_
            exact j_170 I_143 J_144 hUI_143 hF_146 hG_147 (r_68) (n_69) v_70 (r_130) hm_74 (hd_t (hd_u W9 hLx hkx hd_71 hI_139 (Or.inr (Or.inl ⟨(ro_a hb_2k (by decide) hb_2o hkx rfl), by decide⟩))) ex_142) (hl_fq W9 hLx hkx (hl_u W9 hLx hkx hl_72 hI_139 ⟨(ro_a hb_2k (by decide) hb_2o hkx rfl), by decide⟩) hFI_143 (by decide)) (gh_mv W9 hLx hkx (gh_u W9 hLx hkx gh_73 hI_139 ⟨(ro_a hb_2k (by decide) hb_2o hkx rfl), by decide, by decide⟩) ex_142 hFI_143 (by decide)) (ex_132 n_137)
          · skip
            have r_154 := lt_r (lo := 1) (nle h_152) rc_0 rx_148 (by decide)
            refine g_aload_n C 0 dX12_orderFrom_165 rfl rfl ?_
            refine g_iload_n C 3 dX12_orderFrom_166 rfl rfl ?_
            refine g_callVV C K (c_X12_pass W9 hLx hkx v_70 (r_130) hUI_143) hLx hkx (by decide) rfl v_12_275 rfl ⟨rfl, rfl⟩ ⟨Nat.le_of_ble_eq_true rfl, Nat.le_of_ble_eq_true rfl⟩ (Nat.le_of_ble_eq_true rfl) ⟨Nat.le_of_ble_eq_true rfl, Nat.le_of_ble_eq_true rfl⟩ dX12_orderFrom_167 rfl (st := []) (fun I_156 J_157 h_158 => ?_)
            obtain ⟨hUI_156, hFI_156, hGJ_157, ex_155⟩ := h_158
            have hF_159 := fq_tr hF_146 hFI_156 (by decide)
            have hG_160 := fq_tr hG_147 hGJ_157 (by decide)
            refine g_lo (is := [0, 1, 2, 3]) (lo2 := [(0, .ref x), (1, .int a0), (2, .int a1), (3, .int v_70)]) rfl ?_
            exact j_170 I_156 J_157 hUI_156 hF_159 hG_160 (r_68) (n_69) v_70 (r_130) hm_74 (hd_t (hd_t (hd_u W9 hLx hkx hd_71 hI_139 (Or.inr (Or.inl ⟨(ro_a hb_2k (by decide) hb_2o hkx rfl), by decide⟩))) ex_142) ex_155) (hl_fq W9 hLx hkx (hl_fq W9 hLx hkx (hl_u W9 hLx hkx hl_72 hI_139 ⟨(ro_a hb_2k (by decide) hb_2o hkx rfl), by decide⟩) hFI_143 (by decide)) hFI_156 (by decide)) (gh_mv W9 hLx hkx (gh_mv W9 hLx hkx (gh_u W9 hLx hkx gh_73 hI_139 ⟨(ro_a hb_2k (by decide) hb_2o hkx rfl), by decide, by decide⟩) ex_142 hFI_143 (by decide)) ex_155 hFI_156 (by decide)) (ex_132 n_137)
        · skip
          have r_161 := (⟨(rx_132).1, (eq_rg (h_136) rc_0).2⟩ : Rg 0 0 x_132)
          refine g_goto C (tgt := 222) dX12_orderFrom_142 (by decide) ?_
          refine g_lo (is := [0, 1, 2, 3]) (lo2 := [(0, .ref x), (1, .int a0), (2, .int a1), (3, .int v_70)]) rfl ?_
          exact j_222 I_63 J_64 hU_65 hF_66 hG_67 (r_68) (n_69) v_70 (r_130) hm_74 hd_71 hl_72 gh_73
  refine g_iload_n C 2 dX12_orderFrom_0 rfl rfl ?_
  refine g_if_ne C (tgt := 88) dX12_orderFrom_1 (by decide) (fun h_162 => ?_) (fun h_162 => ?_)
  · skip
    have n_163 : ¬ a1 = 0 := h_162
    have r_164 := ne_lo (lo := 1) n_163 ra1 rc_0 rfl (by decide)
    refine g_iconst C (v := 0) dX12_orderFrom_88 (by decide) ?_
    refine g_istore_n C dX12_orderFrom_89 rfl (by decide) (lo2 := [(3, .int 0), (0, .ref x), (1, .int a0), (2, .int a1)]) rfl ?_
    refine g_lo (is := [1, 2, 3, 0]) (lo2 := [(0, .ref x), (1, .int a0), (2, .int a1), (3, .int 0)]) rfl ?_
    have ex_90 : ∀ (I_166 : Nat → Nat → Int32) (hI_166 : I_166 = cpn_ I b_3 b_1 (72) (0) 75) (v_165 : Int32) (rv_165 : Rg 75 75 v_165), WG p l e { frames := 10, cells := 0, slots := 0, locals := 240 } s m ([.ref x, .int a0, .int a1] : List Value).toArray below meth c 5 0 0 (MQ below (Qv_ D cy L κ ln R (fun I2 J2 => Iw L κ R ow I2 ∧ Fq L κ ow [1230, 83400, 84600, 84700, 84800] I I2 ∧ Fq L κ ow [] J J2 ∧ (Hd_ R x I I2) ∧ (Hl_ R x I I2 0))) ([.ref x, .int a0, .int a1] : List Value).toArray s 0 0 (Al_ L)) D cy (Al_ L) s.heap L κ ln R I_166 J 122 [(0, .ref x), (1, .int a0), (2, .int a1), (3, .int v_165)] [] := by
      intro I_166 hI_166 v_165 rv_165
      have hF_167 := fq_cpn hF hI_166 (ro_a hb_1k (by decide) hb_1o hkx rfl) (by decide) (by decide)
      have hU_168 := uw_cpn hU.1 hb_3L hI_166 (ro_a hb_1k (by decide) hb_1o hkx rfl) (ro_a hb_3k (by decide) hb_3o hkx rfl) (fun i hi => by rw [bn_848, bn_834, show (0 + i) % 75 = i by omega]; exact ⟨Int.le_refl _, Int.le_refl _⟩)
      have hU_169 := iw_cpo W9 hU.2 hU_168 hI_166 (ro_a hb_1k (by decide) hb_1o hkx rfl) (fun _ => rfl)
      refine g_iconst C (v := 0) dX12_orderFrom_122 (by decide) ?_
      refine g_istore_n C dX12_orderFrom_123 rfl (by decide) (lo2 := [(3, .int 0), (0, .ref x), (1, .int a0), (2, .int a1)]) rfl ?_
      refine g_lo (is := [1, 2, 3, 0]) (lo2 := [(0, .ref x), (1, .int a0), (2, .int a1), (3, .int 0)]) rfl ?_
      exact l_124 8 I_166 J hU_169 hF_167 hG (r_164) (n_163) 0 (rg_w rc_0 (by decide) (by decide)) (hd_c (r := 848) W9 hLx hkx hd_rf hI_166 (Or.inl ⟨(ro_a hb_1k (by decide) hb_1o hkx rfl), by decide⟩)) (hl_c (r := 0) W9 hLx hkx hl_rf hI_166 (Or.inr (Nat.le_refl _))) (gh_lay W9 hU.2 hLx hkx hb_3 hb_1 hI_166) (ms_s (a := 0) (b := 7) (N := 8) (rg_w rc_0 (by decide) (by decide)) (by decide))
    have l_90 : ∀ (m_90 : Nat) (v_170 : Int32) (I_171 : Nat → Nat → Int32), v_170.toInt + (m_90 : Int) = 75 → 0 ≤ v_170.toInt → I_171 = cpn_ I b_3 b_1 (72) (0) v_170.toNatClampNeg → WG p l e { frames := 10, cells := 0, slots := 0, locals := 240 } s m ([.ref x, .int a0, .int a1] : List Value).toArray below meth c 5 0 0 (MQ below (Qv_ D cy L κ ln R (fun I2 J2 => Iw L κ R ow I2 ∧ Fq L κ ow [1230, 83400, 84600, 84700, 84800] I I2 ∧ Fq L κ ow [] J J2 ∧ (Hd_ R x I I2) ∧ (Hl_ R x I I2 0))) ([.ref x, .int a0, .int a1] : List Value).toArray s 0 0 (Al_ L)) D cy (Al_ L) s.heap L κ ln R I_171 J 90 [(0, .ref x), (1, .int a0), (2, .int a1), (3, .int v_170)] [] := by
      intro m_90
      induction m_90 with
      | zero =>
        intro v_170 I_171 hk_90 h0_90 hI_171
        have rv_170 : Rg 75 75 v_170 := by unfold Rg; omega
        refine g_iload_n C 3 dX12_orderFrom_90 rfl rfl ?_
        refine g_bipush C (v := 75) dX12_orderFrom_91 (by decide) ?_
        refine g_icmp_ge C (tgt := 122) dX12_orderFrom_93 (by decide) (fun h_172 => ?_) (fun h_172 => ?_)
        · skip
          refine g_lo (is := [0, 1, 2, 3]) (lo2 := [(0, .ref x), (1, .int a0), (2, .int a1), (3, .int v_170)]) rfl ?_
          exact ex_90 I_171 (hI_171.trans (congrArg (fun q => cpn_ I b_3 b_1 (72) (0) q) (show v_170.toNatClampNeg = 75 from by have := ix_n rv_170 (by decide); have := rv_170.1; have := rv_170.2; omega))) v_170 rv_170
        · skip
          have r_173 := lt_l (hi := 74) (nle h_172) rv_170 rc_75 (by decide)
          exact rg_no r_173 (by decide)
      | succ m_90 ih_90 =>
        intro v_170 I_171 hk_90 h0_90 hI_171
        have rv_170 : Rg 0 74 v_170 := by unfold Rg; omega
        refine g_iload_n C 3 dX12_orderFrom_90 rfl rfl ?_
        refine g_bipush C (v := 75) dX12_orderFrom_91 (by decide) ?_
        refine g_icmp_ge C (tgt := 122) dX12_orderFrom_93 (by decide) (fun h_174 => ?_) (fun h_174 => ?_)
        · skip
          have r_175 := le_r (h_174) rc_75 rv_170
          exact rg_no r_175 (by decide)
        · skip
          refine g_aload_n C 0 dX12_orderFrom_96 rfl rfl ?_
          refine g_getR C K hLx hkx f_12_48 hb_1 dX12_orderFrom_97 ?_
          refine g_bipush C (v := 75) dX12_orderFrom_100 (by decide) ?_
          refine g_iload_n C 1 dX12_orderFrom_102 rfl rfl ?_
          obtain ⟨x_176, hx_176, rx_176, tx_176⟩ := ex_mulT 0 0 rc_75 ra0 (by decide) (by decide) (by decide) (by decide) (by decide)
          refine g_imul C (v := x_176) dX12_orderFrom_103 hx_176 ?_
          refine g_iload_n C 3 dX12_orderFrom_104 rfl rfl ?_
          obtain ⟨x_177, hx_177, rx_177, tx_177⟩ := ex_add 0 74 rx_176 rv_170 (by decide) (by decide) (by decide) (by decide)
          refine g_iadd C (v := x_177) dX12_orderFrom_105 hx_177 ?_
          refine g_aload_n C 0 dX12_orderFrom_106 rfl rfl ?_
          refine g_getR C K hLx hkx f_12_13 hb_3 dX12_orderFrom_107 ?_
          refine g_bipush C (v := 72) dX12_orderFrom_110 (by decide) ?_
          refine g_iload_n C 3 dX12_orderFrom_112 rfl rfl ?_
          obtain ⟨x_178, hx_178, rx_178, tx_178⟩ := ex_add 72 146 rc_72 rv_170 (by decide) (by decide) (by decide) (by decide)
          refine g_iadd C (v := x_178) dX12_orderFrom_113 hx_178 ?_
          obtain ⟨x_179, hx_179, rx_179⟩ := ex_any (z0 := I_171 b_3 (x_178.toNatClampNeg))
          refine h_iald C K hb_3L hb_3k (v := x_179) (x_178.toNatClampNeg) (rfl) (ix_0 rx_178 (by decide)) (ix_lt rx_178 (by decide) hb_3n (by decide)) hx_179 dX12_orderFrom_114 ?_
          refine h_iast C K hb_1L hb_1k (x_177.toNatClampNeg) (rfl) (ix_0 rx_177 (by decide)) (ix_lt rx_177 (by decide) hb_1n (by decide)) dX12_orderFrom_115 (fun I_180 hI_180 => ?_)
          obtain ⟨x_181, hx_181, rx_181, tx_181⟩ := ex_add (y := 1) 1 75 rv_170 rc_1 (by decide) (by decide) (by decide) (by decide)
          refine g_iinc C dX12_orderFrom_116 (k := 3) (v := x_181) rfl hx_181 (by decide) (lo2 := [(3, .int x_181), (0, .ref x), (1, .int a0), (2, .int a1)]) rfl ?_
          refine g_goto C (tgt := 90) dX12_orderFrom_119 (by decide) ?_
          refine g_lo (is := [1, 2, 3, 0]) (lo2 := [(0, .ref x), (1, .int a0), (2, .int a1), (3, .int x_181)]) rfl ?_
          have kk_90 : x_181.toNatClampNeg = v_170.toNatClampNeg + 1 := by have q1 := ix_n rv_170 (by decide); have q2 := (ti_k tx_181 rc_1); have q3 : x_181.toNatClampNeg = x_181.toInt.toNat := rfl; omega
          exact ih_90 x_181 I_180 (by have := (ti_k tx_181 rc_1); omega) (by have := (ti_k tx_181 rc_1); omega) (by rw [kk_90]; exact cpn_s hI_171 hx_179 hI_180 (show x_178.toNatClampNeg = (72) + v_170.toNatClampNeg from by rw [nx_a tx_178 rc_72 rv_170 (by decide)]; simp only [show (72 : Int32).toNatClampNeg = 72 from rfl] <;> omega) (show x_177.toNatClampNeg = (0) + v_170.toNatClampNeg from by rw [nx_a tx_177 rx_176 rv_170 (by decide), nx_m (k := 75) tx_176 ra0 (by decide)] <;> omega) (Or.inl (ne_ro (ro_a hb_3k (by decide) hb_3o hkx rfl) (ro_a hb_1k (by decide) hb_1o hkx rfl) (by decide))))
    exact l_90 75 0 I (by decide) (by decide) cpn_0
  · skip
    have r_182 := (⟨(ra1).1, (eq_rg (h_162) rc_0).2⟩ : Rg 0 0 a1)
    refine g_iconst C (v := 0) dX12_orderFrom_4 (by decide) ?_
    refine g_istore_n C dX12_orderFrom_5 rfl (by decide) (lo2 := [(3, .int 0), (0, .ref x), (1, .int a0), (2, .int a1)]) rfl ?_
    refine g_iconst C (v := 0) dX12_orderFrom_6 (by decide) ?_
    refine g_istore C dX12_orderFrom_7 (by decide) (lo2 := [(4, .int 0), (3, .int 0), (0, .ref x), (1, .int a0), (2, .int a1)]) rfl ?_
    refine g_lo (is := [2, 3, 4, 1, 0]) (lo2 := [(0, .ref x), (1, .int a0), (2, .int a1), (3, .int 0), (4, .int 0)]) rfl ?_
    exact l_9 8 I J hU hF hG (r_182) 0 0 (rg_w rc_0 (by decide) (by decide)) hd_rf hl_rf (ms_s (a := 0) (b := 7) (N := 8) (rg_w rc_0 (by decide) (by decide)) (by decide))
set_option maxRecDepth 100000 in
set_option maxHeartbeats 8000000 in
theorem c_X12_order {l : Launch} {D : va_G} {cy : Nat → ClassId} {L : List Nat} {κ ln : Nat → Nat} {R : Nat → Nat → Option Nat} {I : Nat → Nat → Int32} {J : Nat → Nat → Int64} {ow : Nat → Nat × Nat} (W9 : ∀ a ∈ L, Shp L κ ln R ow a) {x : Nat} (hLx : x ∈ L) (hkx : κ x = 12) (hU : Iw L κ R ow I) : CtI l yX12_order cX12_order 1 (some .int) { frames := 11, cells := 0, slots := 0, locals := 264 } D cy L κ ln R I J [.ref x] (fun r I2 J2 => Iw L κ R ow I2 ∧ Fq L κ ow [1200, 1229, 1230, 83400, 84600, 84700, 84800] I I2 ∧ Fq L κ ow [] J J2 ∧ Rg (-2147483648) 2147483647 r ∧ (Hd_ R x I I2)) := by
  refine CtI.of (by decide +kernel) (Nat.le_of_ble_eq_true rfl) ?_
  intro p e s m below meth c B K
  have C := B.1
  have hF : Fq L κ ow [1200, 1229, 1230, 83400, 84600, 84700, 84800] I I := fq_rf
  have hG : Fq L κ ow [] J J := fq_rf
  refine g_lo (is := [0]) (lo2 := [(0, .ref x)]) rfl ?_
  refine g_aload_n C 0 dX12_order_0 rfl rfl ?_
  refine g_iconst C (v := 0) dX12_order_1 (by decide) ?_
  refine h_putI C K hLx hkx f_12_82 p_12_0 dX12_order_2 (fun I_1 hI_1 => ?_)
  have hU_2 := iw_put W9 hU hI_1 (ro_o hkx (by decide)) (lo := (-2147483648)) (hi := 2147483647) (rfl) (rg_all _) rfl
  have hF_3 := fq_puto hF hI_1 hkx (by decide) (by decide)
  refine g_aload_n C 0 dX12_order_5 rfl rfl ?_
  refine g_ldcw C k_SecondHelpingsModel_308 dX12_order_6 ?_
  refine h_putI C K hLx hkx f_12_298 p_12_30 dX12_order_9 (fun I_4 hI_4 => ?_)
  have hU_5 := iw_put W9 hU_2 hI_4 (ro_o hkx (by decide)) (lo := (-2147483648)) (hi := 2147483647) (rfl) (rg_all _) rfl
  have hF_6 := fq_puto hF_3 hI_4 hkx (by decide) (by decide)
  refine g_aload_n C 0 dX12_order_12 rfl rfl ?_
  refine g_aload_n C 0 dX12_order_13 rfl rfl ?_
  refine g_callVI C K (c_X12_living W9 hLx hkx   hU_5) hLx hkx (by decide) rfl v_12_309 rfl ⟨rfl, rfl⟩ ⟨Nat.le_of_ble_eq_true rfl, Nat.le_of_ble_eq_true rfl⟩ (Nat.le_of_ble_eq_true rfl) ⟨Nat.le_of_ble_eq_true rfl, Nat.le_of_ble_eq_true rfl⟩ dX12_order_14 rfl (st := [.ref x]) (fun x_7 I_8 J_9 h_10 => ?_)
  obtain ⟨rfl, rfl, rx_7⟩ := h_10
  refine g_callSI C K (c_X12_bits W9 x_7 (rx_7) hU_5) s_12_312 rfl ⟨rfl, rfl⟩ ⟨Nat.le_of_ble_eq_true rfl, Nat.le_of_ble_eq_true rfl⟩ (Nat.le_of_ble_eq_true rfl) ⟨Nat.le_of_ble_eq_true rfl, Nat.le_of_ble_eq_true rfl⟩ dX12_order_17 rfl (st := [.ref x]) (fun x_11 I_12 J_13 h_14 => ?_)
  obtain ⟨rfl, rfl, rx_11⟩ := h_14
  refine h_putI C K hLx hkx f_12_315 p_12_29 dX12_order_20 (fun I_15 hI_15 => ?_)
  have hU_16 := iw_put W9 hU_5 hI_15 (ro_o hkx (by decide)) (lo := 0) (hi := 7) (rfl) (rx_11) rfl
  have hF_17 := fq_puto hF_6 hI_15 hkx (by decide) (by decide)
  refine g_aload_n C 0 dX12_order_23 rfl rfl ?_
  refine g_iconst C (v := 0) dX12_order_24 (by decide) ?_
  refine g_aload_n C 0 dX12_order_25 rfl rfl ?_
  refine g_callVI C K (c_X12_living W9 hLx hkx   hU_16) hLx hkx (by decide) rfl v_12_309 rfl ⟨rfl, rfl⟩ ⟨Nat.le_of_ble_eq_true rfl, Nat.le_of_ble_eq_true rfl⟩ (Nat.le_of_ble_eq_true rfl) ⟨Nat.le_of_ble_eq_true rfl, Nat.le_of_ble_eq_true rfl⟩ dX12_order_26 rfl (st := [.int 0, .ref x]) (fun x_18 I_19 J_20 h_21 => ?_)
  obtain ⟨rfl, rfl, rx_18⟩ := h_21
  refine g_callVV C K (c_X12_orderFrom_0 W9 hLx hkx 0 x_18 (rc_0) (rx_18) hU_16  ((bc_0 (rx_18)).2)) hLx hkx (by decide) rfl v_12_304 rfl ⟨rfl, rfl⟩ ⟨Nat.le_of_ble_eq_true rfl, Nat.le_of_ble_eq_true rfl⟩ (Nat.le_of_ble_eq_true rfl) ⟨Nat.le_of_ble_eq_true rfl, Nat.le_of_ble_eq_true rfl⟩ dX12_order_29 rfl (st := []) (fun I_23 J_24 h_25 => ?_)
  obtain ⟨hUI_23, hFI_23, hGJ_24, ex_22⟩ := h_25
  have hF_26 := fq_tr hF_17 hFI_23 (by decide)
  have hG_27 := fq_tr hG hGJ_24 (by decide)
  refine g_aload_n C 0 dX12_order_32 rfl rfl ?_
  obtain ⟨x_28, hx_28, rx_28⟩ := ex_getw (I := I_23) (a := x) (j := 30) (lo := (-2147483648)) (hi := 2147483647) hUI_23.1 hLx (ro_o hkx (by decide)) rfl
  refine g_getI C K hLx hkx f_12_298 (v := x_28) hx_28 dX12_order_33 ?_
  exact g_zret (ty := .int) (r := x_28) B K rfl (rfl) ⟨hUI_23, hF_26, hG_27, rx_28, (hd_t (hd_u (r := 0) W9 hLx hkx (hd_u (r := 0) W9 hLx hkx (hd_u (r := 0) W9 hLx hkx hd_rf hI_1 (Or.inl (ro_o hkx (by decide)))) hI_4 (Or.inl (ro_o hkx (by decide)))) hI_15 (Or.inl (ro_o hkx (by decide)))) ex_22.1)⟩ dX12_order_36
set_option maxRecDepth 100000 in
set_option maxHeartbeats 8000000 in
theorem c_X12_orderAt {l : Launch} {D : va_G} {cy : Nat → ClassId} {L : List Nat} {κ ln : Nat → Nat} {R : Nat → Nat → Option Nat} {I : Nat → Nat → Int32} {J : Nat → Nat → Int64} {ow : Nat → Nat × Nat} (W9 : ∀ a ∈ L, Shp L κ ln R ow a) {x : Nat} (hLx : x ∈ L) (hkx : κ x = 12) (a0 : Int32) (hU : Iw L κ R ow I) : CtI l yX12_orderAt cX12_orderAt 2 (some .int) { frames := 1, cells := 0, slots := 0, locals := 22 } D cy L κ ln R I J [.ref x, .int a0] (fun r I2 J2 => Iw L κ R ow I2 ∧ Fq L κ ow [1200] I I2 ∧ Fq L κ ow [] J J2 ∧ Rg (-2147483648) 2147483647 r) := by
  refine CtI.of (by decide +kernel) (Nat.le_of_ble_eq_true rfl) ?_
  intro p e s m below meth c B K
  have C := B.1
  have hF : Fq L κ ow [1200] I I := fq_rf
  have hG : Fq L κ ow [] J J := fq_rf
  obtain ⟨b_1, hb_1, hb_1L, hb_1k, hb_1n, hb_1o⟩ := shp_a (W9 x hLx) hkx 27 14 7 rfl (by decide)
  refine g_lo (is := [0, 1]) (lo2 := [(0, .ref x), (1, .int a0)]) rfl ?_
  refine g_aload_n C 0 dX12_orderAt_0 rfl rfl ?_
  refine g_iconst C (v := 0) dX12_orderAt_1 (by decide) ?_
  refine h_putI C K hLx hkx f_12_82 p_12_0 dX12_orderAt_2 (fun I_2 hI_2 => ?_)
  have hU_3 := iw_put W9 hU hI_2 (ro_o hkx (by decide)) (lo := (-2147483648)) (hi := 2147483647) (rfl) (rg_all _) rfl
  have hF_4 := fq_puto hF hI_2 hkx (by decide) (by decide)
  refine g_iload_n C 1 dX12_orderAt_5 rfl rfl ?_
  refine g_iconst C (v := 0) dX12_orderAt_6 (by decide) ?_
  refine g_aload_n C 0 dX12_orderAt_7 rfl rfl ?_
  obtain ⟨x_5, hx_5, rx_5⟩ := ex_getw (I := I_2) (a := x) (j := 29) (lo := 0) (hi := 7) hU_3.1 hLx (ro_o hkx (by decide)) rfl
  refine g_getI C K hLx hkx f_12_315 (v := x_5) hx_5 dX12_orderAt_8 ?_
  refine g_iconst C (v := 1) dX12_orderAt_11 (by decide) ?_
  obtain ⟨x_6, hx_6, rx_6, tx_6⟩ := ex_sub (-1) 6 rx_5 rc_1 (by decide) (by decide) (by decide) (by decide)
  refine g_isub C (v := x_6) dX12_orderAt_12 hx_6 ?_
  refine g_callSI C K (c_X12_isIn W9 a0 0 x_6 (rg_w rc_0 (by decide) (by decide)) (rg_w rx_6 (by decide) (by decide)) hU_3) s_12_149 rfl ⟨rfl, rfl⟩ ⟨Nat.le_of_ble_eq_true rfl, Nat.le_of_ble_eq_true rfl⟩ (Nat.le_of_ble_eq_true rfl) ⟨Nat.le_of_ble_eq_true rfl, Nat.le_of_ble_eq_true rfl⟩ dX12_orderAt_13 rfl (st := []) (fun x_7 I_8 J_9 h_10 => ?_)
  obtain ⟨rfl, rfl, rx_7, fx_7, ex_7⟩ := h_10
  refine g_if_eq C (tgt := 28) dX12_orderAt_16 (by decide) (fun h_11 => ?_) (fun h_11 => ?_)
  · skip
    have r_12 := (⟨(rx_7).1, (eq_rg (h_11) rc_0).2⟩ : Rg 0 0 x_7)
    refine g_iconst C (v := (-1)) dX12_orderAt_28 (by decide) ?_
    exact g_zret (ty := .int) (r := (-1)) B K rfl (rfl) ⟨hU_3, hF_4, hG, rg_all _⟩ dX12_orderAt_29
  · skip
    have n_13 : ¬ x_7 = 0 := h_11
    have r_14 := ne_lo (lo := 1) n_13 rx_7 rc_0 rfl (by decide)
    have r_15 := le_r (((ex_7.1) n_13)) rc_0 (rg_all a0)
    have r_16 := le_l (((ex_7.2) n_13)) r_15 rx_6
    have r_17 := le_r (((ex_7.2) n_13)) r_15 rx_6
    have r_18 := rg_der (k := (-1)) (lo := 1) (hi := 7) (ti_s tx_6 rc_1 (by decide)) r_17 rx_5 (by decide) (by decide)
    refine g_aload_n C 0 dX12_orderAt_19 rfl rfl ?_
    refine g_getR C K hLx hkx f_12_45 hb_1 dX12_orderAt_20 ?_
    refine g_iload_n C 1 dX12_orderAt_23 rfl rfl ?_
    obtain ⟨x_19, hx_19, rx_19⟩ := ex_any (z0 := I_2 b_1 (a0.toNatClampNeg))
    refine h_iald C K hb_1L hb_1k (v := x_19) (a0.toNatClampNeg) (rfl) (ix_0 r_16 (by decide)) (ix_lt r_16 (by decide) hb_1n (by decide)) hx_19 dX12_orderAt_24 ?_
    refine g_goto C (tgt := 29) dX12_orderAt_25 (by decide) ?_
    exact g_zret (ty := .int) (r := x_19) B K rfl (rfl) ⟨hU_3, hF_4, hG, rx_19⟩ dX12_orderAt_29
set_option maxRecDepth 100000 in
set_option maxHeartbeats 8000000 in
theorem c_X12_size {l : Launch} {D : va_G} {cy : Nat → ClassId} {L : List Nat} {κ ln : Nat → Nat} {R : Nat → Nat → Option Nat} {I : Nat → Nat → Int32} {J : Nat → Nat → Int64} {ow : Nat → Nat × Nat} (W9 : ∀ a ∈ L, Shp L κ ln R ow a) (a0 : Int32) (hU : Iw L κ R ow I) : CtI l yX12_size cX12_size 1 (some .int) { frames := 0, cells := 0, slots := 0, locals := 0 } D cy L κ ln R I J [.int a0] (fun r I2 J2 => I = I2 ∧ J = J2 ∧ Rg (-2147483648) 2147483647 r) := by
  refine CtI.of (by decide +kernel) (Nat.le_of_ble_eq_true rfl) ?_
  intro p e s m below meth c B K
  have C := B.1
  refine g_lo (is := [0]) (lo2 := [(0, .int a0)]) rfl ?_
  refine g_iload_n C 0 dX12_size_0 rfl rfl ?_
  refine g_if_ge C (tgt := 9) dX12_size_1 (by decide) (fun h_1 => ?_) (fun h_1 => ?_)
  · skip
    have r_2 := le_r (h_1) rc_0 (rg_all a0)
    refine g_iload_n C 0 dX12_size_9 rfl rfl ?_
    exact g_zret (ty := .int) (r := a0) B K rfl (rfl) ⟨rfl, rfl, rg_all _⟩ dX12_size_10
  · skip
    have r_3 := lt_l (hi := (-1)) (nle h_1) (rg_all a0) rc_0 (by decide)
    refine g_iload_n C 0 dX12_size_4 rfl rfl ?_
    obtain ⟨x_4, hx_4, rx_4⟩ := ex_any (z0 := -a0)
    refine g_ineg C (v := x_4) dX12_size_5 hx_4 ?_
    refine g_goto C (tgt := 10) dX12_size_6 (by decide) ?_
    exact g_zret (ty := .int) (r := x_4) B K rfl (rfl) ⟨rfl, rfl, rx_4⟩ dX12_size_10
set_option maxRecDepth 100000 in
set_option maxHeartbeats 8000000 in
theorem c_X12_eaters {l : Launch} {D : va_G} {cy : Nat → ClassId} {L : List Nat} {κ ln : Nat → Nat} {R : Nat → Nat → Option Nat} {I : Nat → Nat → Int32} {J : Nat → Nat → Int64} {ow : Nat → Nat × Nat} (W9 : ∀ a ∈ L, Shp L κ ln R ow a) {x : Nat} (hLx : x ∈ L) (hkx : κ x = 12) (hU : Iw L κ R ow I) : CtI l yX12_eaters cX12_eaters 6 (some .int) { frames := 2, cells := 0, slots := 0, locals := 43 } D cy L κ ln R I J [.ref x] (fun r I2 J2 => Iw L κ R ow I2 ∧ Fq L κ ow [1200, 1202, 1232, 1233, 85100] I I2 ∧ Fq L κ ow [] J J2 ∧ Rg (-2147483648) 2147483647 r) := by
  refine CtI.of (by decide +kernel) (Nat.le_of_ble_eq_true rfl) ?_
  intro p e s m below meth c B K
  have C := B.1
  have hF : Fq L κ ow [1200, 1202, 1232, 1233, 85100] I I := fq_rf
  have hG : Fq L κ ow [] J J := fq_rf
  obtain ⟨b_1, hb_1, hb_1L, hb_1k, hb_1n, hb_1o⟩ := shp_a (W9 x hLx) hkx 31 14 7 rfl (by decide)
  obtain ⟨b_2, hb_2, hb_2L, hb_2k, hb_2n, hb_2o⟩ := shp_a (W9 x hLx) hkx 1 14 940 rfl (by decide)
  obtain ⟨b_3, hb_3, hb_3L, hb_3k, hb_3n, hb_3o⟩ := shp_a (W9 x hLx) hkx 14 14 389 rfl (by decide)
  refine g_lo (is := [0]) (lo2 := [(0, .ref x)]) rfl ?_
  have l_202 : ∀ (n_202 : Nat) (I_4 : Nat → Nat → Int32) (J_5 : Nat → Nat → Int64) (hU_6 : Iw L κ R ow I_4) (hF_7 : Fq L κ ow [1200, 1202, 1232, 1233, 85100] I I_4) (hG_8 : Fq L κ ow [] J J_5) (v_9 : Int32) (nv_9_0 : ¬ v_9 = 0) (v_10 : Int32) (rv_10 : Rg 0 127 v_10) (v_11 : Int32) (rv_11 : Rg 0 7 v_11) (v_12 : Int32) (rv_12 : Rg (-1) 6 v_12) (v_13 : Int32) (rv_13 : Rg 0 5 v_13) (q_14 : I_4 x 0 = 0) (q_15 : I_4 x 32 = v_10) (q_16 : I_4 x 33 = v_12) (q_17 : I_4 b_2 0 = v_13) (hm_18 : 7 < (v_11 : Int32).toInt + (n_202 : Int)), WG p l e { frames := 2, cells := 0, slots := 0, locals := 43 } s m ([.ref x] : List Value).toArray below meth c 6 0 0 (MQ below (Qi_ D cy L κ ln R (fun r I2 J2 => Iw L κ R ow I2 ∧ Fq L κ ow [1200, 1202, 1232, 1233, 85100] I I2 ∧ Fq L κ ow [] J J2 ∧ Rg (-2147483648) 2147483647 r)) ([.ref x] : List Value).toArray s 0 0 (Al_ L)) D cy (Al_ L) s.heap L κ ln R I_4 J_5 202 [(0, .ref x), (1, .int v_9), (2, .int v_10), (3, .int v_11)] [] := by
    intro n_202
    induction n_202 with
    | zero =>
      intro I_4 J_5 hU_6 hF_7 hG_8 v_9 nv_9_0 v_10 rv_10 v_11 rv_11 v_12 rv_12 v_13 rv_13 q_14 q_15 q_16 q_17 hm_18
      exact ms_0 rv_11 hm_18
    | succ n_202 ih_202 =>
      intro I_4 J_5 hU_6 hF_7 hG_8 v_9 nv_9_0 v_10 rv_10 v_11 rv_11 v_12 rv_12 v_13 rv_13 q_14 q_15 q_16 q_17 hm_18
      have j_257 : ∀ (I_19 : Nat → Nat → Int32) (J_20 : Nat → Nat → Int64) (hU_21 : Iw L κ R ow I_19) (hF_22 : Fq L κ ow [1200, 1202, 1232, 1233, 85100] I I_19) (hG_23 : Fq L κ ow [] J J_20) (v_24 : Int32) (nv_24_0 : ¬ v_24 = 0) (v_25 : Int32) (rv_25 : Rg 0 127 v_25) (v_26 : Int32) (rv_26 : Rg 0 6 v_26) (v_27 : Int32) (rv_27 : Rg 0 6 v_27) (nv_27_m1 : ¬ v_27 = (-1)) (v_28 : Int32) (rv_28 : Rg 0 5 v_28) (q_29 : I_19 x 0 = 0) (q_30 : I_19 x 32 = v_25) (q_31 : I_19 x 33 = v_27) (q_32 : I_19 b_2 0 = v_28) (hm_33 : 7 < (v_26 : Int32).toInt + ((n_202 + 1 : Nat) : Int)), WG p l e { frames := 2, cells := 0, slots := 0, locals := 43 } s m ([.ref x] : List Value).toArray below meth c 6 0 0 (MQ below (Qi_ D cy L κ ln R (fun r I2 J2 => Iw L κ R ow I2 ∧ Fq L κ ow [1200, 1202, 1232, 1233, 85100] I I2 ∧ Fq L κ ow [] J J2 ∧ Rg (-2147483648) 2147483647 r)) ([.ref x] : List Value).toArray s 0 0 (Al_ L)) D cy (Al_ L) s.heap L κ ln R I_19 J_20 257 [(0, .ref x), (1, .int v_24), (2, .int v_25), (3, .int v_26)] [] := by
        intro I_19 J_20 hU_21 hF_22 hG_23 v_24 nv_24_0 v_25 rv_25 v_26 rv_26 v_27 rv_27 nv_27_m1 v_28 rv_28 q_29 q_30 q_31 q_32 hm_33
        obtain ⟨x_34, hx_34, rx_34, tx_34⟩ := ex_add (y := 1) 1 7 rv_26 rc_1 (by decide) (by decide) (by decide) (by decide)
        refine g_iinc C dX12_eaters_257 (k := 3) (v := x_34) rfl hx_34 (by decide) (lo2 := [(3, .int x_34), (0, .ref x), (1, .int v_24), (2, .int v_25)]) rfl ?_
        refine g_goto C (tgt := 202) dX12_eaters_260 (by decide) ?_
        refine g_lo (is := [1, 2, 3, 0]) (lo2 := [(0, .ref x), (1, .int v_24), (2, .int v_25), (3, .int x_34)]) rfl ?_
        exact ih_202 I_19 J_20 hU_21 hF_22 hG_23 v_24 (nv_24_0) v_25 (rv_25) x_34 (rg_w rx_34 (by decide) (by decide)) v_27 (rg_w rv_27 (by decide) (by decide)) v_28 (rv_28) q_29 q_30 q_31 q_32 (ms_1 hm_33 (ti_k tx_34 rc_1) (by decide))
      have j_252 : ∀ (I_35 : Nat → Nat → Int32) (J_36 : Nat → Nat → Int64) (hU_37 : Iw L κ R ow I_35) (hF_38 : Fq L κ ow [1200, 1202, 1232, 1233, 85100] I I_35) (hG_39 : Fq L κ ow [] J J_36) (v_40 : Int32) (nv_40_0 : ¬ v_40 = 0) (v_41 : Int32) (rv_41 : Rg 0 127 v_41) (v_42 : Int32) (rv_42 : Rg 0 6 v_42) (v_43 : Int32) (rv_43 : Rg (-1) 6 v_43) (v_44 : Int32) (rv_44 : Rg 0 5 v_44) (q_45 : I_35 x 0 = 0) (q_46 : I_35 x 32 = v_41) (q_47 : I_35 x 33 = v_43) (q_48 : I_35 b_2 0 = v_44) (hm_49 : 7 < (v_42 : Int32).toInt + ((n_202 + 1 : Nat) : Int)), WG p l e { frames := 2, cells := 0, slots := 0, locals := 43 } s m ([.ref x] : List Value).toArray below meth c 6 0 0 (MQ below (Qi_ D cy L κ ln R (fun r I2 J2 => Iw L κ R ow I2 ∧ Fq L κ ow [1200, 1202, 1232, 1233, 85100] I I2 ∧ Fq L κ ow [] J J2 ∧ Rg (-2147483648) 2147483647 r)) ([.ref x] : List Value).toArray s 0 0 (Al_ L)) D cy (Al_ L) s.heap L κ ln R I_35 J_36 252 [(0, .ref x), (1, .int v_40), (2, .int v_41), (3, .int v_42)] [] := by
        intro I_35 J_36 hU_37 hF_38 hG_39 v_40 nv_40_0 v_41 rv_41 v_42 rv_42 v_43 rv_43 v_44 rv_44 q_45 q_46 q_47 q_48 hm_49
        refine g_aload_n C 0 dX12_eaters_252 rfl rfl ?_
        refine g_iload_n C 3 dX12_eaters_253 rfl rfl ?_
        refine h_putI C K hLx hkx f_12_58 p_12_33 dX12_eaters_254 (fun I_50 hI_50 => ?_)
        have hU_51 := iw_put W9 hU_37 hI_50 (ro_o hkx (by decide)) (lo := (-2147483648)) (hi := 2147483647) (rfl) (rg_all _) rfl
        have hF_52 := fq_puto hF_38 hI_50 hkx (by decide) (by decide)
        refine g_lo (is := [0, 1, 2, 3]) (lo2 := [(0, .ref x), (1, .int v_40), (2, .int v_41), (3, .int v_42)]) rfl ?_
        exact j_257 I_50 J_36 hU_51 hF_52 hG_39 v_40 (nv_40_0) v_41 (rv_41) v_42 (rv_42) v_42 (rv_42) (rg_nek rv_42 rc_m1 (by decide)) v_44 (rv_44) (kp_j hI_50 (by decide) q_45) (kp_j hI_50 (by decide) q_46) (kp_s hI_50) (kp_k (κ := κ) hI_50 (by rw [hb_2k, hkx]; decide) q_48) hm_49
      refine g_iload_n C 3 dX12_eaters_202 rfl rfl ?_
      refine g_aload_n C 0 dX12_eaters_203 rfl rfl ?_
      refine g_getR C K hLx hkx f_12_13 hb_3 dX12_eaters_204 ?_
      refine g_iconst C (v := 0) dX12_eaters_207 (by decide) ?_
      obtain ⟨x_53, hx_53, rx_53⟩ := ex_getw (I := I_4) (a := b_3) (j := 0) (lo := 0) (hi := 7) hU_6.1 hb_3L (ro_a hb_3k (by decide) hb_3o hkx rfl) (by decide)
      refine h_iald C K hb_3L hb_3k (v := x_53) (0) (by decide) (by decide) (by rw [hb_3n]; decide) hx_53 dX12_eaters_208 ?_
      refine g_icmp_ge C (tgt := 263) dX12_eaters_209 (by decide) (fun h_54 => ?_) (fun h_54 => ?_)
      · skip
        refine g_iload_n C 1 dX12_eaters_263 rfl rfl ?_
        exact g_zret (ty := .int) (r := v_9) B K rfl (rfl) ⟨hU_6, hF_7, hG_8, (rg_all v_9)⟩ dX12_eaters_264
      · skip
        have r_55 := lt_l (hi := 6) (nle h_54) rv_11 rx_53 (by decide)
        have r_56 := lt_r (lo := 1) (nle h_54) rv_11 rx_53 (by decide)
        refine g_aload_n C 0 dX12_eaters_212 rfl rfl ?_
        refine g_getI C K hLx hkx f_12_58 (v := v_12) q_16 dX12_eaters_213 ?_
        refine g_iconst C (v := (-1)) dX12_eaters_216 (by decide) ?_
        refine g_icmp_eq C (tgt := 252) dX12_eaters_217 (by decide) (fun h_57 => ?_) (fun h_57 => ?_)
        · skip
          have r_58 := (⟨(rv_12).1, (eq_rg (h_57) rc_m1).2⟩ : Rg (-1) (-1) v_12)
          refine g_lo (is := [0, 1, 2, 3]) (lo2 := [(0, .ref x), (1, .int v_9), (2, .int v_10), (3, .int v_11)]) rfl ?_
          exact j_252 I_4 J_5 hU_6 hF_7 hG_8 v_9 (nv_9_0) v_10 (rv_10) v_11 (r_55) v_12 (rg_w r_58 (by decide) (by decide)) v_13 (rv_13) q_14 q_15 q_16 q_17 hm_18
        · skip
          have n_59 : ¬ v_12 = (-1) := h_57
          have r_60 := ne_lo (lo := 0) n_59 rv_12 rc_m1 rfl (by decide)
          refine g_iconst C (v := 2) dX12_eaters_220 (by decide) ?_
          refine g_aload_n C 0 dX12_eaters_221 rfl rfl ?_
          refine g_getR C K hLx hkx f_12_51 hb_1 dX12_eaters_222 ?_
          refine g_iload_n C 3 dX12_eaters_225 rfl rfl ?_
          obtain ⟨x_61, hx_61, rx_61⟩ := ex_any (z0 := I_4 b_1 (v_11.toNatClampNeg))
          refine h_iald C K hb_1L hb_1k (v := x_61) (v_11.toNatClampNeg) (rfl) (ix_0 r_55 (by decide)) (ix_lt r_55 (by decide) hb_1n (by decide)) hx_61 dX12_eaters_226 ?_
          obtain ⟨x_62, hx_62, rx_62⟩ := ex_any (z0 := 2 * x_61)
          refine g_imul C (v := x_62) dX12_eaters_227 hx_62 ?_
          refine g_iload_n C 1 dX12_eaters_228 rfl rfl ?_
          obtain ⟨x_63, hx_63, rx_63⟩ := ex_any (z0 := x_62 - v_9)
          refine g_isub C (v := x_63) dX12_eaters_229 hx_63 ?_
          refine g_callSI C K (c_X12_size W9 x_63  hU_6) s_12_318 rfl ⟨rfl, rfl⟩ ⟨Nat.le_of_ble_eq_true rfl, Nat.le_of_ble_eq_true rfl⟩ (Nat.le_of_ble_eq_true rfl) ⟨Nat.le_of_ble_eq_true rfl, Nat.le_of_ble_eq_true rfl⟩ dX12_eaters_230 rfl (st := []) (fun x_64 I_65 J_66 h_67 => ?_)
          obtain ⟨rfl, rfl, rx_64⟩ := h_67
          refine g_iconst C (v := 2) dX12_eaters_233 (by decide) ?_
          refine g_aload_n C 0 dX12_eaters_234 rfl rfl ?_
          refine g_getR C K hLx hkx f_12_51 hb_1 dX12_eaters_235 ?_
          refine g_aload_n C 0 dX12_eaters_238 rfl rfl ?_
          refine g_getI C K hLx hkx f_12_58 (v := v_12) q_16 dX12_eaters_239 ?_
          obtain ⟨x_68, hx_68, rx_68⟩ := ex_any (z0 := I_4 b_1 (v_12.toNatClampNeg))
          refine h_iald C K hb_1L hb_1k (v := x_68) (v_12.toNatClampNeg) (rfl) (ix_0 r_60 (by decide)) (ix_lt r_60 (by decide) hb_1n (by decide)) hx_68 dX12_eaters_242 ?_
          obtain ⟨x_69, hx_69, rx_69⟩ := ex_any (z0 := 2 * x_68)
          refine g_imul C (v := x_69) dX12_eaters_243 hx_69 ?_
          refine g_iload_n C 1 dX12_eaters_244 rfl rfl ?_
          obtain ⟨x_70, hx_70, rx_70⟩ := ex_any (z0 := x_69 - v_9)
          refine g_isub C (v := x_70) dX12_eaters_245 hx_70 ?_
          refine g_callSI C K (c_X12_size W9 x_70  hU_6) s_12_318 rfl ⟨rfl, rfl⟩ ⟨Nat.le_of_ble_eq_true rfl, Nat.le_of_ble_eq_true rfl⟩ (Nat.le_of_ble_eq_true rfl) ⟨Nat.le_of_ble_eq_true rfl, Nat.le_of_ble_eq_true rfl⟩ dX12_eaters_246 rfl (st := [.int x_64]) (fun x_71 I_72 J_73 h_74 => ?_)
          obtain ⟨rfl, rfl, rx_71⟩ := h_74
          refine g_icmp_ge C (tgt := 257) dX12_eaters_249 (by decide) (fun h_75 => ?_) (fun h_75 => ?_)
          · skip
            refine g_lo (is := [0, 1, 2, 3]) (lo2 := [(0, .ref x), (1, .int v_9), (2, .int v_10), (3, .int v_11)]) rfl ?_
            exact j_257 I_4 J_5 hU_6 hF_7 hG_8 v_9 (nv_9_0) v_10 (rv_10) v_11 (r_55) v_12 (r_60) (n_59) v_13 (rv_13) q_14 q_15 q_16 q_17 hm_18
          · skip
            have r_76 := lt_l (hi := 2147483646) (nle h_75) rx_64 rx_71 (by decide)
            have r_77 := lt_r (lo := (-2147483647)) (nle h_75) rx_64 rx_71 (by decide)
            refine g_lo (is := [0, 1, 2, 3]) (lo2 := [(0, .ref x), (1, .int v_9), (2, .int v_10), (3, .int v_11)]) rfl ?_
            exact j_252 I_4 J_5 hU_6 hF_7 hG_8 v_9 (nv_9_0) v_10 (rv_10) v_11 (r_55) v_12 (rg_w r_60 (by decide) (by decide)) v_13 (rv_13) q_14 q_15 q_16 q_17 hm_18
  have l_64 : ∀ (n_64 : Nat) (I_78 : Nat → Nat → Int32) (J_79 : Nat → Nat → Int64) (hU_80 : Iw L κ R ow I_78) (hF_81 : Fq L κ ow [1200, 1202, 1232, 1233, 85100] I I_78) (hG_82 : Fq L κ ow [] J J_79) (v_83 : Int32) (v_84 : Int32) (rv_84 : Rg 0 127 v_84) (v_85 : Int32) (rv_85 : Rg 0 128 v_85) (v_86 : Int32) (rv_86 : Rg 0 5 v_86) (q_87 : I_78 x 0 = 0) (q_88 : I_78 b_2 0 = v_86) (hm_89 : 128 < (v_85 : Int32).toInt + (n_64 : Int)), WG p l e { frames := 2, cells := 0, slots := 0, locals := 43 } s m ([.ref x] : List Value).toArray below meth c 6 0 0 (MQ below (Qi_ D cy L κ ln R (fun r I2 J2 => Iw L κ R ow I2 ∧ Fq L κ ow [1200, 1202, 1232, 1233, 85100] I I2 ∧ Fq L κ ow [] J J2 ∧ Rg (-2147483648) 2147483647 r)) ([.ref x] : List Value).toArray s 0 0 (Al_ L)) D cy (Al_ L) s.heap L κ ln R I_78 J_79 64 [(0, .ref x), (1, .int v_83), (2, .int v_84), (3, .int v_85)] [] := by
    intro n_64
    induction n_64 with
    | zero =>
      intro I_78 J_79 hU_80 hF_81 hG_82 v_83 v_84 rv_84 v_85 rv_85 v_86 rv_86 q_87 q_88 hm_89
      exact ms_0 rv_85 hm_89
    | succ n_64 ih_64 =>
      intro I_78 J_79 hU_80 hF_81 hG_82 v_83 v_84 rv_84 v_85 rv_85 v_86 rv_86 q_87 q_88 hm_89
      have j_178 : ∀ (I_90 : Nat → Nat → Int32) (J_91 : Nat → Nat → Int64) (hU_92 : Iw L κ R ow I_90) (hF_93 : Fq L κ ow [1200, 1202, 1232, 1233, 85100] I I_90) (hG_94 : Fq L κ ow [] J J_91) (v_95 : Int32) (v_96 : Int32) (rv_96 : Rg 0 127 v_96) (v_97 : Int32) (rv_97 : Rg 0 127 v_97) (v_98 : Int32) (v_99 : Int32) (rv_99 : Rg 7 7 v_99) (v_100 : Int32) (rv_100 : Rg 0 5 v_100) (q_101 : I_90 x 0 = 0) (q_102 : I_90 b_2 0 = v_100) (hm_103 : 128 < (v_97 : Int32).toInt + ((n_64 + 1 : Nat) : Int)), WG p l e { frames := 2, cells := 0, slots := 0, locals := 43 } s m ([.ref x] : List Value).toArray below meth c 6 0 0 (MQ below (Qi_ D cy L κ ln R (fun r I2 J2 => Iw L κ R ow I2 ∧ Fq L κ ow [1200, 1202, 1232, 1233, 85100] I I2 ∧ Fq L κ ow [] J J2 ∧ Rg (-2147483648) 2147483647 r)) ([.ref x] : List Value).toArray s 0 0 (Al_ L)) D cy (Al_ L) s.heap L κ ln R I_90 J_91 178 [(0, .ref x), (1, .int v_95), (2, .int v_96), (3, .int v_97), (4, .int v_98), (5, .int v_99)] [] := by
        intro I_90 J_91 hU_92 hF_93 hG_94 v_95 v_96 rv_96 v_97 rv_97 v_98 v_99 rv_99 v_100 rv_100 q_101 q_102 hm_103
        obtain ⟨x_104, hx_104, rx_104, tx_104⟩ := ex_add (y := 1) 1 128 rv_97 rc_1 (by decide) (by decide) (by decide) (by decide)
        refine g_iinc C dX12_eaters_178 (k := 3) (v := x_104) rfl hx_104 (by decide) (lo2 := [(3, .int x_104), (0, .ref x), (1, .int v_95), (2, .int v_96), (4, .int v_98), (5, .int v_99)]) rfl ?_
        refine g_goto C (tgt := 64) dX12_eaters_181 (by decide) ?_
        refine g_lo (is := [1, 2, 3, 0]) (lo2 := [(0, .ref x), (1, .int v_95), (2, .int v_96), (3, .int x_104)]) rfl ?_
        exact ih_64 I_90 J_91 hU_92 hF_93 hG_94 v_95 v_96 (rv_96) x_104 (rg_w rx_104 (by decide) (by decide)) v_100 (rv_100) q_101 q_102 (ms_1 hm_103 (ti_k tx_104 rc_1) (by decide))
      have l_145 : ∀ (n_145 : Nat) (I_105 : Nat → Nat → Int32) (J_106 : Nat → Nat → Int64) (hU_107 : Iw L κ R ow I_105) (hF_108 : Fq L κ ow [1200, 1202, 1232, 1233, 85100] I I_105) (hG_109 : Fq L κ ow [] J J_106) (v_110 : Int32) (v_111 : Int32) (rv_111 : Rg 0 127 v_111) (v_112 : Int32) (rv_112 : Rg 0 127 v_112) (v_113 : Int32) (rv_113 : Rg 0 255 v_113) (v_114 : Int32) (rv_114 : Rg 0 7 v_114) (v_115 : Int32) (rv_115 : Rg 0 5 v_115) (q_116 : I_105 x 0 = 0) (q_117 : I_105 b_2 0 = v_115) (hm_118 : 128 < (v_112 : Int32).toInt + ((n_64 + 1 : Nat) : Int)) (hm_119 : 7 < (v_114 : Int32).toInt + (n_145 : Int)), WG p l e { frames := 2, cells := 0, slots := 0, locals := 43 } s m ([.ref x] : List Value).toArray below meth c 6 0 0 (MQ below (Qi_ D cy L κ ln R (fun r I2 J2 => Iw L κ R ow I2 ∧ Fq L κ ow [1200, 1202, 1232, 1233, 85100] I I2 ∧ Fq L κ ow [] J J2 ∧ Rg (-2147483648) 2147483647 r)) ([.ref x] : List Value).toArray s 0 0 (Al_ L)) D cy (Al_ L) s.heap L κ ln R I_105 J_106 145 [(0, .ref x), (1, .int v_110), (2, .int v_111), (3, .int v_112), (4, .int v_113), (5, .int v_114)] [] := by
        intro n_145
        induction n_145 with
        | zero =>
          intro I_105 J_106 hU_107 hF_108 hG_109 v_110 v_111 rv_111 v_112 rv_112 v_113 rv_113 v_114 rv_114 v_115 rv_115 q_116 q_117 hm_118 hm_119
          exact ms_0 rv_114 hm_119
        | succ n_145 ih_145 =>
          intro I_105 J_106 hU_107 hF_108 hG_109 v_110 v_111 rv_111 v_112 rv_112 v_113 rv_113 v_114 rv_114 v_115 rv_115 q_116 q_117 hm_118 hm_119
          have j_172 : ∀ (I_120 : Nat → Nat → Int32) (J_121 : Nat → Nat → Int64) (hU_122 : Iw L κ R ow I_120) (hF_123 : Fq L κ ow [1200, 1202, 1232, 1233, 85100] I I_120) (hG_124 : Fq L κ ow [] J J_121) (v_125 : Int32) (v_126 : Int32) (rv_126 : Rg 0 127 v_126) (v_127 : Int32) (rv_127 : Rg 0 127 v_127) (v_128 : Int32) (rv_128 : Rg 0 255 v_128) (v_129 : Int32) (rv_129 : Rg 0 6 v_129) (v_130 : Int32) (rv_130 : Rg 0 5 v_130) (q_131 : I_120 x 0 = 0) (q_132 : I_120 b_2 0 = v_130) (hm_133 : 128 < (v_127 : Int32).toInt + ((n_64 + 1 : Nat) : Int)) (hm_134 : 7 < (v_129 : Int32).toInt + ((n_145 + 1 : Nat) : Int)), WG p l e { frames := 2, cells := 0, slots := 0, locals := 43 } s m ([.ref x] : List Value).toArray below meth c 6 0 0 (MQ below (Qi_ D cy L κ ln R (fun r I2 J2 => Iw L κ R ow I2 ∧ Fq L κ ow [1200, 1202, 1232, 1233, 85100] I I2 ∧ Fq L κ ow [] J J2 ∧ Rg (-2147483648) 2147483647 r)) ([.ref x] : List Value).toArray s 0 0 (Al_ L)) D cy (Al_ L) s.heap L κ ln R I_120 J_121 172 [(0, .ref x), (1, .int v_125), (2, .int v_126), (3, .int v_127), (4, .int v_128), (5, .int v_129)] [] := by
            intro I_120 J_121 hU_122 hF_123 hG_124 v_125 v_126 rv_126 v_127 rv_127 v_128 rv_128 v_129 rv_129 v_130 rv_130 q_131 q_132 hm_133 hm_134
            obtain ⟨x_135, hx_135, rx_135, tx_135⟩ := ex_add (y := 1) 1 7 rv_129 rc_1 (by decide) (by decide) (by decide) (by decide)
            refine g_iinc C dX12_eaters_172 (k := 5) (v := x_135) rfl hx_135 (by decide) (lo2 := [(5, .int x_135), (0, .ref x), (1, .int v_125), (2, .int v_126), (3, .int v_127), (4, .int v_128)]) rfl ?_
            refine g_goto C (tgt := 145) dX12_eaters_175 (by decide) ?_
            refine g_lo (is := [1, 2, 3, 4, 5, 0]) (lo2 := [(0, .ref x), (1, .int v_125), (2, .int v_126), (3, .int v_127), (4, .int v_128), (5, .int x_135)]) rfl ?_
            exact ih_145 I_120 J_121 hU_122 hF_123 hG_124 v_125 v_126 (rv_126) v_127 (rv_127) v_128 (rv_128) x_135 (rg_w rx_135 (by decide) (by decide)) v_130 (rv_130) q_131 q_132 hm_133 (ms_1 hm_134 (ti_k tx_135 rc_1) (by decide))
          refine g_iload C 5 dX12_eaters_145 rfl ?_
          refine g_bipush C (v := 7) dX12_eaters_147 (by decide) ?_
          refine g_icmp_ge C (tgt := 178) dX12_eaters_149 (by decide) (fun h_136 => ?_) (fun h_136 => ?_)
          · skip
            have r_137 := le_r (h_136) rc_7 rv_114
            refine g_lo (is := [0, 1, 2, 3, 4, 5]) (lo2 := [(0, .ref x), (1, .int v_110), (2, .int v_111), (3, .int v_112), (4, .int v_113), (5, .int v_114)]) rfl ?_
            exact j_178 I_105 J_106 hU_107 hF_108 hG_109 v_110 v_111 (rv_111) v_112 (rv_112) v_113 v_114 (r_137) v_115 (rv_115) q_116 q_117 hm_118
          · skip
            have r_138 := lt_l (hi := 6) (nle h_136) rv_114 rc_7 (by decide)
            refine g_iload_n C 3 dX12_eaters_152 rfl rfl ?_
            refine g_iload C 5 dX12_eaters_153 rfl ?_
            refine g_callSI C K (c_X12_has W9 v_112 v_114  hU_107) s_12_231 rfl ⟨rfl, rfl⟩ ⟨Nat.le_of_ble_eq_true rfl, Nat.le_of_ble_eq_true rfl⟩ (Nat.le_of_ble_eq_true rfl) ⟨Nat.le_of_ble_eq_true rfl, Nat.le_of_ble_eq_true rfl⟩ dX12_eaters_155 rfl (st := []) (fun x_139 I_140 J_141 h_142 => ?_)
            obtain ⟨rfl, rfl, rx_139, ex_139⟩ := h_142
            refine g_if_eq C (tgt := 172) dX12_eaters_158 (by decide) (fun h_143 => ?_) (fun h_143 => ?_)
            · skip
              have r_144 := (⟨(rx_139).1, (eq_rg (h_143) rc_0).2⟩ : Rg 0 0 x_139)
              refine g_lo (is := [0, 1, 2, 3, 4, 5]) (lo2 := [(0, .ref x), (1, .int v_110), (2, .int v_111), (3, .int v_112), (4, .int v_113), (5, .int v_114)]) rfl ?_
              exact j_172 I_105 J_106 hU_107 hF_108 hG_109 v_110 v_111 (rv_111) v_112 (rv_112) v_113 (rv_113) v_114 (r_138) v_115 (rv_115) q_116 q_117 hm_118 hm_119
            · skip
              have n_145 : ¬ x_139 = 0 := h_143
              have r_146 := ne_lo (lo := 1) n_145 rx_139 rc_0 rfl (by decide)
              refine g_aload_n C 0 dX12_eaters_161 rfl rfl ?_
              refine g_getR C K hLx hkx f_12_51 hb_1 dX12_eaters_162 ?_
              refine g_iload C 5 dX12_eaters_165 rfl ?_
              refine g_dup2 C dX12_eaters_167 rfl rfl ?_
              obtain ⟨x_147, hx_147, rx_147⟩ := ex_any (z0 := I_105 b_1 (v_114.toNatClampNeg))
              refine h_iald C K hb_1L hb_1k (v := x_147) (v_114.toNatClampNeg) (rfl) (ix_0 r_138 (by decide)) (ix_lt r_138 (by decide) hb_1n (by decide)) hx_147 dX12_eaters_168 ?_
              refine g_iconst C (v := 1) dX12_eaters_169 (by decide) ?_
              obtain ⟨x_148, hx_148, rx_148⟩ := ex_any (z0 := x_147 + 1)
              refine g_iadd C (v := x_148) dX12_eaters_170 hx_148 ?_
              refine h_iast C K hb_1L hb_1k (v_114.toNatClampNeg) (rfl) (ix_0 r_138 (by decide)) (ix_lt r_138 (by decide) hb_1n (by decide)) dX12_eaters_171 (fun I_149 hI_149 => ?_)
              have hU_150 := iw_put W9 hU_107 hI_149 (ro_a hb_1k (by decide) hb_1o hkx rfl) (lo := (-2147483648)) (hi := 2147483647) (rfl) (rx_148) rfl
              have hF_151 := fq_puta hF_108 hI_149 (ro_a hb_1k (by decide) hb_1o hkx rfl) (by decide) (by decide)
              refine g_lo (is := [0, 1, 2, 3, 4, 5]) (lo2 := [(0, .ref x), (1, .int v_110), (2, .int v_111), (3, .int v_112), (4, .int v_113), (5, .int v_114)]) rfl ?_
              exact j_172 I_149 J_106 hU_150 hF_151 hG_109 v_110 v_111 (rv_111) v_112 (rv_112) v_113 (rv_113) v_114 (r_138) v_115 (rv_115) (kp_k (κ := κ) hI_149 (by rw [hkx, hb_1k]; decide) q_116) (kp_r hI_149 (ro_a hb_2k (by decide) hb_2o hkx rfl) (ro_a hb_1k (by decide) hb_1o hkx rfl) (by decide) q_117) hm_118 hm_119
      have l_82 : ∀ (n_82 : Nat) (I_152 : Nat → Nat → Int32) (J_153 : Nat → Nat → Int64) (hU_154 : Iw L κ R ow I_152) (hF_155 : Fq L κ ow [1200, 1202, 1232, 1233, 85100] I I_152) (hG_156 : Fq L κ ow [] J J_153) (v_157 : Int32) (v_158 : Int32) (rv_158 : Rg 0 127 v_158) (v_159 : Int32) (rv_159 : Rg 0 127 v_159) (v_160 : Int32) (v_161 : Int32) (rv_161 : Rg 0 7 v_161) (v_162 : Int32) (rv_162 : Rg 0 5 v_162) (q_163 : I_152 x 0 = 0) (q_164 : I_152 b_2 0 = v_162) (hm_165 : 128 < (v_159 : Int32).toInt + ((n_64 + 1 : Nat) : Int)) (hm_166 : 7 < (v_161 : Int32).toInt + (n_82 : Int)), WG p l e { frames := 2, cells := 0, slots := 0, locals := 43 } s m ([.ref x] : List Value).toArray below meth c 6 0 0 (MQ below (Qi_ D cy L κ ln R (fun r I2 J2 => Iw L κ R ow I2 ∧ Fq L κ ow [1200, 1202, 1232, 1233, 85100] I I2 ∧ Fq L κ ow [] J J2 ∧ Rg (-2147483648) 2147483647 r)) ([.ref x] : List Value).toArray s 0 0 (Al_ L)) D cy (Al_ L) s.heap L κ ln R I_152 J_153 82 [(0, .ref x), (1, .int v_157), (2, .int v_158), (3, .int v_159), (4, .int v_160), (5, .int v_161)] [] := by
        intro n_82
        induction n_82 with
        | zero =>
          intro I_152 J_153 hU_154 hF_155 hG_156 v_157 v_158 rv_158 v_159 rv_159 v_160 v_161 rv_161 v_162 rv_162 q_163 q_164 hm_165 hm_166
          exact ms_0 rv_161 hm_166
        | succ n_82 ih_82 =>
          intro I_152 J_153 hU_154 hF_155 hG_156 v_157 v_158 rv_158 v_159 rv_159 v_160 v_161 rv_161 v_162 rv_162 q_163 q_164 hm_165 hm_166
          have j_115 : ∀ (I_167 : Nat → Nat → Int32) (J_168 : Nat → Nat → Int64) (hU_169 : Iw L κ R ow I_167) (hF_170 : Fq L κ ow [1200, 1202, 1232, 1233, 85100] I I_167) (hG_171 : Fq L κ ow [] J J_168) (v_172 : Int32) (v_173 : Int32) (rv_173 : Rg 0 127 v_173) (v_174 : Int32) (rv_174 : Rg 0 127 v_174) (v_175 : Int32) (v_176 : Int32) (rv_176 : Rg 0 6 v_176) (v_177 : Int32) (rv_177 : Rg 0 5 v_177) (q_178 : I_167 x 0 = 0) (q_179 : I_167 b_2 0 = v_177) (hm_180 : 128 < (v_174 : Int32).toInt + ((n_64 + 1 : Nat) : Int)) (hm_181 : 7 < (v_176 : Int32).toInt + ((n_82 + 1 : Nat) : Int)), WG p l e { frames := 2, cells := 0, slots := 0, locals := 43 } s m ([.ref x] : List Value).toArray below meth c 6 0 0 (MQ below (Qi_ D cy L κ ln R (fun r I2 J2 => Iw L κ R ow I2 ∧ Fq L κ ow [1200, 1202, 1232, 1233, 85100] I I2 ∧ Fq L κ ow [] J J2 ∧ Rg (-2147483648) 2147483647 r)) ([.ref x] : List Value).toArray s 0 0 (Al_ L)) D cy (Al_ L) s.heap L κ ln R I_167 J_168 115 [(0, .ref x), (1, .int v_172), (2, .int v_173), (3, .int v_174), (4, .int v_175), (5, .int v_176)] [] := by
            intro I_167 J_168 hU_169 hF_170 hG_171 v_172 v_173 rv_173 v_174 rv_174 v_175 v_176 rv_176 v_177 rv_177 q_178 q_179 hm_180 hm_181
            obtain ⟨x_182, hx_182, rx_182, tx_182⟩ := ex_add (y := 1) 1 7 rv_176 rc_1 (by decide) (by decide) (by decide) (by decide)
            refine g_iinc C dX12_eaters_115 (k := 5) (v := x_182) rfl hx_182 (by decide) (lo2 := [(5, .int x_182), (0, .ref x), (1, .int v_172), (2, .int v_173), (3, .int v_174), (4, .int v_175)]) rfl ?_
            refine g_goto C (tgt := 82) dX12_eaters_118 (by decide) ?_
            refine g_lo (is := [1, 2, 3, 4, 5, 0]) (lo2 := [(0, .ref x), (1, .int v_172), (2, .int v_173), (3, .int v_174), (4, .int v_175), (5, .int x_182)]) rfl ?_
            exact ih_82 I_167 J_168 hU_169 hF_170 hG_171 v_172 v_173 (rv_173) v_174 (rv_174) v_175 x_182 (rg_w rx_182 (by decide) (by decide)) v_177 (rv_177) q_178 q_179 hm_180 (ms_1 hm_181 (ti_k tx_182 rc_1) (by decide))
          refine g_iload C 5 dX12_eaters_82 rfl ?_
          refine g_bipush C (v := 7) dX12_eaters_84 (by decide) ?_
          refine g_icmp_ge C (tgt := 121) dX12_eaters_86 (by decide) (fun h_183 => ?_) (fun h_183 => ?_)
          · skip
            have r_184 := le_r (h_183) rc_7 rv_161
            refine g_iload C 4 dX12_eaters_121 rfl ?_
            refine g_aload_n C 0 dX12_eaters_123 rfl rfl ?_
            refine g_getR C K hLx hkx f_12_7 hb_2 dX12_eaters_124 ?_
            refine g_iconst C (v := 1) dX12_eaters_127 (by decide) ?_
            obtain ⟨x_185, hx_185, rx_185⟩ := ex_getw (I := I_152) (a := b_2) (j := 1) (lo := 0) (hi := 255) hU_154.1 hb_2L (ro_a hb_2k (by decide) hb_2o hkx rfl) (rfl)
            refine h_iald C K hb_2L hb_2k (v := x_185) (1) (by decide) (by decide) (by rw [hb_2n]; decide) hx_185 dX12_eaters_128 ?_
            refine g_icmp_eq C (tgt := 135) dX12_eaters_129 (by decide) (fun h_186 => ?_) (fun h_186 => ?_)
            · skip
              have r_187 := (⟨(eq_rg (h_186) rx_185).1, (eq_rg (h_186) rx_185).2⟩ : Rg 0 255 v_160)
              obtain ⟨x_188, hx_188, rx_188⟩ := ex_any (z0 := v_157 + 1)
              refine g_iinc C dX12_eaters_135 (k := 1) (v := x_188) rfl hx_188 (by decide) (lo2 := [(1, .int x_188), (0, .ref x), (2, .int v_158), (3, .int v_159), (4, .int v_160), (5, .int v_161)]) rfl ?_
              refine g_iload_n C 2 dX12_eaters_138 rfl rfl ?_
              refine g_iload_n C 3 dX12_eaters_139 rfl rfl ?_
              obtain ⟨x_189, hx_189, rx_189⟩ := ex_andl (x := v_158) (y := v_159) (b := 127) (rv_158)
              refine g_iand C (v := x_189) dX12_eaters_140 hx_189 ?_
              refine g_istore_n C dX12_eaters_141 rfl (by decide) (lo2 := [(2, .int x_189), (1, .int x_188), (0, .ref x), (3, .int v_159), (4, .int v_160), (5, .int v_161)]) rfl ?_
              refine g_iconst C (v := 0) dX12_eaters_142 (by decide) ?_
              refine g_istore C dX12_eaters_143 (by decide) (lo2 := [(5, .int 0), (2, .int x_189), (1, .int x_188), (0, .ref x), (3, .int v_159), (4, .int v_160)]) rfl ?_
              refine g_lo (is := [3, 2, 1, 4, 5, 0]) (lo2 := [(0, .ref x), (1, .int x_188), (2, .int x_189), (3, .int v_159), (4, .int v_160), (5, .int 0)]) rfl ?_
              exact l_145 8 I_152 J_153 hU_154 hF_155 hG_156 x_188 x_189 (rx_189) v_159 (rv_159) v_160 (r_187) 0 (rg_w rc_0 (by decide) (by decide)) v_162 (rv_162) q_163 q_164 hm_165 (ms_s (a := 0) (b := 7) (N := 8) (rg_w rc_0 (by decide) (by decide)) (by decide))
            · skip
              refine g_goto C (tgt := 178) dX12_eaters_132 (by decide) ?_
              refine g_lo (is := [0, 1, 2, 3, 4, 5]) (lo2 := [(0, .ref x), (1, .int v_157), (2, .int v_158), (3, .int v_159), (4, .int v_160), (5, .int v_161)]) rfl ?_
              exact j_178 I_152 J_153 hU_154 hF_155 hG_156 v_157 v_158 (rv_158) v_159 (rv_159) v_160 v_161 (r_184) v_162 (rv_162) q_163 q_164 hm_165
          · skip
            have r_190 := lt_l (hi := 6) (nle h_183) rv_161 rc_7 (by decide)
            refine g_iload_n C 3 dX12_eaters_89 rfl rfl ?_
            refine g_iload C 5 dX12_eaters_90 rfl ?_
            refine g_callSI C K (c_X12_has W9 v_159 v_161  hU_154) s_12_231 rfl ⟨rfl, rfl⟩ ⟨Nat.le_of_ble_eq_true rfl, Nat.le_of_ble_eq_true rfl⟩ (Nat.le_of_ble_eq_true rfl) ⟨Nat.le_of_ble_eq_true rfl, Nat.le_of_ble_eq_true rfl⟩ dX12_eaters_92 rfl (st := []) (fun x_191 I_192 J_193 h_194 => ?_)
            obtain ⟨rfl, rfl, rx_191, ex_191⟩ := h_194
            refine g_if_eq C (tgt := 115) dX12_eaters_95 (by decide) (fun h_195 => ?_) (fun h_195 => ?_)
            · skip
              have r_196 := (⟨(rx_191).1, (eq_rg (h_195) rc_0).2⟩ : Rg 0 0 x_191)
              refine g_lo (is := [0, 1, 2, 3, 4, 5]) (lo2 := [(0, .ref x), (1, .int v_157), (2, .int v_158), (3, .int v_159), (4, .int v_160), (5, .int v_161)]) rfl ?_
              exact j_115 I_152 J_153 hU_154 hF_155 hG_156 v_157 v_158 (rv_158) v_159 (rv_159) v_160 v_161 (r_190) v_162 (rv_162) q_163 q_164 hm_165 hm_166
            · skip
              have n_197 : ¬ x_191 = 0 := h_195
              have r_198 := ne_lo (lo := 1) n_197 rx_191 rc_0 rfl (by decide)
              refine g_iload C 4 dX12_eaters_98 rfl ?_
              refine g_aload_n C 0 dX12_eaters_100 rfl rfl ?_
              refine g_iload C 5 dX12_eaters_101 rfl ?_
              refine g_aload_n C 0 dX12_eaters_103 rfl rfl ?_
              refine g_getR C K hLx hkx f_12_7 hb_2 dX12_eaters_104 ?_
              refine g_iconst C (v := 0) dX12_eaters_107 (by decide) ?_
              refine h_iald C K hb_2L hb_2k (v := v_162) (0) (by decide) (by decide) (by rw [hb_2n]; decide) q_164 dX12_eaters_108 ?_
              refine g_callVI C K (c_X12_onPlate W9 hLx hkx v_161 v_162 (r_190) (rv_162) hU_154) hLx hkx (by decide) rfl v_12_234 rfl ⟨rfl, rfl⟩ ⟨Nat.le_of_ble_eq_true rfl, Nat.le_of_ble_eq_true rfl⟩ (Nat.le_of_ble_eq_true rfl) ⟨Nat.le_of_ble_eq_true rfl, Nat.le_of_ble_eq_true rfl⟩ dX12_eaters_109 rfl (st := [.int v_160]) (fun x_200 I_201 J_202 h_203 => ?_)
              obtain ⟨rfl, rfl, rx_200, ex_200⟩ := h_203
              obtain ⟨x_204, hx_204, rx_204⟩ := ex_any (z0 := v_160 + x_200)
              refine g_iadd C (v := x_204) dX12_eaters_112 hx_204 ?_
              refine g_istore C dX12_eaters_113 (by decide) (lo2 := [(4, .int x_204), (0, .ref x), (1, .int v_157), (2, .int v_158), (3, .int v_159), (5, .int v_161)]) rfl ?_
              refine g_lo (is := [1, 2, 3, 4, 0, 5]) (lo2 := [(0, .ref x), (1, .int v_157), (2, .int v_158), (3, .int v_159), (4, .int x_204), (5, .int v_161)]) rfl ?_
              exact j_115 I_152 J_153 hU_154 hF_155 hG_156 v_157 v_158 (rv_158) v_159 (rv_159) x_204 v_161 (r_190) v_162 (rv_162) q_163 q_164 hm_165 hm_166
      refine g_iload_n C 3 dX12_eaters_64 rfl rfl ?_
      refine g_iconst C (v := 1) dX12_eaters_65 (by decide) ?_
      refine g_aload_n C 0 dX12_eaters_66 rfl rfl ?_
      refine g_getR C K hLx hkx f_12_13 hb_3 dX12_eaters_67 ?_
      refine g_iconst C (v := 0) dX12_eaters_70 (by decide) ?_
      obtain ⟨x_205, hx_205, rx_205⟩ := ex_getw (I := I_78) (a := b_3) (j := 0) (lo := 0) (hi := 7) hU_80.1 hb_3L (ro_a hb_3k (by decide) hb_3o hkx rfl) (by decide)
      refine h_iald C K hb_3L hb_3k (v := x_205) (0) (by decide) (by decide) (by rw [hb_3n]; decide) hx_205 dX12_eaters_71 ?_
      obtain ⟨x_206, hx_206, rx_206⟩ := ex_shl (x := 1) (y := x_205) 7 128 rfl (rx_205) (by decide)
      refine g_ishl C (v := x_206) dX12_eaters_72 hx_206 ?_
      refine g_icmp_ge C (tgt := 184) dX12_eaters_73 (by decide) (fun h_207 => ?_) (fun h_207 => ?_)
      · skip
        have r_208 := le_r (h_207) rx_206 rv_85
        refine g_iload_n C 1 dX12_eaters_184 rfl rfl ?_
        refine g_if_ne C (tgt := 190) dX12_eaters_185 (by decide) (fun h_209 => ?_) (fun h_209 => ?_)
        · skip
          have n_210 : ¬ v_83 = 0 := h_209
          refine g_aload_n C 0 dX12_eaters_190 rfl rfl ?_
          refine g_iload_n C 2 dX12_eaters_191 rfl rfl ?_
          refine h_putI C K hLx hkx f_12_54 p_12_32 dX12_eaters_192 (fun I_211 hI_211 => ?_)
          have hU_212 := iw_put W9 hU_80 hI_211 (ro_o hkx (by decide)) (lo := (-2147483648)) (hi := 2147483647) (rfl) (rg_all _) rfl
          have hF_213 := fq_puto hF_81 hI_211 hkx (by decide) (by decide)
          refine g_aload_n C 0 dX12_eaters_195 rfl rfl ?_
          refine g_iconst C (v := (-1)) dX12_eaters_196 (by decide) ?_
          refine h_putI C K hLx hkx f_12_58 p_12_33 dX12_eaters_197 (fun I_214 hI_214 => ?_)
          have hU_215 := iw_put W9 hU_212 hI_214 (ro_o hkx (by decide)) (lo := (-2147483648)) (hi := 2147483647) (rfl) (rg_all _) rfl
          have hF_216 := fq_puto hF_213 hI_214 hkx (by decide) (by decide)
          refine g_iconst C (v := 0) dX12_eaters_200 (by decide) ?_
          refine g_istore_n C dX12_eaters_201 rfl (by decide) (lo2 := [(3, .int 0), (0, .ref x), (1, .int v_83), (2, .int v_84)]) rfl ?_
          refine g_lo (is := [1, 2, 3, 0]) (lo2 := [(0, .ref x), (1, .int v_83), (2, .int v_84), (3, .int 0)]) rfl ?_
          exact l_202 8 I_214 J_79 hU_215 hF_216 hG_82 v_83 (n_210) v_84 (rv_84) 0 (rg_w rc_0 (by decide) (by decide)) (-1) (rg_w rc_m1 (by decide) (by decide)) v_86 (rv_86) (kp_j hI_214 (by decide) (kp_j hI_211 (by decide) q_87)) (kp_j hI_214 (by decide) (kp_s hI_211)) (kp_s hI_214) (kp_k (κ := κ) hI_214 (by rw [hb_2k, hkx]; decide) (kp_k (κ := κ) hI_211 (by rw [hb_2k, hkx]; decide) q_88)) (ms_s (a := 0) (b := 7) (N := 8) (rg_w rc_0 (by decide) (by decide)) (by decide))
        · skip
          have r_217 := (⟨(eq_rg (h_209) rc_0).1, (eq_rg (h_209) rc_0).2⟩ : Rg 0 0 v_83)
          refine g_iconst C (v := 0) dX12_eaters_188 (by decide) ?_
          exact g_zret (ty := .int) (r := 0) B K rfl (rfl) ⟨hU_80, hF_81, hG_82, rg_all _⟩ dX12_eaters_189
      · skip
        have r_218 := lt_l (hi := 127) (nle h_207) rv_85 rx_206 (by decide)
        refine g_iconst C (v := 0) dX12_eaters_76 (by decide) ?_
        refine g_istore C dX12_eaters_77 (by decide) (lo2 := [(4, .int 0), (0, .ref x), (1, .int v_83), (2, .int v_84), (3, .int v_85)]) rfl ?_
        refine g_iconst C (v := 0) dX12_eaters_79 (by decide) ?_
        refine g_istore C dX12_eaters_80 (by decide) (lo2 := [(5, .int 0), (4, .int 0), (0, .ref x), (1, .int v_83), (2, .int v_84), (3, .int v_85)]) rfl ?_
        refine g_lo (is := [2, 3, 4, 5, 1, 0]) (lo2 := [(0, .ref x), (1, .int v_83), (2, .int v_84), (3, .int v_85), (4, .int 0), (5, .int 0)]) rfl ?_
        exact l_82 8 I_78 J_79 hU_80 hF_81 hG_82 v_83 v_84 (rv_84) v_85 (r_218) 0 0 (rg_w rc_0 (by decide) (by decide)) v_86 (rv_86) q_87 q_88 hm_89 (ms_s (a := 0) (b := 7) (N := 8) (rg_w rc_0 (by decide) (by decide)) (by decide))
  have l_43 : ∀ (n_43 : Nat) (I_219 : Nat → Nat → Int32) (J_220 : Nat → Nat → Int64) (hU_221 : Iw L κ R ow I_219) (hF_222 : Fq L κ ow [1200, 1202, 1232, 1233, 85100] I I_219) (hG_223 : Fq L κ ow [] J J_220) (v_224 : Int32) (rv_224 : Rg 0 127 v_224) (v_225 : Int32) (rv_225 : Rg 0 7 v_225) (v_226 : Int32) (rv_226 : Rg 0 5 v_226) (q_227 : I_219 x 0 = 0) (q_228 : I_219 b_2 0 = v_226) (hm_229 : 7 < (v_225 : Int32).toInt + (n_43 : Int)), WG p l e { frames := 2, cells := 0, slots := 0, locals := 43 } s m ([.ref x] : List Value).toArray below meth c 6 0 0 (MQ below (Qi_ D cy L κ ln R (fun r I2 J2 => Iw L κ R ow I2 ∧ Fq L κ ow [1200, 1202, 1232, 1233, 85100] I I2 ∧ Fq L κ ow [] J J2 ∧ Rg (-2147483648) 2147483647 r)) ([.ref x] : List Value).toArray s 0 0 (Al_ L)) D cy (Al_ L) s.heap L κ ln R I_219 J_220 43 [(0, .ref x), (1, .int 0), (2, .int v_224), (3, .int v_225)] [] := by
    intro n_43
    induction n_43 with
    | zero =>
      intro I_219 J_220 hU_221 hF_222 hG_223 v_224 rv_224 v_225 rv_225 v_226 rv_226 q_227 q_228 hm_229
      exact ms_0 rv_225 hm_229
    | succ n_43 ih_43 =>
      intro I_219 J_220 hU_221 hF_222 hG_223 v_224 rv_224 v_225 rv_225 v_226 rv_226 q_227 q_228 hm_229
      refine g_iload_n C 3 dX12_eaters_43 rfl rfl ?_
      refine g_bipush C (v := 7) dX12_eaters_44 (by decide) ?_
      refine g_icmp_ge C (tgt := 62) dX12_eaters_46 (by decide) (fun h_230 => ?_) (fun h_230 => ?_)
      · skip
        have r_231 := le_r (h_230) rc_7 rv_225
        refine g_iconst C (v := 0) dX12_eaters_62 (by decide) ?_
        refine g_istore_n C dX12_eaters_63 rfl (by decide) (lo2 := [(3, .int 0), (0, .ref x), (1, .int 0), (2, .int v_224)]) rfl ?_
        refine g_lo (is := [1, 2, 3, 0]) (lo2 := [(0, .ref x), (1, .int 0), (2, .int v_224), (3, .int 0)]) rfl ?_
        exact l_64 129 I_219 J_220 hU_221 hF_222 hG_223 0 v_224 (rv_224) 0 (rg_w rc_0 (by decide) (by decide)) v_226 (rv_226) q_227 q_228 (ms_s (a := 0) (b := 128) (N := 129) (rg_w rc_0 (by decide) (by decide)) (by decide))
      · skip
        have r_232 := lt_l (hi := 6) (nle h_230) rv_225 rc_7 (by decide)
        refine g_aload_n C 0 dX12_eaters_49 rfl rfl ?_
        refine g_getR C K hLx hkx f_12_51 hb_1 dX12_eaters_50 ?_
        refine g_iload_n C 3 dX12_eaters_53 rfl rfl ?_
        refine g_iconst C (v := 0) dX12_eaters_54 (by decide) ?_
        refine h_iast C K hb_1L hb_1k (v_225.toNatClampNeg) (rfl) (ix_0 r_232 (by decide)) (ix_lt r_232 (by decide) hb_1n (by decide)) dX12_eaters_55 (fun I_233 hI_233 => ?_)
        have hU_234 := iw_put W9 hU_221 hI_233 (ro_a hb_1k (by decide) hb_1o hkx rfl) (lo := (-2147483648)) (hi := 2147483647) (rfl) (rg_all _) rfl
        have hF_235 := fq_puta hF_222 hI_233 (ro_a hb_1k (by decide) hb_1o hkx rfl) (by decide) (by decide)
        obtain ⟨x_236, hx_236, rx_236, tx_236⟩ := ex_add (y := 1) 1 7 r_232 rc_1 (by decide) (by decide) (by decide) (by decide)
        refine g_iinc C dX12_eaters_56 (k := 3) (v := x_236) rfl hx_236 (by decide) (lo2 := [(3, .int x_236), (0, .ref x), (1, .int 0), (2, .int v_224)]) rfl ?_
        refine g_goto C (tgt := 43) dX12_eaters_59 (by decide) ?_
        refine g_lo (is := [1, 2, 3, 0]) (lo2 := [(0, .ref x), (1, .int 0), (2, .int v_224), (3, .int x_236)]) rfl ?_
        exact ih_43 I_233 J_220 hU_234 hF_235 hG_223 v_224 (rv_224) x_236 (rg_w rx_236 (by decide) (by decide)) v_226 (rv_226) (kp_k (κ := κ) hI_233 (by rw [hkx, hb_1k]; decide) q_227) (kp_r hI_233 (ro_a hb_2k (by decide) hb_2o hkx rfl) (ro_a hb_1k (by decide) hb_1o hkx rfl) (by decide) q_228) (ms_1 hm_229 (ti_k tx_236 rc_1) (by decide))
  refine g_aload_n C 0 dX12_eaters_0 rfl rfl ?_
  refine g_iconst C (v := 0) dX12_eaters_1 (by decide) ?_
  refine h_putI C K hLx hkx f_12_82 p_12_0 dX12_eaters_2 (fun I_237 hI_237 => ?_)
  have hU_238 := iw_put W9 hU hI_237 (ro_o hkx (by decide)) (lo := (-2147483648)) (hi := 2147483647) (rfl) (rg_all _) rfl
  have hF_239 := fq_puto hF hI_237 hkx (by decide) (by decide)
  refine g_aload_n C 0 dX12_eaters_5 rfl rfl ?_
  refine g_callVI C K (c_X12_take W9 hLx hkx   hU_238) hLx hkx (by decide) rfl v_12_162 rfl ⟨rfl, rfl⟩ ⟨Nat.le_of_ble_eq_true rfl, Nat.le_of_ble_eq_true rfl⟩ (Nat.le_of_ble_eq_true rfl) ⟨Nat.le_of_ble_eq_true rfl, Nat.le_of_ble_eq_true rfl⟩ dX12_eaters_6 rfl (st := []) (fun x_240 I_241 J_242 h_243 => ?_)
  obtain ⟨hUI_241, hFI_241, hGJ_242, rx_240, fx_240⟩ := h_243
  have hF_244 := fq_tr hF_239 hFI_241 (by decide)
  have hG_245 := fq_tr hG hGJ_242 (by decide)
  refine g_iconst C (v := 2) dX12_eaters_9 (by decide) ?_
  refine g_icmp_ne C (tgt := 26) dX12_eaters_10 (by decide) (fun h_246 => ?_) (fun h_246 => ?_)
  · skip
    have n_247 : ¬ x_240 = 2 := h_246
    refine g_iconst C (v := (-1)) dX12_eaters_26 (by decide) ?_
    exact g_zret (ty := .int) (r := (-1)) B K rfl (rfl) ⟨hUI_241, hF_244, hG_245, rg_all _⟩ dX12_eaters_27
  · skip
    have r_248 := (⟨(eq_rg (h_246) rc_2).1, (eq_rg (h_246) rc_2).2⟩ : Rg 2 2 x_240)
    refine g_aload_n C 0 dX12_eaters_13 rfl rfl ?_
    refine g_aload_n C 0 dX12_eaters_14 rfl rfl ?_
    refine g_getR C K hLx hkx f_12_7 hb_2 dX12_eaters_15 ?_
    refine g_iconst C (v := 0) dX12_eaters_18 (by decide) ?_
    obtain ⟨x_249, hx_249, rx_249⟩ := ex_getw (I := I_241) (a := b_2) (j := 0) (lo := 0) (hi := 255) hUI_241.1 hb_2L (ro_a hb_2k (by decide) hb_2o hkx rfl) (rfl)
    refine h_iald C K hb_2L hb_2k (v := x_249) (0) (by decide) (by decide) (by rw [hb_2n]; decide) hx_249 dX12_eaters_19 ?_
    refine g_callVI C K (c_X12_isDish W9 hLx hkx x_249  hUI_241) hLx hkx (by decide) rfl v_12_250 rfl ⟨rfl, rfl⟩ ⟨Nat.le_of_ble_eq_true rfl, Nat.le_of_ble_eq_true rfl⟩ (Nat.le_of_ble_eq_true rfl) ⟨Nat.le_of_ble_eq_true rfl, Nat.le_of_ble_eq_true rfl⟩ dX12_eaters_20 rfl (st := []) (fun x_250 I_251 J_252 h_253 => ?_)
    obtain ⟨rfl, rfl, rx_250, ex_250⟩ := h_253
    refine g_if_ne C (tgt := 28) dX12_eaters_23 (by decide) (fun h_254 => ?_) (fun h_254 => ?_)
    · skip
      have n_255 : ¬ x_250 = 0 := h_254
      have r_256 := ne_lo (lo := 1) n_255 rx_250 rc_0 rfl (by decide)
      have r_257 := rg_i rx_249 ((ex_250) n_255) (lo := 0) (hi := 5) (by decide) (by decide)
      refine g_iconst C (v := 0) dX12_eaters_28 (by decide) ?_
      refine g_istore_n C dX12_eaters_29 rfl (by decide) (lo2 := [(1, .int 0), (0, .ref x)]) rfl ?_
      refine g_iconst C (v := 1) dX12_eaters_30 (by decide) ?_
      refine g_aload_n C 1 dX12_eaters_31 rfl rfl ?_
      refine g_getR C K hLx hkx f_12_13 hb_3 dX12_eaters_32 ?_
      refine g_iconst C (v := 0) dX12_eaters_35 (by decide) ?_
      obtain ⟨x_258, hx_258, rx_258⟩ := ex_getw (I := I_241) (a := b_3) (j := 0) (lo := 0) (hi := 7) hUI_241.1 hb_3L (ro_a hb_3k (by decide) hb_3o hkx rfl) (by decide)
      refine h_iald C K hb_3L hb_3k (v := x_258) (0) (by decide) (by decide) (by rw [hb_3n]; decide) hx_258 dX12_eaters_36 ?_
      obtain ⟨x_259, hx_259, rx_259⟩ := ex_shl (x := 1) (y := x_258) 7 128 rfl (rx_258) (by decide)
      refine g_ishl C (v := x_259) dX12_eaters_37 hx_259 ?_
      refine g_iconst C (v := 1) dX12_eaters_38 (by decide) ?_
      obtain ⟨x_260, hx_260, rx_260, tx_260⟩ := ex_sub 0 127 rx_259 rc_1 (by decide) (by decide) (by decide) (by decide)
      refine g_isub C (v := x_260) dX12_eaters_39 hx_260 ?_
      refine g_istore_n C dX12_eaters_40 rfl (by decide) (lo2 := [(2, .int x_260), (1, .int 0), (0, .ref x)]) rfl ?_
      refine g_iconst C (v := 0) dX12_eaters_41 (by decide) ?_
      refine g_istore_n C dX12_eaters_42 rfl (by decide) (lo2 := [(3, .int 0), (2, .int x_260), (1, .int 0), (0, .ref x)]) rfl ?_
      refine g_lo (is := [3, 2, 1, 0]) (lo2 := [(0, .ref x), (1, .int 0), (2, .int x_260), (3, .int 0)]) rfl ?_
      exact l_43 8 I_241 J_242 hUI_241 hF_244 hG_245 x_260 (rx_260) 0 (rg_w rc_0 (by decide) (by decide)) x_249 (r_257) (fq_at hFI_241 hLx hkx (by decide) (by decide) (kp_s hI_237)) hx_249 (ms_s (a := 0) (b := 7) (N := 8) (rg_w rc_0 (by decide) (by decide)) (by decide))
    · skip
      have r_261 := (⟨(rx_250).1, (eq_rg (h_254) rc_0).2⟩ : Rg 0 0 x_250)
      refine g_iconst C (v := (-1)) dX12_eaters_26 (by decide) ?_
      exact g_zret (ty := .int) (r := (-1)) B K rfl (rfl) ⟨hUI_241, hF_244, hG_245, rg_all _⟩ dX12_eaters_27
set_option maxRecDepth 100000 in
set_option maxHeartbeats 8000000 in
theorem c_X12_surely {l : Launch} {D : va_G} {cy : Nat → ClassId} {L : List Nat} {κ ln : Nat → Nat} {R : Nat → Nat → Option Nat} {I : Nat → Nat → Int32} {J : Nat → Nat → Int64} {ow : Nat → Nat × Nat} (W9 : ∀ a ∈ L, Shp L κ ln R ow a) {x : Nat} (hLx : x ∈ L) (hkx : κ x = 12) (hU : Iw L κ R ow I) : CtI l yX12_surely cX12_surely 1 (some .int) { frames := 0, cells := 0, slots := 0, locals := 0 } D cy L κ ln R I J [.ref x] (fun r I2 J2 => Iw L κ R ow I2 ∧ Fq L κ ow [1200] I I2 ∧ Fq L κ ow [] J J2 ∧ Rg (-2147483648) 2147483647 r) := by
  refine CtI.of (by decide +kernel) (Nat.le_of_ble_eq_true rfl) ?_
  intro p e s m below meth c B K
  have C := B.1
  have hF : Fq L κ ow [1200] I I := fq_rf
  have hG : Fq L κ ow [] J J := fq_rf
  refine g_lo (is := [0]) (lo2 := [(0, .ref x)]) rfl ?_
  refine g_aload_n C 0 dX12_surely_0 rfl rfl ?_
  refine g_iconst C (v := 0) dX12_surely_1 (by decide) ?_
  refine h_putI C K hLx hkx f_12_82 p_12_0 dX12_surely_2 (fun I_1 hI_1 => ?_)
  have hU_2 := iw_put W9 hU hI_1 (ro_o hkx (by decide)) (lo := (-2147483648)) (hi := 2147483647) (rfl) (rg_all _) rfl
  have hF_3 := fq_puto hF hI_1 hkx (by decide) (by decide)
  refine g_aload_n C 0 dX12_surely_5 rfl rfl ?_
  obtain ⟨x_4, hx_4, rx_4⟩ := ex_getw (I := I_1) (a := x) (j := 32) (lo := (-2147483648)) (hi := 2147483647) hU_2.1 hLx (ro_o hkx (by decide)) rfl
  refine g_getI C K hLx hkx f_12_54 (v := x_4) hx_4 dX12_surely_6 ?_
  exact g_zret (ty := .int) (r := x_4) B K rfl (rfl) ⟨hU_2, hF_3, hG, rx_4⟩ dX12_surely_9
set_option maxRecDepth 100000 in
set_option maxHeartbeats 8000000 in
theorem c_X12_ask {l : Launch} {D : va_G} {cy : Nat → ClassId} {L : List Nat} {κ ln : Nat → Nat} {R : Nat → Nat → Option Nat} {I : Nat → Nat → Int32} {J : Nat → Nat → Int64} {ow : Nat → Nat × Nat} (W9 : ∀ a ∈ L, Shp L κ ln R ow a) {x : Nat} (hLx : x ∈ L) (hkx : κ x = 12) (hU : Iw L κ R ow I) : CtI l yX12_ask cX12_ask 1 (some .int) { frames := 0, cells := 0, slots := 0, locals := 0 } D cy L κ ln R I J [.ref x] (fun r I2 J2 => Iw L κ R ow I2 ∧ Fq L κ ow [1200] I I2 ∧ Fq L κ ow [] J J2 ∧ Rg (-2147483648) 2147483647 r) := by
  refine CtI.of (by decide +kernel) (Nat.le_of_ble_eq_true rfl) ?_
  intro p e s m below meth c B K
  have C := B.1
  have hF : Fq L κ ow [1200] I I := fq_rf
  have hG : Fq L κ ow [] J J := fq_rf
  refine g_lo (is := [0]) (lo2 := [(0, .ref x)]) rfl ?_
  refine g_aload_n C 0 dX12_ask_0 rfl rfl ?_
  refine g_iconst C (v := 0) dX12_ask_1 (by decide) ?_
  refine h_putI C K hLx hkx f_12_82 p_12_0 dX12_ask_2 (fun I_1 hI_1 => ?_)
  have hU_2 := iw_put W9 hU hI_1 (ro_o hkx (by decide)) (lo := (-2147483648)) (hi := 2147483647) (rfl) (rg_all _) rfl
  have hF_3 := fq_puto hF hI_1 hkx (by decide) (by decide)
  refine g_aload_n C 0 dX12_ask_5 rfl rfl ?_
  obtain ⟨x_4, hx_4, rx_4⟩ := ex_getw (I := I_1) (a := x) (j := 33) (lo := (-2147483648)) (hi := 2147483647) hU_2.1 hLx (ro_o hkx (by decide)) rfl
  refine g_getI C K hLx hkx f_12_58 (v := x_4) hx_4 dX12_ask_6 ?_
  exact g_zret (ty := .int) (r := x_4) B K rfl (rfl) ⟨hU_2, hF_3, hG, rx_4⟩ dX12_ask_9
set_option maxRecDepth 100000 in
set_option maxHeartbeats 8000000 in
theorem c_X12_share {l : Launch} {D : va_G} {cy : Nat → ClassId} {L : List Nat} {κ ln : Nat → Nat} {R : Nat → Nat → Option Nat} {I : Nat → Nat → Int32} {J : Nat → Nat → Int64} {ow : Nat → Nat × Nat} (W9 : ∀ a ∈ L, Shp L κ ln R ow a) {x : Nat} (hLx : x ∈ L) (hkx : κ x = 12) (a0 : Int32) (a1 : Int32) (a2 : Int32) (hU : Iw L κ R ow I) : CtI l yX12_share cX12_share 11 (some .int) { frames := 2, cells := 0, slots := 0, locals := 43 } D cy L κ ln R I J [.ref x, .int a0, .int a1, .int a2] (fun r I2 J2 => Iw L κ R ow I2 ∧ Fq L κ ow [1200] I I2 ∧ Fq L κ ow [] J J2 ∧ Rg (-2147483648) 2147483647 r) := by
  refine CtI.of (by decide +kernel) (Nat.le_of_ble_eq_true rfl) ?_
  intro p e s m below meth c B K
  have C := B.1
  have hF : Fq L κ ow [1200] I I := fq_rf
  have hG : Fq L κ ow [] J J := fq_rf
  obtain ⟨b_1, hb_1, hb_1L, hb_1k, hb_1n, hb_1o⟩ := shp_a (W9 x hLx) hkx 14 14 389 rfl (by decide)
  refine g_lo (is := [0, 1, 2, 3]) (lo2 := [(0, .ref x), (1, .int a0), (2, .int a1), (3, .int a2)]) rfl ?_
  have l_133 : ∀ (n_133 : Nat) (I_2 : Nat → Nat → Int32) (J_3 : Nat → Nat → Int64) (hU_4 : Iw L κ R ow I_2) (hF_5 : Fq L κ ow [1200] I I_2) (hG_6 : Fq L κ ow [] J J_3) (r_7 : Rg 0 5 a0) (r_8 : Rg 0 127 a1) (r_9 : Rg 0 6 a2) (v_10 : Int32) (nv_10_0 : ¬ v_10 = 0) (v_11 : Int32) (rv_11 : Rg 0 379 v_11) (v_12 : Int32) (v_13 : Int32) (v_14 : Int32) (v_15 : Int32) (rv_15 : Rg 0 7 v_15) (q_16 : I_2 x 0 = 0) (hm_17 : 7 < (v_15 : Int32).toInt + (n_133 : Int)), WG p l e { frames := 2, cells := 0, slots := 0, locals := 43 } s m ([.ref x, .int a0, .int a1, .int a2] : List Value).toArray below meth c 11 0 0 (MQ below (Qi_ D cy L κ ln R (fun r I2 J2 => Iw L κ R ow I2 ∧ Fq L κ ow [1200] I I2 ∧ Fq L κ ow [] J J2 ∧ Rg (-2147483648) 2147483647 r)) ([.ref x, .int a0, .int a1, .int a2] : List Value).toArray s 0 0 (Al_ L)) D cy (Al_ L) s.heap L κ ln R I_2 J_3 133 [(0, .ref x), (1, .int a0), (2, .int a1), (3, .int a2), (4, .int v_10), (5, .int v_11), (6, .int v_12), (7, .int v_13), (8, .int v_14), (9, .int v_15)] [] := by
    intro n_133
    induction n_133 with
    | zero =>
      intro I_2 J_3 hU_4 hF_5 hG_6 r_7 r_8 r_9 v_10 nv_10_0 v_11 rv_11 v_12 v_13 v_14 v_15 rv_15 q_16 hm_17
      exact ms_0 rv_15 hm_17
    | succ n_133 ih_133 =>
      intro I_2 J_3 hU_4 hF_5 hG_6 r_7 r_8 r_9 v_10 nv_10_0 v_11 rv_11 v_12 v_13 v_14 v_15 rv_15 q_16 hm_17
      have j_212 : ∀ (I_18 : Nat → Nat → Int32) (J_19 : Nat → Nat → Int64) (hU_20 : Iw L κ R ow I_18) (hF_21 : Fq L κ ow [1200] I I_18) (hG_22 : Fq L κ ow [] J J_19) (r_23 : Rg 0 5 a0) (r_24 : Rg 0 127 a1) (r_25 : Rg 0 6 a2) (v_26 : Int32) (nv_26_0 : ¬ v_26 = 0) (v_27 : Int32) (rv_27 : Rg 0 379 v_27) (v_28 : Int32) (v_29 : Int32) (v_30 : Int32) (v_31 : Int32) (rv_31 : Rg 0 6 v_31) (q_32 : I_18 x 0 = 0) (hm_33 : 7 < (v_31 : Int32).toInt + ((n_133 + 1 : Nat) : Int)), WG p l e { frames := 2, cells := 0, slots := 0, locals := 43 } s m ([.ref x, .int a0, .int a1, .int a2] : List Value).toArray below meth c 11 0 0 (MQ below (Qi_ D cy L κ ln R (fun r I2 J2 => Iw L κ R ow I2 ∧ Fq L κ ow [1200] I I2 ∧ Fq L κ ow [] J J2 ∧ Rg (-2147483648) 2147483647 r)) ([.ref x, .int a0, .int a1, .int a2] : List Value).toArray s 0 0 (Al_ L)) D cy (Al_ L) s.heap L κ ln R I_18 J_19 212 [(0, .ref x), (1, .int a0), (2, .int a1), (3, .int a2), (4, .int v_26), (5, .int v_27), (6, .int v_28), (7, .int v_29), (8, .int v_30), (9, .int v_31)] [] := by
        intro I_18 J_19 hU_20 hF_21 hG_22 r_23 r_24 r_25 v_26 nv_26_0 v_27 rv_27 v_28 v_29 v_30 v_31 rv_31 q_32 hm_33
        obtain ⟨x_34, hx_34, rx_34, tx_34⟩ := ex_add (y := 1) 1 7 rv_31 rc_1 (by decide) (by decide) (by decide) (by decide)
        refine g_iinc C dX12_share_212 (k := 9) (v := x_34) rfl hx_34 (by decide) (lo2 := [(9, .int x_34), (0, .ref x), (1, .int a0), (2, .int a1), (3, .int a2), (4, .int v_26), (5, .int v_27), (6, .int v_28), (7, .int v_29), (8, .int v_30)]) rfl ?_
        refine g_goto C (tgt := 133) dX12_share_215 (by decide) ?_
        refine g_lo (is := [1, 2, 3, 4, 5, 6, 7, 8, 9, 0]) (lo2 := [(0, .ref x), (1, .int a0), (2, .int a1), (3, .int a2), (4, .int v_26), (5, .int v_27), (6, .int v_28), (7, .int v_29), (8, .int v_30), (9, .int x_34)]) rfl ?_
        exact ih_133 I_18 J_19 hU_20 hF_21 hG_22 (r_23) (r_24) (r_25) v_26 (nv_26_0) v_27 (rv_27) v_28 v_29 v_30 x_34 (rg_w rx_34 (by decide) (by decide)) q_32 (ms_1 hm_33 (ti_k tx_34 rc_1) (by decide))
      have j_209 : ∀ (I_35 : Nat → Nat → Int32) (J_36 : Nat → Nat → Int64) (hU_37 : Iw L κ R ow I_35) (hF_38 : Fq L κ ow [1200] I I_35) (hG_39 : Fq L κ ow [] J J_36) (r_40 : Rg 0 5 a0) (r_41 : Rg 0 127 a1) (r_42 : Rg 0 6 a2) (v_43 : Int32) (nv_43_0 : ¬ v_43 = 0) (v_44 : Int32) (rv_44 : Rg 0 379 v_44) (v_45 : Int32) (v_46 : Int32) (v_47 : Int32) (v_48 : Int32) (rv_48 : Rg 0 6 v_48) (v_49 : Int32) (q_50 : I_35 x 0 = 0) (hm_51 : 7 < (v_48 : Int32).toInt + ((n_133 + 1 : Nat) : Int)), WG p l e { frames := 2, cells := 0, slots := 0, locals := 43 } s m ([.ref x, .int a0, .int a1, .int a2] : List Value).toArray below meth c 11 0 0 (MQ below (Qi_ D cy L κ ln R (fun r I2 J2 => Iw L κ R ow I2 ∧ Fq L κ ow [1200] I I2 ∧ Fq L κ ow [] J J2 ∧ Rg (-2147483648) 2147483647 r)) ([.ref x, .int a0, .int a1, .int a2] : List Value).toArray s 0 0 (Al_ L)) D cy (Al_ L) s.heap L κ ln R I_35 J_36 209 [(0, .ref x), (1, .int a0), (2, .int a1), (3, .int a2), (4, .int v_43), (5, .int v_44), (6, .int v_45), (7, .int v_46), (8, .int v_47), (9, .int v_48), (10, .int v_49)] [] := by
        intro I_35 J_36 hU_37 hF_38 hG_39 r_40 r_41 r_42 v_43 nv_43_0 v_44 rv_44 v_45 v_46 v_47 v_48 rv_48 v_49 q_50 hm_51
        obtain ⟨x_52, hx_52, rx_52⟩ := ex_any (z0 := v_46 + 1)
        refine g_iinc C dX12_share_209 (k := 7) (v := x_52) rfl hx_52 (by decide) (lo2 := [(7, .int x_52), (0, .ref x), (1, .int a0), (2, .int a1), (3, .int a2), (4, .int v_43), (5, .int v_44), (6, .int v_45), (8, .int v_47), (9, .int v_48), (10, .int v_49)]) rfl ?_
        refine g_lo (is := [1, 2, 3, 4, 5, 6, 7, 0, 8, 9]) (lo2 := [(0, .ref x), (1, .int a0), (2, .int a1), (3, .int a2), (4, .int v_43), (5, .int v_44), (6, .int v_45), (7, .int x_52), (8, .int v_47), (9, .int v_48)]) rfl ?_
        exact j_212 I_35 J_36 hU_37 hF_38 hG_39 (r_40) (r_41) (r_42) v_43 (nv_43_0) v_44 (rv_44) v_45 x_52 v_47 v_48 (rv_48) q_50 hm_51
      refine g_iload C 9 dX12_share_133 rfl ?_
      refine g_bipush C (v := 7) dX12_share_135 (by decide) ?_
      refine g_icmp_ge C (tgt := 218) dX12_share_137 (by decide) (fun h_53 => ?_) (fun h_53 => ?_)
      · skip
        have r_54 := le_r (h_53) rc_7 rv_15
        refine g_iload C 5 dX12_share_218 rfl ?_
        refine g_aload_n C 0 dX12_share_220 rfl rfl ?_
        refine g_getR C K hLx hkx f_12_13 hb_1 dX12_share_221 ?_
        refine g_iconst C (v := 4) dX12_share_224 (by decide) ?_
        refine g_iload_n C 3 dX12_share_225 rfl rfl ?_
        obtain ⟨x_55, hx_55, rx_55, tx_55⟩ := ex_add 4 10 rc_4 r_9 (by decide) (by decide) (by decide) (by decide)
        refine g_iadd C (v := x_55) dX12_share_226 hx_55 ?_
        obtain ⟨x_56, hx_56, rx_56⟩ := ex_getw (I := I_2) (a := b_1) (j := x_55.toNatClampNeg) (lo := 0) (hi := 20) hU_4.1 hb_1L (ro_a hb_1k (by decide) hb_1o hkx rfl) (bn_834.trans (zq_4 (ix_k (lo := 4) (hi := 10) rx_55 (by decide) (by decide) (by decide))))
        refine h_iald C K hb_1L hb_1k (v := x_56) (x_55.toNatClampNeg) (rfl) (ix_0 rx_55 (by decide)) (ix_lt rx_55 (by decide) hb_1n (by decide)) hx_56 dX12_share_227 ?_
        obtain ⟨x_57, hx_57, rx_57⟩ := ex_any (z0 := v_11 * x_56)
        refine g_imul C (v := x_57) dX12_share_228 hx_57 ?_
        refine g_iload C 4 dX12_share_229 rfl ?_
        obtain ⟨x_58, hx_58, rx_58⟩ := ex_any (z0 := x_57 / v_10)
        refine g_idiv C (v := x_58) dX12_share_231 nv_10_0 hx_58 ?_
        refine g_iload C 7 dX12_share_232 rfl ?_
        refine g_iload C 6 dX12_share_234 rfl ?_
        refine g_icmp_ge C (tgt := 243) dX12_share_236 (by decide) (fun h_59 => ?_) (fun h_59 => ?_)
        · skip
          refine g_iconst C (v := 0) dX12_share_243 (by decide) ?_
          obtain ⟨x_60, hx_60, rx_60, tx_60⟩ := ex_add (-2147483648) 2147483647 rx_58 rc_0 (by decide) (by decide) (by decide) (by decide)
          refine g_iadd C (v := x_60) dX12_share_244 hx_60 ?_
          exact g_zret (ty := .int) (r := x_60) B K rfl (rfl) ⟨hU_4, hF_5, hG_6, rx_60⟩ dX12_share_245
        · skip
          have r_61 := lt_l (hi := 2147483646) (nle h_59) (rg_all v_13) (rg_all v_12) (by decide)
          have r_62 := lt_r (lo := (-2147483647)) (nle h_59) (rg_all v_13) (rg_all v_12) (by decide)
          refine g_iconst C (v := 1) dX12_share_239 (by decide) ?_
          refine g_goto C (tgt := 244) dX12_share_240 (by decide) ?_
          obtain ⟨x_63, hx_63, rx_63⟩ := ex_any (z0 := x_58 + 1)
          refine g_iadd C (v := x_63) dX12_share_244 hx_63 ?_
          exact g_zret (ty := .int) (r := x_63) B K rfl (rfl) ⟨hU_4, hF_5, hG_6, rx_63⟩ dX12_share_245
      · skip
        have r_64 := lt_l (hi := 6) (nle h_53) rv_15 rc_7 (by decide)
        refine g_iload_n C 2 dX12_share_140 rfl rfl ?_
        refine g_iload C 9 dX12_share_141 rfl ?_
        refine g_callSI C K (c_X12_has W9 a1 v_15  hU_4) s_12_231 rfl ⟨rfl, rfl⟩ ⟨Nat.le_of_ble_eq_true rfl, Nat.le_of_ble_eq_true rfl⟩ (Nat.le_of_ble_eq_true rfl) ⟨Nat.le_of_ble_eq_true rfl, Nat.le_of_ble_eq_true rfl⟩ dX12_share_143 rfl (st := []) (fun x_65 I_66 J_67 h_68 => ?_)
        obtain ⟨rfl, rfl, rx_65, ex_65⟩ := h_68
        refine g_if_ne C (tgt := 152) dX12_share_146 (by decide) (fun h_69 => ?_) (fun h_69 => ?_)
        · skip
          have n_70 : ¬ x_65 = 0 := h_69
          have r_71 := ne_lo (lo := 1) n_70 rx_65 rc_0 rfl (by decide)
          refine g_iload C 5 dX12_share_152 rfl ?_
          refine g_aload_n C 0 dX12_share_154 rfl rfl ?_
          refine g_getR C K hLx hkx f_12_13 hb_1 dX12_share_155 ?_
          refine g_iconst C (v := 4) dX12_share_158 (by decide) ?_
          refine g_iload C 9 dX12_share_159 rfl ?_
          obtain ⟨x_72, hx_72, rx_72, tx_72⟩ := ex_add 4 10 rc_4 r_64 (by decide) (by decide) (by decide) (by decide)
          refine g_iadd C (v := x_72) dX12_share_161 hx_72 ?_
          obtain ⟨x_73, hx_73, rx_73⟩ := ex_getw (I := I_2) (a := b_1) (j := x_72.toNatClampNeg) (lo := 0) (hi := 20) hU_4.1 hb_1L (ro_a hb_1k (by decide) hb_1o hkx rfl) (bn_834.trans (zq_4 (ix_k (lo := 4) (hi := 10) rx_72 (by decide) (by decide) (by decide))))
          refine h_iald C K hb_1L hb_1k (v := x_73) (x_72.toNatClampNeg) (rfl) (ix_0 rx_72 (by decide)) (ix_lt rx_72 (by decide) hb_1n (by decide)) hx_73 dX12_share_162 ?_
          obtain ⟨x_74, hx_74, rx_74⟩ := ex_any (z0 := v_11 * x_73)
          refine g_imul C (v := x_74) dX12_share_163 hx_74 ?_
          refine g_iload C 4 dX12_share_164 rfl ?_
          obtain ⟨x_75, hx_75, rx_75⟩ := ex_any (z0 := x_74 - x_74 / v_10 * v_10)
          refine g_irem C (v := x_75) dX12_share_166 nv_10_0 hx_75 ?_
          refine g_istore C dX12_share_167 (by decide) (lo2 := [(10, .int x_75), (0, .ref x), (1, .int a0), (2, .int a1), (3, .int a2), (4, .int v_10), (5, .int v_11), (6, .int v_12), (7, .int v_13), (8, .int v_14), (9, .int v_15)]) rfl ?_
          refine g_iload C 7 dX12_share_169 rfl ?_
          refine g_iload C 6 dX12_share_171 rfl ?_
          refine g_aload_n C 1 dX12_share_173 rfl rfl ?_
          refine g_getR C K hLx hkx f_12_13 hb_1 dX12_share_174 ?_
          refine g_iconst C (v := 4) dX12_share_177 (by decide) ?_
          refine g_iload C 10 dX12_share_178 rfl ?_
          refine g_iadd C (v := x_72) dX12_share_180 hx_72 ?_
          refine h_iald C K hb_1L hb_1k (v := x_73) (x_72.toNatClampNeg) (rfl) (ix_0 rx_72 (by decide)) (ix_lt rx_72 (by decide) hb_1n (by decide)) hx_73 dX12_share_181 ?_
          refine g_imul C (v := x_74) dX12_share_182 hx_74 ?_
          refine g_iload C 5 dX12_share_183 rfl ?_
          obtain ⟨x_77, hx_77, rx_77⟩ := ex_any (z0 := x_74 / v_10)
          refine g_idiv C (v := x_77) dX12_share_185 nv_10_0 hx_77 ?_
          obtain ⟨x_78, hx_78, rx_78⟩ := ex_any (z0 := v_12 - x_77)
          refine g_isub C (v := x_78) dX12_share_186 hx_78 ?_
          refine g_istore C dX12_share_187 (by decide) (lo2 := [(6, .int x_78), (10, .int x_75), (0, .ref x), (1, .int a0), (2, .int a1), (3, .int a2), (4, .int v_10), (5, .int v_11), (7, .int v_13), (8, .int v_14), (9, .int v_15)]) rfl ?_
          refine g_iload C 1 dX12_share_189 rfl ?_
          refine g_iload C 9 dX12_share_191 rfl ?_
          refine g_icmp_gt C (tgt := 209) dX12_share_193 (by decide) (fun h_79 => ?_) (fun h_79 => ?_)
          · skip
            have r_80 := lt_l (hi := 2147483646) (h_79) (rg_all v_14) rx_75 (by decide)
            have r_81 := lt_r (lo := (-2147483647)) (h_79) (rg_all v_14) rx_75 (by decide)
            refine g_lo (is := [2, 3, 4, 5, 6, 7, 0, 8, 9, 10, 1]) (lo2 := [(0, .ref x), (1, .int a0), (2, .int a1), (3, .int a2), (4, .int v_10), (5, .int v_11), (6, .int x_78), (7, .int v_13), (8, .int v_14), (9, .int v_15), (10, .int x_75)]) rfl ?_
            exact j_209 I_2 J_3 hU_4 hF_5 hG_6 (r_7) (r_8) (r_9) v_10 (nv_10_0) v_11 (rv_11) x_78 v_13 v_14 v_15 (r_64) x_75 q_16 hm_17
          · skip
            refine g_iload C 1 dX12_share_196 rfl ?_
            refine g_iload C 9 dX12_share_198 rfl ?_
            refine g_icmp_ne C (tgt := 212) dX12_share_200 (by decide) (fun h_82 => ?_) (fun h_82 => ?_)
            · skip
              refine g_lo (is := [2, 3, 4, 5, 6, 7, 0, 8, 9, 10]) (lo2 := [(0, .ref x), (1, .int a0), (2, .int a1), (3, .int a2), (4, .int v_10), (5, .int v_11), (6, .int x_78), (7, .int v_13), (8, .int v_14), (9, .int v_15)]) rfl ?_
              exact j_212 I_2 J_3 hU_4 hF_5 hG_6 (r_7) (r_8) (r_9) v_10 (nv_10_0) v_11 (rv_11) x_78 v_13 v_14 v_15 (r_64) q_16 hm_17
            · skip
              refine g_iload C 10 dX12_share_203 rfl ?_
              refine g_iload_n C 5 dX12_share_205 rfl rfl ?_
              refine g_icmp_ge C (tgt := 212) dX12_share_206 (by decide) (fun h_83 => ?_) (fun h_83 => ?_)
              · skip
                refine g_lo (is := [2, 3, 4, 5, 6, 7, 0, 8, 9, 10]) (lo2 := [(0, .ref x), (1, .int a0), (2, .int a1), (3, .int a2), (4, .int v_10), (5, .int v_11), (6, .int x_78), (7, .int v_13), (8, .int v_14), (9, .int v_15)]) rfl ?_
                exact j_212 I_2 J_3 hU_4 hF_5 hG_6 (r_7) (r_8) (r_9) v_10 (nv_10_0) v_11 (rv_11) x_78 v_13 v_14 v_15 (r_64) q_16 hm_17
              · skip
                have r_84 := lt_l (hi := 5) (nle h_83) r_64 r_9 (by decide)
                have r_85 := lt_r (lo := 1) (nle h_83) r_64 r_9 (by decide)
                refine g_lo (is := [2, 3, 4, 5, 6, 7, 0, 8, 9, 10, 1]) (lo2 := [(0, .ref x), (1, .int a0), (2, .int a1), (3, .int a2), (4, .int v_10), (5, .int v_11), (6, .int x_78), (7, .int v_13), (8, .int v_14), (9, .int v_15), (10, .int x_75)]) rfl ?_
                exact j_209 I_2 J_3 hU_4 hF_5 hG_6 (r_7) (r_8) (rg_w r_85 (by decide) (by decide)) v_10 (nv_10_0) v_11 (rv_11) x_78 v_13 v_14 v_15 (rg_w r_84 (by decide) (by decide)) x_75 q_16 hm_17
        · skip
          have r_86 := (⟨(rx_65).1, (eq_rg (h_69) rc_0).2⟩ : Rg 0 0 x_65)
          refine g_goto C (tgt := 212) dX12_share_149 (by decide) ?_
          refine g_lo (is := [0, 1, 2, 3, 4, 5, 6, 7, 8, 9]) (lo2 := [(0, .ref x), (1, .int a0), (2, .int a1), (3, .int a2), (4, .int v_10), (5, .int v_11), (6, .int v_12), (7, .int v_13), (8, .int v_14), (9, .int v_15)]) rfl ?_
          exact j_212 I_2 J_3 hU_4 hF_5 hG_6 (r_7) (r_8) (r_9) v_10 (nv_10_0) v_11 (rv_11) v_12 v_13 v_14 v_15 (r_64) q_16 hm_17
  have l_53 : ∀ (n_53 : Nat) (I_87 : Nat → Nat → Int32) (J_88 : Nat → Nat → Int64) (hU_89 : Iw L κ R ow I_87) (hF_90 : Fq L κ ow [1200] I I_87) (hG_91 : Fq L κ ow [] J J_88) (r_92 : Rg 0 5 a0) (r_93 : Rg 0 127 a1) (r_94 : Rg 0 6 a2) (v_95 : Int32) (v_96 : Int32) (rv_96 : Rg 0 7 v_96) (q_97 : I_87 x 0 = 0) (hm_98 : 7 < (v_96 : Int32).toInt + (n_53 : Int)), WG p l e { frames := 2, cells := 0, slots := 0, locals := 43 } s m ([.ref x, .int a0, .int a1, .int a2] : List Value).toArray below meth c 11 0 0 (MQ below (Qi_ D cy L κ ln R (fun r I2 J2 => Iw L κ R ow I2 ∧ Fq L κ ow [1200] I I2 ∧ Fq L κ ow [] J J2 ∧ Rg (-2147483648) 2147483647 r)) ([.ref x, .int a0, .int a1, .int a2] : List Value).toArray s 0 0 (Al_ L)) D cy (Al_ L) s.heap L κ ln R I_87 J_88 53 [(0, .ref x), (1, .int a0), (2, .int a1), (3, .int a2), (4, .int v_95), (5, .int v_96)] [] := by
    intro n_53
    induction n_53 with
    | zero =>
      intro I_87 J_88 hU_89 hF_90 hG_91 r_92 r_93 r_94 v_95 v_96 rv_96 q_97 hm_98
      exact ms_0 rv_96 hm_98
    | succ n_53 ih_53 =>
      intro I_87 J_88 hU_89 hF_90 hG_91 r_92 r_93 r_94 v_95 v_96 rv_96 q_97 hm_98
      have j_83 : ∀ (I_99 : Nat → Nat → Int32) (J_100 : Nat → Nat → Int64) (hU_101 : Iw L κ R ow I_99) (hF_102 : Fq L κ ow [1200] I I_99) (hG_103 : Fq L κ ow [] J J_100) (r_104 : Rg 0 5 a0) (r_105 : Rg 0 127 a1) (r_106 : Rg 0 6 a2) (v_107 : Int32) (v_108 : Int32) (rv_108 : Rg 0 6 v_108) (q_109 : I_99 x 0 = 0) (hm_110 : 7 < (v_108 : Int32).toInt + ((n_53 + 1 : Nat) : Int)), WG p l e { frames := 2, cells := 0, slots := 0, locals := 43 } s m ([.ref x, .int a0, .int a1, .int a2] : List Value).toArray below meth c 11 0 0 (MQ below (Qi_ D cy L κ ln R (fun r I2 J2 => Iw L κ R ow I2 ∧ Fq L κ ow [1200] I I2 ∧ Fq L κ ow [] J J2 ∧ Rg (-2147483648) 2147483647 r)) ([.ref x, .int a0, .int a1, .int a2] : List Value).toArray s 0 0 (Al_ L)) D cy (Al_ L) s.heap L κ ln R I_99 J_100 83 [(0, .ref x), (1, .int a0), (2, .int a1), (3, .int a2), (4, .int v_107), (5, .int v_108)] [] := by
        intro I_99 J_100 hU_101 hF_102 hG_103 r_104 r_105 r_106 v_107 v_108 rv_108 q_109 hm_110
        obtain ⟨x_111, hx_111, rx_111, tx_111⟩ := ex_add (y := 1) 1 7 rv_108 rc_1 (by decide) (by decide) (by decide) (by decide)
        refine g_iinc C dX12_share_83 (k := 5) (v := x_111) rfl hx_111 (by decide) (lo2 := [(5, .int x_111), (0, .ref x), (1, .int a0), (2, .int a1), (3, .int a2), (4, .int v_107)]) rfl ?_
        refine g_goto C (tgt := 53) dX12_share_86 (by decide) ?_
        refine g_lo (is := [1, 2, 3, 4, 5, 0]) (lo2 := [(0, .ref x), (1, .int a0), (2, .int a1), (3, .int a2), (4, .int v_107), (5, .int x_111)]) rfl ?_
        exact ih_53 I_99 J_100 hU_101 hF_102 hG_103 (r_104) (r_105) (r_106) v_107 x_111 (rg_w rx_111 (by decide) (by decide)) q_109 (ms_1 hm_110 (ti_k tx_111 rc_1) (by decide))
      refine g_iload C 5 dX12_share_53 rfl ?_
      refine g_bipush C (v := 7) dX12_share_55 (by decide) ?_
      refine g_icmp_ge C (tgt := 89) dX12_share_57 (by decide) (fun h_112 => ?_) (fun h_112 => ?_)
      · skip
        have r_113 := le_r (h_112) rc_7 rv_96
        refine g_iload C 4 dX12_share_89 rfl ?_
        refine g_if_ne C (tgt := 96) dX12_share_91 (by decide) (fun h_114 => ?_) (fun h_114 => ?_)
        · skip
          have n_115 : ¬ v_95 = 0 := h_114
          refine g_aload_n C 0 dX12_share_96 rfl rfl ?_
          refine g_getR C K hLx hkx f_12_13 hb_1 dX12_share_97 ?_
          refine g_bipush C (v := 78) dX12_share_100 (by decide) ?_
          refine g_iload_n C 1 dX12_share_102 rfl rfl ?_
          obtain ⟨x_116, hx_116, rx_116, tx_116⟩ := ex_add 78 83 rc_78 r_92 (by decide) (by decide) (by decide) (by decide)
          refine g_iadd C (v := x_116) dX12_share_103 hx_116 ?_
          obtain ⟨x_117, hx_117, rx_117⟩ := ex_getw (I := I_87) (a := b_1) (j := x_116.toNatClampNeg) (lo := 0) (hi := 379) hU_89.1 hb_1L (ro_a hb_1k (by decide) hb_1o hkx rfl) (bn_834.trans (zq_78 (ix_k (lo := 78) (hi := 83) rx_116 (by decide) (by decide) (by decide))))
          refine h_iald C K hb_1L hb_1k (v := x_117) (x_116.toNatClampNeg) (rfl) (ix_0 rx_116 (by decide)) (ix_lt rx_116 (by decide) hb_1n (by decide)) hx_117 dX12_share_104 ?_
          refine g_istore C dX12_share_105 (by decide) (lo2 := [(5, .int x_117), (0, .ref x), (1, .int a0), (2, .int a1), (3, .int a2), (4, .int v_95)]) rfl ?_
          refine g_iload C 0 dX12_share_107 rfl ?_
          refine g_istore C dX12_share_109 (by decide) (lo2 := [(6, .int x_117), (5, .int x_117), (0, .ref x), (1, .int a0), (2, .int a1), (3, .int a2), (4, .int v_95)]) rfl ?_
          refine g_iconst C (v := 0) dX12_share_111 (by decide) ?_
          refine g_istore C dX12_share_112 (by decide) (lo2 := [(7, .int 0), (6, .int x_117), (5, .int x_117), (0, .ref x), (1, .int a0), (2, .int a1), (3, .int a2), (4, .int v_95)]) rfl ?_
          refine g_iload C 2 dX12_share_114 rfl ?_
          refine g_aload_n C 3 dX12_share_116 rfl rfl ?_
          refine g_getR C K hLx hkx f_12_13 hb_1 dX12_share_117 ?_
          refine g_iconst C (v := 4) dX12_share_120 (by decide) ?_
          refine g_iload_n C 6 dX12_share_121 rfl rfl ?_
          obtain ⟨x_118, hx_118, rx_118, tx_118⟩ := ex_add 4 10 rc_4 r_94 (by decide) (by decide) (by decide) (by decide)
          refine g_iadd C (v := x_118) dX12_share_122 hx_118 ?_
          obtain ⟨x_119, hx_119, rx_119⟩ := ex_getw (I := I_87) (a := b_1) (j := x_118.toNatClampNeg) (lo := 0) (hi := 20) hU_89.1 hb_1L (ro_a hb_1k (by decide) hb_1o hkx rfl) (bn_834.trans (zq_4 (ix_k (lo := 4) (hi := 10) rx_118 (by decide) (by decide) (by decide))))
          refine h_iald C K hb_1L hb_1k (v := x_119) (x_118.toNatClampNeg) (rfl) (ix_0 rx_118 (by decide)) (ix_lt rx_118 (by decide) hb_1n (by decide)) hx_119 dX12_share_123 ?_
          obtain ⟨x_120, hx_120, rx_120⟩ := ex_any (z0 := x_117 * x_119)
          refine g_imul C (v := x_120) dX12_share_124 hx_120 ?_
          refine g_iload C 7 dX12_share_125 rfl ?_
          obtain ⟨x_121, hx_121, rx_121⟩ := ex_any (z0 := x_120 - x_120 / v_95 * v_95)
          refine g_irem C (v := x_121) dX12_share_127 n_115 hx_121 ?_
          refine g_istore C dX12_share_128 (by decide) (lo2 := [(8, .int x_121), (7, .int 0), (6, .int x_117), (5, .int x_117), (0, .ref x), (1, .int a0), (2, .int a1), (3, .int a2), (4, .int v_95)]) rfl ?_
          refine g_iconst C (v := 0) dX12_share_130 (by decide) ?_
          refine g_istore C dX12_share_131 (by decide) (lo2 := [(9, .int 0), (8, .int x_121), (7, .int 0), (6, .int x_117), (5, .int x_117), (0, .ref x), (1, .int a0), (2, .int a1), (3, .int a2), (4, .int v_95)]) rfl ?_
          refine g_lo (is := [5, 6, 7, 8, 9, 4, 3, 2, 1, 0]) (lo2 := [(0, .ref x), (1, .int a0), (2, .int a1), (3, .int a2), (4, .int v_95), (5, .int x_117), (6, .int x_117), (7, .int 0), (8, .int x_121), (9, .int 0)]) rfl ?_
          exact l_133 8 I_87 J_88 hU_89 hF_90 hG_91 (r_92) (r_93) (r_94) v_95 (n_115) x_117 (rx_117) x_117 0 x_121 0 (rg_w rc_0 (by decide) (by decide)) q_97 (ms_s (a := 0) (b := 7) (N := 8) (rg_w rc_0 (by decide) (by decide)) (by decide))
        · skip
          have r_122 := (⟨(eq_rg (h_114) rc_0).1, (eq_rg (h_114) rc_0).2⟩ : Rg 0 0 v_95)
          refine g_iconst C (v := 0) dX12_share_94 (by decide) ?_
          exact g_zret (ty := .int) (r := 0) B K rfl (rfl) ⟨hU_89, hF_90, hG_91, rg_all _⟩ dX12_share_95
      · skip
        have r_123 := lt_l (hi := 6) (nle h_112) rv_96 rc_7 (by decide)
        refine g_iload_n C 2 dX12_share_60 rfl rfl ?_
        refine g_iload C 5 dX12_share_61 rfl ?_
        refine g_callSI C K (c_X12_has W9 a1 v_96  hU_89) s_12_231 rfl ⟨rfl, rfl⟩ ⟨Nat.le_of_ble_eq_true rfl, Nat.le_of_ble_eq_true rfl⟩ (Nat.le_of_ble_eq_true rfl) ⟨Nat.le_of_ble_eq_true rfl, Nat.le_of_ble_eq_true rfl⟩ dX12_share_63 rfl (st := []) (fun x_124 I_125 J_126 h_127 => ?_)
        obtain ⟨rfl, rfl, rx_124, ex_124⟩ := h_127
        refine g_if_eq C (tgt := 83) dX12_share_66 (by decide) (fun h_128 => ?_) (fun h_128 => ?_)
        · skip
          have r_129 := (⟨(rx_124).1, (eq_rg (h_128) rc_0).2⟩ : Rg 0 0 x_124)
          refine g_lo (is := [0, 1, 2, 3, 4, 5]) (lo2 := [(0, .ref x), (1, .int a0), (2, .int a1), (3, .int a2), (4, .int v_95), (5, .int v_96)]) rfl ?_
          exact j_83 I_87 J_88 hU_89 hF_90 hG_91 (r_92) (r_93) (r_94) v_95 v_96 (r_123) q_97 hm_98
        · skip
          have n_130 : ¬ x_124 = 0 := h_128
          have r_131 := ne_lo (lo := 1) n_130 rx_124 rc_0 rfl (by decide)
          refine g_iload C 4 dX12_share_69 rfl ?_
          refine g_aload_n C 0 dX12_share_71 rfl rfl ?_
          refine g_getR C K hLx hkx f_12_13 hb_1 dX12_share_72 ?_
          refine g_iconst C (v := 4) dX12_share_75 (by decide) ?_
          refine g_iload C 5 dX12_share_76 rfl ?_
          obtain ⟨x_132, hx_132, rx_132, tx_132⟩ := ex_add 4 10 rc_4 r_123 (by decide) (by decide) (by decide) (by decide)
          refine g_iadd C (v := x_132) dX12_share_78 hx_132 ?_
          obtain ⟨x_133, hx_133, rx_133⟩ := ex_getw (I := I_87) (a := b_1) (j := x_132.toNatClampNeg) (lo := 0) (hi := 20) hU_89.1 hb_1L (ro_a hb_1k (by decide) hb_1o hkx rfl) (bn_834.trans (zq_4 (ix_k (lo := 4) (hi := 10) rx_132 (by decide) (by decide) (by decide))))
          refine h_iald C K hb_1L hb_1k (v := x_133) (x_132.toNatClampNeg) (rfl) (ix_0 rx_132 (by decide)) (ix_lt rx_132 (by decide) hb_1n (by decide)) hx_133 dX12_share_79 ?_
          obtain ⟨x_134, hx_134, rx_134⟩ := ex_any (z0 := v_95 + x_133)
          refine g_iadd C (v := x_134) dX12_share_80 hx_134 ?_
          refine g_istore C dX12_share_81 (by decide) (lo2 := [(4, .int x_134), (0, .ref x), (1, .int a0), (2, .int a1), (3, .int a2), (5, .int v_96)]) rfl ?_
          refine g_lo (is := [1, 2, 3, 4, 0, 5]) (lo2 := [(0, .ref x), (1, .int a0), (2, .int a1), (3, .int a2), (4, .int x_134), (5, .int v_96)]) rfl ?_
          exact j_83 I_87 J_88 hU_89 hF_90 hG_91 (r_92) (r_93) (r_94) x_134 v_96 (r_123) q_97 hm_98
  refine g_aload_n C 0 dX12_share_0 rfl rfl ?_
  refine g_iconst C (v := 0) dX12_share_1 (by decide) ?_
  refine h_putI C K hLx hkx f_12_82 p_12_0 dX12_share_2 (fun I_135 hI_135 => ?_)
  have hU_136 := iw_put W9 hU hI_135 (ro_o hkx (by decide)) (lo := (-2147483648)) (hi := 2147483647) (rfl) (rg_all _) rfl
  have hF_137 := fq_puto hF hI_135 hkx (by decide) (by decide)
  refine g_aload_n C 0 dX12_share_5 rfl rfl ?_
  refine g_iload_n C 1 dX12_share_6 rfl rfl ?_
  refine g_callVI C K (c_X12_isDish W9 hLx hkx a0  hU_136) hLx hkx (by decide) rfl v_12_250 rfl ⟨rfl, rfl⟩ ⟨Nat.le_of_ble_eq_true rfl, Nat.le_of_ble_eq_true rfl⟩ (Nat.le_of_ble_eq_true rfl) ⟨Nat.le_of_ble_eq_true rfl, Nat.le_of_ble_eq_true rfl⟩ dX12_share_7 rfl (st := []) (fun x_138 I_139 J_140 h_141 => ?_)
  obtain ⟨rfl, rfl, rx_138, ex_138⟩ := h_141
  refine g_if_eq C (tgt := 45) dX12_share_10 (by decide) (fun h_142 => ?_) (fun h_142 => ?_)
  · skip
    have r_143 := (⟨(rx_138).1, (eq_rg (h_142) rc_0).2⟩ : Rg 0 0 x_138)
    refine g_iconst C (v := (-1)) dX12_share_45 (by decide) ?_
    exact g_zret (ty := .int) (r := (-1)) B K rfl (rfl) ⟨hU_136, hF_137, hG, rg_all _⟩ dX12_share_46
  · skip
    have n_144 : ¬ x_138 = 0 := h_142
    have r_145 := ne_lo (lo := 1) n_144 rx_138 rc_0 rfl (by decide)
    have r_146 := rg_i (rg_all a0) ((ex_138) n_144) (lo := 0) (hi := 5) (by decide) (by decide)
    refine g_iload_n C 2 dX12_share_13 rfl rfl ?_
    refine g_if_lt C (tgt := 45) dX12_share_14 (by decide) (fun h_147 => ?_) (fun h_147 => ?_)
    · skip
      have r_148 := lt_l (hi := (-1)) (h_147) (rg_all a1) rc_0 (by decide)
      refine g_iconst C (v := (-1)) dX12_share_45 (by decide) ?_
      exact g_zret (ty := .int) (r := (-1)) B K rfl (rfl) ⟨hU_136, hF_137, hG, rg_all _⟩ dX12_share_46
    · skip
      have r_149 := le_r (nlt h_147) rc_0 (rg_all a1)
      refine g_iload_n C 2 dX12_share_17 rfl rfl ?_
      refine g_iconst C (v := 1) dX12_share_18 (by decide) ?_
      refine g_aload_n C 0 dX12_share_19 rfl rfl ?_
      refine g_getR C K hLx hkx f_12_13 hb_1 dX12_share_20 ?_
      refine g_iconst C (v := 0) dX12_share_23 (by decide) ?_
      obtain ⟨x_150, hx_150, rx_150⟩ := ex_getw (I := I_135) (a := b_1) (j := 0) (lo := 0) (hi := 7) hU_136.1 hb_1L (ro_a hb_1k (by decide) hb_1o hkx rfl) (by decide)
      refine h_iald C K hb_1L hb_1k (v := x_150) (0) (by decide) (by decide) (by rw [hb_1n]; decide) hx_150 dX12_share_24 ?_
      obtain ⟨x_151, hx_151, rx_151⟩ := ex_shl (x := 1) (y := x_150) 7 128 rfl (rx_150) (by decide)
      refine g_ishl C (v := x_151) dX12_share_25 hx_151 ?_
      refine g_icmp_ge C (tgt := 45) dX12_share_26 (by decide) (fun h_152 => ?_) (fun h_152 => ?_)
      · skip
        have r_153 := le_r (h_152) rx_151 r_149
        refine g_iconst C (v := (-1)) dX12_share_45 (by decide) ?_
        exact g_zret (ty := .int) (r := (-1)) B K rfl (rfl) ⟨hU_136, hF_137, hG, rg_all _⟩ dX12_share_46
      · skip
        have r_154 := lt_l (hi := 127) (nle h_152) r_149 rx_151 (by decide)
        refine g_aload_n C 0 dX12_share_29 rfl rfl ?_
        refine g_iload_n C 3 dX12_share_30 rfl rfl ?_
        refine g_callVI C K (c_X12_isPerson W9 hLx hkx a2  hU_136) hLx hkx (by decide) rfl v_12_238 rfl ⟨rfl, rfl⟩ ⟨Nat.le_of_ble_eq_true rfl, Nat.le_of_ble_eq_true rfl⟩ (Nat.le_of_ble_eq_true rfl) ⟨Nat.le_of_ble_eq_true rfl, Nat.le_of_ble_eq_true rfl⟩ dX12_share_31 rfl (st := []) (fun x_155 I_156 J_157 h_158 => ?_)
        obtain ⟨rfl, rfl, rx_155, ex_155⟩ := h_158
        refine g_if_eq C (tgt := 45) dX12_share_34 (by decide) (fun h_159 => ?_) (fun h_159 => ?_)
        · skip
          have r_160 := (⟨(rx_155).1, (eq_rg (h_159) rc_0).2⟩ : Rg 0 0 x_155)
          refine g_iconst C (v := (-1)) dX12_share_45 (by decide) ?_
          exact g_zret (ty := .int) (r := (-1)) B K rfl (rfl) ⟨hU_136, hF_137, hG, rg_all _⟩ dX12_share_46
        · skip
          have n_161 : ¬ x_155 = 0 := h_159
          have r_162 := ne_lo (lo := 1) n_161 rx_155 rc_0 rfl (by decide)
          have r_163 := rg_i (rg_all a2) ((ex_155) n_161) (lo := 0) (hi := 6) (by decide) (by decide)
          refine g_iload_n C 2 dX12_share_37 rfl rfl ?_
          refine g_iload_n C 3 dX12_share_38 rfl rfl ?_
          refine g_callSI C K (c_X12_has W9 a1 a2  hU_136) s_12_231 rfl ⟨rfl, rfl⟩ ⟨Nat.le_of_ble_eq_true rfl, Nat.le_of_ble_eq_true rfl⟩ (Nat.le_of_ble_eq_true rfl) ⟨Nat.le_of_ble_eq_true rfl, Nat.le_of_ble_eq_true rfl⟩ dX12_share_39 rfl (st := []) (fun x_164 I_165 J_166 h_167 => ?_)
          obtain ⟨rfl, rfl, rx_164, ex_164⟩ := h_167
          refine g_if_ne C (tgt := 47) dX12_share_42 (by decide) (fun h_168 => ?_) (fun h_168 => ?_)
          · skip
            have n_169 : ¬ x_164 = 0 := h_168
            have r_170 := ne_lo (lo := 1) n_169 rx_164 rc_0 rfl (by decide)
            refine g_iconst C (v := 0) dX12_share_47 (by decide) ?_
            refine g_istore C dX12_share_48 (by decide) (lo2 := [(4, .int 0), (0, .ref x), (1, .int a0), (2, .int a1), (3, .int a2)]) rfl ?_
            refine g_iconst C (v := 0) dX12_share_50 (by decide) ?_
            refine g_istore C dX12_share_51 (by decide) (lo2 := [(5, .int 0), (4, .int 0), (0, .ref x), (1, .int a0), (2, .int a1), (3, .int a2)]) rfl ?_
            refine g_lo (is := [2, 3, 4, 5, 1, 0]) (lo2 := [(0, .ref x), (1, .int a0), (2, .int a1), (3, .int a2), (4, .int 0), (5, .int 0)]) rfl ?_
            exact l_53 8 I_135 J hU_136 hF_137 hG (r_146) (r_154) (r_163) 0 0 (rg_w rc_0 (by decide) (by decide)) (kp_s hI_135) (ms_s (a := 0) (b := 7) (N := 8) (rg_w rc_0 (by decide) (by decide)) (by decide))
          · skip
            have r_171 := (⟨(rx_164).1, (eq_rg (h_168) rc_0).2⟩ : Rg 0 0 x_164)
            refine g_iconst C (v := (-1)) dX12_share_45 (by decide) ?_
            exact g_zret (ty := .int) (r := (-1)) B K rfl (rfl) ⟨hU_136, hF_137, hG, rg_all _⟩ dX12_share_46
