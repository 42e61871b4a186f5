theorem dX12_count_0 : decode cX12_count 0 = .ok (.aload_n 0, 1) := by decide +kernel
theorem dX12_count_1 : decode cX12_count 1 = .ok (.iconst 0, 1) := by decide +kernel
theorem dX12_count_2 : decode cX12_count 2 = .ok (.putfield 82, 3) := by decide +kernel
theorem dX12_count_5 : decode cX12_count 5 = .ok (.iload_n 1, 1) := by decide +kernel
theorem dX12_count_6 : decode cX12_count 6 = .ok (.tableswitch 67 0 4 #[34, 41, 48, 55, 62], 34) := by decide +kernel
theorem dX12_count_40 : decode cX12_count 40 = .ok (.aload_n 0, 1) := by decide +kernel
theorem dX12_count_41 : decode cX12_count 41 = .ok (.getfield 13, 3) := by decide +kernel
theorem dX12_count_44 : decode cX12_count 44 = .ok (.iconst 0, 1) := by decide +kernel
theorem dX12_count_45 : decode cX12_count 45 = .ok (.iaload, 1) := by decide +kernel
theorem dX12_count_46 : decode cX12_count 46 = .ok (.ireturn, 1) := by decide +kernel
theorem dX12_count_47 : decode cX12_count 47 = .ok (.aload_n 0, 1) := by decide +kernel
theorem dX12_count_48 : decode cX12_count 48 = .ok (.getfield 13, 3) := by decide +kernel
theorem dX12_count_51 : decode cX12_count 51 = .ok (.iconst 1, 1) := by decide +kernel
theorem dX12_count_52 : decode cX12_count 52 = .ok (.iaload, 1) := by decide +kernel
theorem dX12_count_53 : decode cX12_count 53 = .ok (.ireturn, 1) := by decide +kernel
theorem dX12_count_54 : decode cX12_count 54 = .ok (.aload_n 0, 1) := by decide +kernel
theorem dX12_count_55 : decode cX12_count 55 = .ok (.getfield 13, 3) := by decide +kernel
theorem dX12_count_58 : decode cX12_count 58 = .ok (.iconst 2, 1) := by decide +kernel
theorem dX12_count_59 : decode cX12_count 59 = .ok (.iaload, 1) := by decide +kernel
theorem dX12_count_60 : decode cX12_count 60 = .ok (.ireturn, 1) := by decide +kernel
theorem dX12_count_61 : decode cX12_count 61 = .ok (.aload_n 0, 1) := by decide +kernel
theorem dX12_count_62 : decode cX12_count 62 = .ok (.getfield 13, 3) := by decide +kernel
theorem dX12_count_65 : decode cX12_count 65 = .ok (.iconst 3, 1) := by decide +kernel
theorem dX12_count_66 : decode cX12_count 66 = .ok (.iaload, 1) := by decide +kernel
theorem dX12_count_67 : decode cX12_count 67 = .ok (.ireturn, 1) := by decide +kernel
theorem dX12_count_68 : decode cX12_count 68 = .ok (.aload_n 0, 1) := by decide +kernel
theorem dX12_count_69 : decode cX12_count 69 = .ok (.getfield 85, 3) := by decide +kernel
theorem dX12_count_72 : decode cX12_count 72 = .ok (.ireturn, 1) := by decide +kernel
theorem dX12_count_73 : decode cX12_count 73 = .ok (.iconst (-1), 1) := by decide +kernel
theorem dX12_count_74 : decode cX12_count 74 = .ok (.ireturn, 1) := by decide +kernel
theorem dX12_holds_0 : decode cX12_holds 0 = .ok (.sipush 149, 3) := by decide +kernel
theorem dX12_holds_3 : decode cX12_holds 3 = .ok (.iconst 4, 1) := by decide +kernel
theorem dX12_holds_4 : decode cX12_holds 4 = .ok (.iload_n 1, 1) := by decide +kernel
theorem dX12_holds_5 : decode cX12_holds 5 = .ok (.imul, 1) := by decide +kernel
theorem dX12_holds_6 : decode cX12_holds 6 = .ok (.iadd, 1) := by decide +kernel
theorem dX12_holds_7 : decode cX12_holds 7 = .ok (.istore_n 3, 1) := by decide +kernel
theorem dX12_holds_8 : decode cX12_holds 8 = .ok (.aload_n 0, 1) := by decide +kernel
theorem dX12_holds_9 : decode cX12_holds 9 = .ok (.getfield 13, 3) := by decide +kernel
theorem dX12_holds_12 : decode cX12_holds 12 = .ok (.iload_n 3, 1) := by decide +kernel
theorem dX12_holds_13 : decode cX12_holds 13 = .ok (.iconst 1, 1) := by decide +kernel
theorem dX12_holds_14 : decode cX12_holds 14 = .ok (.iadd, 1) := by decide +kernel
theorem dX12_holds_15 : decode cX12_holds 15 = .ok (.iaload, 1) := by decide +kernel
theorem dX12_holds_16 : decode cX12_holds 16 = .ok (.istore 4, 2) := by decide +kernel
theorem dX12_holds_18 : decode cX12_holds 18 = .ok (.aload_n 0, 1) := by decide +kernel
theorem dX12_holds_19 : decode cX12_holds 19 = .ok (.getfield 13, 3) := by decide +kernel
theorem dX12_holds_22 : decode cX12_holds 22 = .ok (.iload_n 3, 1) := by decide +kernel
theorem dX12_holds_23 : decode cX12_holds 23 = .ok (.iconst 2, 1) := by decide +kernel
theorem dX12_holds_24 : decode cX12_holds 24 = .ok (.iadd, 1) := by decide +kernel
theorem dX12_holds_25 : decode cX12_holds 25 = .ok (.iaload, 1) := by decide +kernel
theorem dX12_holds_26 : decode cX12_holds 26 = .ok (.istore 5, 2) := by decide +kernel
theorem dX12_holds_28 : decode cX12_holds 28 = .ok (.aload_n 0, 1) := by decide +kernel
theorem dX12_holds_29 : decode cX12_holds 29 = .ok (.getfield 13, 3) := by decide +kernel
theorem dX12_holds_32 : decode cX12_holds 32 = .ok (.iload_n 3, 1) := by decide +kernel
theorem dX12_holds_33 : decode cX12_holds 33 = .ok (.iaload, 1) := by decide +kernel
theorem dX12_holds_34 : decode cX12_holds 34 = .ok (.lookupswitch 210 #[(1, 74), (2, 90), (3, 116), (69, 142), (70, 148), (71, 160), (72, 174), (73, 194)], 74) := by decide +kernel
theorem dX12_holds_108 : decode cX12_holds 108 = .ok (.aload_n 0, 1) := by decide +kernel
theorem dX12_holds_109 : decode cX12_holds 109 = .ok (.iload 4, 2) := by decide +kernel
theorem dX12_holds_111 : decode cX12_holds 111 = .ok (.iload_n 2, 1) := by decide +kernel
theorem dX12_holds_112 : decode cX12_holds 112 = .ok (.invokevirtual 419, 3) := by decide +kernel
theorem dX12_holds_115 : decode cX12_holds 115 = .ok (.ifCond .ne 7, 3) := by decide +kernel
theorem dX12_holds_118 : decode cX12_holds 118 = .ok (.iconst 1, 1) := by decide +kernel
theorem dX12_holds_119 : decode cX12_holds 119 = .ok (.goto 4, 3) := by decide +kernel
theorem dX12_holds_122 : decode cX12_holds 122 = .ok (.iconst 0, 1) := by decide +kernel
theorem dX12_holds_123 : decode cX12_holds 123 = .ok (.ireturn, 1) := by decide +kernel
theorem dX12_holds_124 : decode cX12_holds 124 = .ok (.aload_n 0, 1) := by decide +kernel
theorem dX12_holds_125 : decode cX12_holds 125 = .ok (.iload 4, 2) := by decide +kernel
theorem dX12_holds_127 : decode cX12_holds 127 = .ok (.iload_n 2, 1) := by decide +kernel
theorem dX12_holds_128 : decode cX12_holds 128 = .ok (.invokevirtual 419, 3) := by decide +kernel
theorem dX12_holds_131 : decode cX12_holds 131 = .ok (.ifCond .eq 17, 3) := by decide +kernel
theorem dX12_holds_134 : decode cX12_holds 134 = .ok (.aload_n 0, 1) := by decide +kernel
theorem dX12_holds_135 : decode cX12_holds 135 = .ok (.iload 5, 2) := by decide +kernel
theorem dX12_holds_137 : decode cX12_holds 137 = .ok (.iload_n 2, 1) := by decide +kernel
theorem dX12_holds_138 : decode cX12_holds 138 = .ok (.invokevirtual 419, 3) := by decide +kernel
theorem dX12_holds_141 : decode cX12_holds 141 = .ok (.ifCond .eq 7, 3) := by decide +kernel
theorem dX12_holds_144 : decode cX12_holds 144 = .ok (.iconst 1, 1) := by decide +kernel
theorem dX12_holds_145 : decode cX12_holds 145 = .ok (.goto 4, 3) := by decide +kernel
theorem dX12_holds_148 : decode cX12_holds 148 = .ok (.iconst 0, 1) := by decide +kernel
theorem dX12_holds_149 : decode cX12_holds 149 = .ok (.ireturn, 1) := by decide +kernel
theorem dX12_holds_150 : decode cX12_holds 150 = .ok (.aload_n 0, 1) := by decide +kernel
theorem dX12_holds_151 : decode cX12_holds 151 = .ok (.iload 4, 2) := by decide +kernel
theorem dX12_holds_153 : decode cX12_holds 153 = .ok (.iload_n 2, 1) := by decide +kernel
theorem dX12_holds_154 : decode cX12_holds 154 = .ok (.invokevirtual 419, 3) := by decide +kernel
theorem dX12_holds_157 : decode cX12_holds 157 = .ok (.ifCond .ne 13, 3) := by decide +kernel
theorem dX12_holds_160 : decode cX12_holds 160 = .ok (.aload_n 0, 1) := by decide +kernel
theorem dX12_holds_161 : decode cX12_holds 161 = .ok (.iload 5, 2) := by decide +kernel
theorem dX12_holds_163 : decode cX12_holds 163 = .ok (.iload_n 2, 1) := by decide +kernel
theorem dX12_holds_164 : decode cX12_holds 164 = .ok (.invokevirtual 419, 3) := by decide +kernel
theorem dX12_holds_167 : decode cX12_holds 167 = .ok (.ifCond .eq 7, 3) := by decide +kernel
theorem dX12_holds_170 : decode cX12_holds 170 = .ok (.iconst 1, 1) := by decide +kernel
theorem dX12_holds_171 : decode cX12_holds 171 = .ok (.goto 4, 3) := by decide +kernel
theorem dX12_holds_174 : decode cX12_holds 174 = .ok (.iconst 0, 1) := by decide +kernel
theorem dX12_holds_175 : decode cX12_holds 175 = .ok (.ireturn, 1) := by decide +kernel
theorem dX12_holds_176 : decode cX12_holds 176 = .ok (.aload_n 0, 1) := by decide +kernel
theorem dX12_holds_177 : decode cX12_holds 177 = .ok (.iload_n 2, 1) := by decide +kernel
theorem dX12_holds_178 : decode cX12_holds 178 = .ok (.invokevirtual 244, 3) := by decide +kernel
theorem dX12_holds_181 : decode cX12_holds 181 = .ok (.ireturn, 1) := by decide +kernel
theorem dX12_holds_182 : decode cX12_holds 182 = .ok (.aload_n 0, 1) := by decide +kernel
theorem dX12_holds_183 : decode cX12_holds 183 = .ok (.getfield 13, 3) := by decide +kernel
theorem dX12_holds_186 : decode cX12_holds 186 = .ok (.bipush 74, 2) := by decide +kernel
theorem dX12_holds_188 : decode cX12_holds 188 = .ok (.iaload, 1) := by decide +kernel
theorem dX12_holds_189 : decode cX12_holds 189 = .ok (.iload_n 2, 1) := by decide +kernel
theorem dX12_holds_190 : decode cX12_holds 190 = .ok (.invokestatic 231, 3) := by decide +kernel
theorem dX12_holds_193 : decode cX12_holds 193 = .ok (.ireturn, 1) := by decide +kernel
theorem dX12_holds_194 : decode cX12_holds 194 = .ok (.aload_n 0, 1) := by decide +kernel
theorem dX12_holds_195 : decode cX12_holds 195 = .ok (.iload_n 2, 1) := by decide +kernel
theorem dX12_holds_196 : decode cX12_holds 196 = .ok (.invokevirtual 247, 3) := by decide +kernel
theorem dX12_holds_199 : decode cX12_holds 199 = .ok (.ifCond .ne 7, 3) := by decide +kernel
theorem dX12_holds_202 : decode cX12_holds 202 = .ok (.iconst 1, 1) := by decide +kernel
theorem dX12_holds_203 : decode cX12_holds 203 = .ok (.goto 4, 3) := by decide +kernel
theorem dX12_holds_206 : decode cX12_holds 206 = .ok (.iconst 0, 1) := by decide +kernel
theorem dX12_holds_207 : decode cX12_holds 207 = .ok (.ireturn, 1) := by decide +kernel
theorem dX12_holds_208 : decode cX12_holds 208 = .ok (.aload_n 0, 1) := by decide +kernel
theorem dX12_holds_209 : decode cX12_holds 209 = .ok (.getfield 13, 3) := by decide +kernel
theorem dX12_holds_212 : decode cX12_holds 212 = .ok (.bipush 11, 2) := by decide +kernel
theorem dX12_holds_214 : decode cX12_holds 214 = .ok (.iload_n 2, 1) := by decide +kernel
theorem dX12_holds_215 : decode cX12_holds 215 = .ok (.iadd, 1) := by decide +kernel
theorem dX12_holds_216 : decode cX12_holds 216 = .ok (.iaload, 1) := by decide +kernel
theorem dX12_holds_217 : decode cX12_holds 217 = .ok (.iload 4, 2) := by decide +kernel
theorem dX12_holds_219 : decode cX12_holds 219 = .ok (.if_icmp .ne 7, 3) := by decide +kernel
theorem dX12_holds_222 : decode cX12_holds 222 = .ok (.iconst 1, 1) := by decide +kernel
theorem dX12_holds_223 : decode cX12_holds 223 = .ok (.goto 4, 3) := by decide +kernel
theorem dX12_holds_226 : decode cX12_holds 226 = .ok (.iconst 0, 1) := by decide +kernel
theorem dX12_holds_227 : decode cX12_holds 227 = .ok (.ireturn, 1) := by decide +kernel
theorem dX12_holds_228 : decode cX12_holds 228 = .ok (.aload_n 0, 1) := by decide +kernel
theorem dX12_holds_229 : decode cX12_holds 229 = .ok (.iload_n 2, 1) := by decide +kernel
theorem dX12_holds_230 : decode cX12_holds 230 = .ok (.iload 4, 2) := by decide +kernel
theorem dX12_holds_232 : decode cX12_holds 232 = .ok (.invokevirtual 234, 3) := by decide +kernel
theorem dX12_holds_235 : decode cX12_holds 235 = .ok (.ifCond .le 7, 3) := by decide +kernel
theorem dX12_holds_238 : decode cX12_holds 238 = .ok (.iconst 1, 1) := by decide +kernel
theorem dX12_holds_239 : decode cX12_holds 239 = .ok (.goto 4, 3) := by decide +kernel
theorem dX12_holds_242 : decode cX12_holds 242 = .ok (.iconst 0, 1) := by decide +kernel
theorem dX12_holds_243 : decode cX12_holds 243 = .ok (.ireturn, 1) := by decide +kernel
theorem dX12_holds_244 : decode cX12_holds 244 = .ok (.aload_n 0, 1) := by decide +kernel
theorem dX12_holds_245 : decode cX12_holds 245 = .ok (.getfield 13, 3) := by decide +kernel
theorem dX12_holds_248 : decode cX12_holds 248 = .ok (.iload_n 3, 1) := by decide +kernel
theorem dX12_holds_249 : decode cX12_holds 249 = .ok (.iaload, 1) := by decide +kernel
theorem dX12_holds_250 : decode cX12_holds 250 = .ok (.bipush 50, 2) := by decide +kernel
theorem dX12_holds_252 : decode cX12_holds 252 = .ok (.isub, 1) := by decide +kernel
theorem dX12_holds_253 : decode cX12_holds 253 = .ok (.istore 6, 2) := by decide +kernel
theorem dX12_holds_255 : decode cX12_holds 255 = .ok (.iload 6, 2) := by decide +kernel
theorem dX12_holds_257 : decode cX12_holds 257 = .ok (.bipush 24, 2) := by decide +kernel
theorem dX12_holds_259 : decode cX12_holds 259 = .ok (.if_icmp .ne 14, 3) := by decide +kernel
theorem dX12_holds_262 : decode cX12_holds 262 = .ok (.aload_n 0, 1) := by decide +kernel
theorem dX12_holds_263 : decode cX12_holds 263 = .ok (.getfield 13, 3) := by decide +kernel
theorem dX12_holds_266 : decode cX12_holds 266 = .ok (.iconst 4, 1) := by decide +kernel
theorem dX12_holds_267 : decode cX12_holds 267 = .ok (.iload_n 2, 1) := by decide +kernel
theorem dX12_holds_268 : decode cX12_holds 268 = .ok (.iadd, 1) := by decide +kernel
theorem dX12_holds_269 : decode cX12_holds 269 = .ok (.iaload, 1) := by decide +kernel
theorem dX12_holds_270 : decode cX12_holds 270 = .ok (.goto 42, 3) := by decide +kernel
theorem dX12_holds_273 : decode cX12_holds 273 = .ok (.iload 6, 2) := by decide +kernel
theorem dX12_holds_275 : decode cX12_holds 275 = .ok (.bipush 25, 2) := by decide +kernel
theorem dX12_holds_277 : decode cX12_holds 277 = .ok (.if_icmp .ne 15, 3) := by decide +kernel
theorem dX12_holds_280 : decode cX12_holds 280 = .ok (.aload_n 0, 1) := by decide +kernel
theorem dX12_holds_281 : decode cX12_holds 281 = .ok (.getfield 13, 3) := by decide +kernel
theorem dX12_holds_284 : decode cX12_holds 284 = .ok (.bipush 84, 2) := by decide +kernel
theorem dX12_holds_286 : decode cX12_holds 286 = .ok (.iload_n 2, 1) := by decide +kernel
theorem dX12_holds_287 : decode cX12_holds 287 = .ok (.iadd, 1) := by decide +kernel
theorem dX12_holds_288 : decode cX12_holds 288 = .ok (.iaload, 1) := by decide +kernel
theorem dX12_holds_289 : decode cX12_holds 289 = .ok (.goto 23, 3) := by decide +kernel
theorem dX12_holds_292 : decode cX12_holds 292 = .ok (.iload 6, 2) := by decide +kernel
theorem dX12_holds_294 : decode cX12_holds 294 = .ok (.bipush 26, 2) := by decide +kernel
theorem dX12_holds_296 : decode cX12_holds 296 = .ok (.if_icmp .ne 15, 3) := by decide +kernel
theorem dX12_holds_299 : decode cX12_holds 299 = .ok (.aload_n 0, 1) := by decide +kernel
theorem dX12_holds_300 : decode cX12_holds 300 = .ok (.getfield 13, 3) := by decide +kernel
theorem dX12_holds_303 : decode cX12_holds 303 = .ok (.bipush 98, 2) := by decide +kernel
theorem dX12_holds_305 : decode cX12_holds 305 = .ok (.iload_n 2, 1) := by decide +kernel
theorem dX12_holds_306 : decode cX12_holds 306 = .ok (.iadd, 1) := by decide +kernel
theorem dX12_holds_307 : decode cX12_holds 307 = .ok (.iaload, 1) := by decide +kernel
theorem dX12_holds_308 : decode cX12_holds 308 = .ok (.goto 4, 3) := by decide +kernel
theorem dX12_holds_311 : decode cX12_holds 311 = .ok (.iload_n 2, 1) := by decide +kernel
theorem dX12_holds_312 : decode cX12_holds 312 = .ok (.istore 7, 2) := by decide +kernel
theorem dX12_holds_314 : decode cX12_holds 314 = .ok (.aload_n 0, 1) := by decide +kernel
theorem dX12_holds_315 : decode cX12_holds 315 = .ok (.getfield 13, 3) := by decide +kernel
theorem dX12_holds_318 : decode cX12_holds 318 = .ok (.iload_n 3, 1) := by decide +kernel
theorem dX12_holds_319 : decode cX12_holds 319 = .ok (.iconst 3, 1) := by decide +kernel
theorem dX12_holds_320 : decode cX12_holds 320 = .ok (.iadd, 1) := by decide +kernel
theorem dX12_holds_321 : decode cX12_holds 321 = .ok (.iaload, 1) := by decide +kernel
theorem dX12_holds_322 : decode cX12_holds 322 = .ok (.bipush 60, 2) := by decide +kernel
theorem dX12_holds_324 : decode cX12_holds 324 = .ok (.if_icmp .ne 18, 3) := by decide +kernel
theorem dX12_holds_327 : decode cX12_holds 327 = .ok (.iload 7, 2) := by decide +kernel
theorem dX12_holds_329 : decode cX12_holds 329 = .ok (.iload 5, 2) := by decide +kernel
theorem dX12_holds_331 : decode cX12_holds 331 = .ok (.if_icmp .ge 7, 3) := by decide +kernel
theorem dX12_holds_334 : decode cX12_holds 334 = .ok (.iconst 1, 1) := by decide +kernel
theorem dX12_holds_335 : decode cX12_holds 335 = .ok (.goto 47, 3) := by decide +kernel
theorem dX12_holds_338 : decode cX12_holds 338 = .ok (.iconst 0, 1) := by decide +kernel
theorem dX12_holds_339 : decode cX12_holds 339 = .ok (.goto 43, 3) := by decide +kernel
theorem dX12_holds_342 : decode cX12_holds 342 = .ok (.aload_n 0, 1) := by decide +kernel
theorem dX12_holds_343 : decode cX12_holds 343 = .ok (.getfield 13, 3) := by decide +kernel
theorem dX12_holds_346 : decode cX12_holds 346 = .ok (.iload_n 3, 1) := by decide +kernel
theorem dX12_holds_347 : decode cX12_holds 347 = .ok (.iconst 3, 1) := by decide +kernel
theorem dX12_holds_348 : decode cX12_holds 348 = .ok (.iadd, 1) := by decide +kernel
theorem dX12_holds_349 : decode cX12_holds 349 = .ok (.iaload, 1) := by decide +kernel
theorem dX12_holds_350 : decode cX12_holds 350 = .ok (.bipush 61, 2) := by decide +kernel
theorem dX12_holds_352 : decode cX12_holds 352 = .ok (.if_icmp .ne 18, 3) := by decide +kernel
theorem dX12_holds_355 : decode cX12_holds 355 = .ok (.iload 7, 2) := by decide +kernel
theorem dX12_holds_357 : decode cX12_holds 357 = .ok (.iload 5, 2) := by decide +kernel
theorem dX12_holds_359 : decode cX12_holds 359 = .ok (.if_icmp .ne 7, 3) := by decide +kernel
theorem dX12_holds_362 : decode cX12_holds 362 = .ok (.iconst 1, 1) := by decide +kernel
theorem dX12_holds_363 : decode cX12_holds 363 = .ok (.goto 19, 3) := by decide +kernel
theorem dX12_holds_366 : decode cX12_holds 366 = .ok (.iconst 0, 1) := by decide +kernel
theorem dX12_holds_367 : decode cX12_holds 367 = .ok (.goto 15, 3) := by decide +kernel
theorem dX12_holds_370 : decode cX12_holds 370 = .ok (.iload 7, 2) := by decide +kernel
theorem dX12_holds_372 : decode cX12_holds 372 = .ok (.iload 5, 2) := by decide +kernel
theorem dX12_holds_374 : decode cX12_holds 374 = .ok (.if_icmp .le 7, 3) := by decide +kernel
theorem dX12_holds_377 : decode cX12_holds 377 = .ok (.iconst 1, 1) := by decide +kernel
theorem dX12_holds_378 : decode cX12_holds 378 = .ok (.goto 4, 3) := by decide +kernel
theorem dX12_holds_381 : decode cX12_holds 381 = .ok (.iconst 0, 1) := by decide +kernel
theorem dX12_holds_382 : decode cX12_holds 382 = .ok (.ireturn, 1) := by decide +kernel
theorem dX12_image_0 : decode cX12_image 0 = .ok (.aload_n 0, 1) := by decide +kernel
theorem dX12_image_1 : decode cX12_image 1 = .ok (.iconst 0, 1) := by decide +kernel
theorem dX12_image_2 : decode cX12_image 2 = .ok (.putfield 82, 3) := by decide +kernel
theorem dX12_image_5 : decode cX12_image 5 = .ok (.iload_n 1, 1) := by decide +kernel
theorem dX12_image_6 : decode cX12_image 6 = .ok (.iconst 0, 1) := by decide +kernel
theorem dX12_image_7 : decode cX12_image 7 = .ok (.iconst 1, 1) := by decide +kernel
theorem dX12_image_8 : decode cX12_image 8 = .ok (.invokestatic 149, 3) := by decide +kernel
theorem dX12_image_11 : decode cX12_image 11 = .ok (.ifCond .ne 5, 3) := by decide +kernel
theorem dX12_image_14 : decode cX12_image 14 = .ok (.iconst 0, 1) := by decide +kernel
theorem dX12_image_15 : decode cX12_image 15 = .ok (.ireturn, 1) := by decide +kernel
theorem dX12_image_16 : decode cX12_image 16 = .ok (.iconst 0, 1) := by decide +kernel
theorem dX12_image_17 : decode cX12_image 17 = .ok (.istore_n 2, 1) := by decide +kernel
theorem dX12_image_18 : decode cX12_image 18 = .ok (.iload_n 2, 1) := by decide +kernel
theorem dX12_image_19 : decode cX12_image 19 = .ok (.sipush 389, 3) := by decide +kernel
theorem dX12_image_22 : decode cX12_image 22 = .ok (.if_icmp .ge 27, 3) := by decide +kernel
theorem dX12_image_25 : decode cX12_image 25 = .ok (.aload_n 0, 1) := by decide +kernel
theorem dX12_image_26 : decode cX12_image 26 = .ok (.getfield 19, 3) := by decide +kernel
theorem dX12_image_29 : decode cX12_image 29 = .ok (.sipush 389, 3) := by decide +kernel
theorem dX12_image_32 : decode cX12_image 32 = .ok (.iload_n 1, 1) := by decide +kernel
theorem dX12_image_33 : decode cX12_image 33 = .ok (.imul, 1) := by decide +kernel
theorem dX12_image_34 : decode cX12_image 34 = .ok (.iload_n 2, 1) := by decide +kernel
theorem dX12_image_35 : decode cX12_image 35 = .ok (.iadd, 1) := by decide +kernel
theorem dX12_image_36 : decode cX12_image 36 = .ok (.aload_n 0, 1) := by decide +kernel
theorem dX12_image_37 : decode cX12_image 37 = .ok (.getfield 13, 3) := by decide +kernel
theorem dX12_image_40 : decode cX12_image 40 = .ok (.iload_n 2, 1) := by decide +kernel
theorem dX12_image_41 : decode cX12_image 41 = .ok (.iaload, 1) := by decide +kernel
theorem dX12_image_42 : decode cX12_image 42 = .ok (.iastore, 1) := by decide +kernel
theorem dX12_image_43 : decode cX12_image 43 = .ok (.iinc 2 1, 3) := by decide +kernel
theorem dX12_image_46 : decode cX12_image 46 = .ok (.goto (-28), 3) := by decide +kernel
theorem dX12_image_49 : decode cX12_image 49 = .ok (.iconst 0, 1) := by decide +kernel
theorem dX12_image_50 : decode cX12_image 50 = .ok (.istore_n 2, 1) := by decide +kernel
theorem dX12_image_51 : decode cX12_image 51 = .ok (.iload_n 2, 1) := by decide +kernel
theorem dX12_image_52 : decode cX12_image 52 = .ok (.bipush 13, 2) := by decide +kernel
theorem dX12_image_54 : decode cX12_image 54 = .ok (.if_icmp .ge 26, 3) := by decide +kernel
theorem dX12_image_57 : decode cX12_image 57 = .ok (.aload_n 0, 1) := by decide +kernel
theorem dX12_image_58 : decode cX12_image 58 = .ok (.getfield 35, 3) := by decide +kernel
theorem dX12_image_61 : decode cX12_image 61 = .ok (.bipush 13, 2) := by decide +kernel
theorem dX12_image_63 : decode cX12_image 63 = .ok (.iload_n 1, 1) := by decide +kernel
theorem dX12_image_64 : decode cX12_image 64 = .ok (.imul, 1) := by decide +kernel
theorem dX12_image_65 : decode cX12_image 65 = .ok (.iload_n 2, 1) := by decide +kernel
theorem dX12_image_66 : decode cX12_image 66 = .ok (.iadd, 1) := by decide +kernel
theorem dX12_image_67 : decode cX12_image 67 = .ok (.aload_n 0, 1) := by decide +kernel
theorem dX12_image_68 : decode cX12_image 68 = .ok (.getfield 28, 3) := by decide +kernel
theorem dX12_image_71 : decode cX12_image 71 = .ok (.iload_n 2, 1) := by decide +kernel
theorem dX12_image_72 : decode cX12_image 72 = .ok (.laload, 1) := by decide +kernel
theorem dX12_image_73 : decode cX12_image 73 = .ok (.lastore, 1) := by decide +kernel
theorem dX12_image_74 : decode cX12_image 74 = .ok (.iinc 2 1, 3) := by decide +kernel
theorem dX12_image_77 : decode cX12_image 77 = .ok (.goto (-26), 3) := by decide +kernel
theorem dX12_image_80 : decode cX12_image 80 = .ok (.aload_n 0, 1) := by decide +kernel
theorem dX12_image_81 : decode cX12_image 81 = .ok (.getfield 38, 3) := by decide +kernel
theorem dX12_image_84 : decode cX12_image 84 = .ok (.iload_n 1, 1) := by decide +kernel
theorem dX12_image_85 : decode cX12_image 85 = .ok (.iconst 1, 1) := by decide +kernel
theorem dX12_image_86 : decode cX12_image 86 = .ok (.bastore, 1) := by decide +kernel
theorem dX12_image_87 : decode cX12_image 87 = .ok (.iconst 1, 1) := by decide +kernel
theorem dX12_image_88 : decode cX12_image 88 = .ok (.ireturn, 1) := by decide +kernel
theorem dX12_restore_0 : decode cX12_restore 0 = .ok (.aload_n 0, 1) := by decide +kernel
theorem dX12_restore_1 : decode cX12_restore 1 = .ok (.iconst 0, 1) := by decide +kernel
theorem dX12_restore_2 : decode cX12_restore 2 = .ok (.putfield 82, 3) := by decide +kernel
theorem dX12_restore_5 : decode cX12_restore 5 = .ok (.iload_n 1, 1) := by decide +kernel
theorem dX12_restore_6 : decode cX12_restore 6 = .ok (.iconst 0, 1) := by decide +kernel
theorem dX12_restore_7 : decode cX12_restore 7 = .ok (.iconst 1, 1) := by decide +kernel
theorem dX12_restore_8 : decode cX12_restore 8 = .ok (.invokestatic 149, 3) := by decide +kernel
theorem dX12_restore_11 : decode cX12_restore 11 = .ok (.ifCond .eq 12, 3) := by decide +kernel
theorem dX12_restore_14 : decode cX12_restore 14 = .ok (.aload_n 0, 1) := by decide +kernel
theorem dX12_restore_15 : decode cX12_restore 15 = .ok (.getfield 38, 3) := by decide +kernel
theorem dX12_restore_18 : decode cX12_restore 18 = .ok (.iload_n 1, 1) := by decide +kernel
theorem dX12_restore_19 : decode cX12_restore 19 = .ok (.baload, 1) := by decide +kernel
theorem dX12_restore_20 : decode cX12_restore 20 = .ok (.ifCond .ne 5, 3) := by decide +kernel
theorem dX12_restore_23 : decode cX12_restore 23 = .ok (.iconst 0, 1) := by decide +kernel
theorem dX12_restore_24 : decode cX12_restore 24 = .ok (.ireturn, 1) := by decide +kernel
theorem dX12_restore_25 : decode cX12_restore 25 = .ok (.iconst 0, 1) := by decide +kernel
theorem dX12_restore_26 : decode cX12_restore 26 = .ok (.istore_n 2, 1) := by decide +kernel
theorem dX12_restore_27 : decode cX12_restore 27 = .ok (.iload_n 2, 1) := by decide +kernel
theorem dX12_restore_28 : decode cX12_restore 28 = .ok (.sipush 389, 3) := by decide +kernel
theorem dX12_restore_31 : decode cX12_restore 31 = .ok (.if_icmp .ge 27, 3) := by decide +kernel
theorem dX12_restore_34 : decode cX12_restore 34 = .ok (.aload_n 0, 1) := by decide +kernel
theorem dX12_restore_35 : decode cX12_restore 35 = .ok (.getfield 13, 3) := by decide +kernel
theorem dX12_restore_38 : decode cX12_restore 38 = .ok (.iload_n 2, 1) := by decide +kernel
theorem dX12_restore_39 : decode cX12_restore 39 = .ok (.aload_n 0, 1) := by decide +kernel
theorem dX12_restore_40 : decode cX12_restore 40 = .ok (.getfield 19, 3) := by decide +kernel
theorem dX12_restore_43 : decode cX12_restore 43 = .ok (.sipush 389, 3) := by decide +kernel
theorem dX12_restore_46 : decode cX12_restore 46 = .ok (.iload_n 1, 1) := by decide +kernel
theorem dX12_restore_47 : decode cX12_restore 47 = .ok (.imul, 1) := by decide +kernel
theorem dX12_restore_48 : decode cX12_restore 48 = .ok (.iload_n 2, 1) := by decide +kernel
theorem dX12_restore_49 : decode cX12_restore 49 = .ok (.iadd, 1) := by decide +kernel
theorem dX12_restore_50 : decode cX12_restore 50 = .ok (.iaload, 1) := by decide +kernel
theorem dX12_restore_51 : decode cX12_restore 51 = .ok (.iastore, 1) := by decide +kernel
theorem dX12_restore_52 : decode cX12_restore 52 = .ok (.iinc 2 1, 3) := by decide +kernel
theorem dX12_restore_55 : decode cX12_restore 55 = .ok (.goto (-28), 3) := by decide +kernel
theorem dX12_restore_58 : decode cX12_restore 58 = .ok (.iconst 0, 1) := by decide +kernel
theorem dX12_restore_59 : decode cX12_restore 59 = .ok (.istore_n 2, 1) := by decide +kernel
theorem dX12_restore_60 : decode cX12_restore 60 = .ok (.iload_n 2, 1) := by decide +kernel
theorem dX12_restore_61 : decode cX12_restore 61 = .ok (.bipush 13, 2) := by decide +kernel
theorem dX12_restore_63 : decode cX12_restore 63 = .ok (.if_icmp .ge 26, 3) := by decide +kernel
theorem dX12_restore_66 : decode cX12_restore 66 = .ok (.aload_n 0, 1) := by decide +kernel
theorem dX12_restore_67 : decode cX12_restore 67 = .ok (.getfield 28, 3) := by decide +kernel
theorem dX12_restore_70 : decode cX12_restore 70 = .ok (.iload_n 2, 1) := by decide +kernel
theorem dX12_restore_71 : decode cX12_restore 71 = .ok (.aload_n 0, 1) := by decide +kernel
theorem dX12_restore_72 : decode cX12_restore 72 = .ok (.getfield 35, 3) := by decide +kernel
theorem dX12_restore_75 : decode cX12_restore 75 = .ok (.bipush 13, 2) := by decide +kernel
theorem dX12_restore_77 : decode cX12_restore 77 = .ok (.iload_n 1, 1) := by decide +kernel
theorem dX12_restore_78 : decode cX12_restore 78 = .ok (.imul, 1) := by decide +kernel
theorem dX12_restore_79 : decode cX12_restore 79 = .ok (.iload_n 2, 1) := by decide +kernel
theorem dX12_restore_80 : decode cX12_restore 80 = .ok (.iadd, 1) := by decide +kernel
theorem dX12_restore_81 : decode cX12_restore 81 = .ok (.laload, 1) := by decide +kernel
theorem dX12_restore_82 : decode cX12_restore 82 = .ok (.lastore, 1) := by decide +kernel
theorem dX12_restore_83 : decode cX12_restore 83 = .ok (.iinc 2 1, 3) := by decide +kernel
theorem dX12_restore_86 : decode cX12_restore 86 = .ok (.goto (-26), 3) := by decide +kernel
theorem dX12_restore_89 : decode cX12_restore 89 = .ok (.aload_n 0, 1) := by decide +kernel
theorem dX12_restore_90 : decode cX12_restore 90 = .ok (.iconst 0, 1) := by decide +kernel
theorem dX12_restore_91 : decode cX12_restore 91 = .ok (.putfield 228, 3) := by decide +kernel
theorem dX12_restore_94 : decode cX12_restore 94 = .ok (.iconst 1, 1) := by decide +kernel
theorem dX12_restore_95 : decode cX12_restore 95 = .ok (.ireturn, 1) := by decide +kernel
theorem dX12_said_0 : decode cX12_said 0 = .ok (.aload_n 0, 1) := by decide +kernel
theorem dX12_said_1 : decode cX12_said 1 = .ok (.iconst 0, 1) := by decide +kernel
theorem dX12_said_2 : decode cX12_said 2 = .ok (.putfield 82, 3) := by decide +kernel
theorem dX12_said_5 : decode cX12_said 5 = .ok (.aload_n 0, 1) := by decide +kernel
theorem dX12_said_6 : decode cX12_said 6 = .ok (.getfield 13, 3) := by decide +kernel
theorem dX12_said_9 : decode cX12_said 9 = .ok (.sipush 147, 3) := by decide +kernel
theorem dX12_said_12 : decode cX12_said 12 = .ok (.iaload, 1) := by decide +kernel
theorem dX12_said_13 : decode cX12_said 13 = .ok (.ifCond .ne 5, 3) := by decide +kernel
theorem dX12_said_16 : decode cX12_said 16 = .ok (.iconst (-1), 1) := by decide +kernel
theorem dX12_said_17 : decode cX12_said 17 = .ok (.ireturn, 1) := by decide +kernel
theorem dX12_said_18 : decode cX12_said 18 = .ok (.iconst 0, 1) := by decide +kernel
theorem dX12_said_19 : decode cX12_said 19 = .ok (.istore_n 2, 1) := by decide +kernel
theorem dX12_said_20 : decode cX12_said 20 = .ok (.iconst 0, 1) := by decide +kernel
theorem dX12_said_21 : decode cX12_said 21 = .ok (.istore_n 3, 1) := by decide +kernel
theorem dX12_said_22 : decode cX12_said 22 = .ok (.iload_n 3, 1) := by decide +kernel
theorem dX12_said_23 : decode cX12_said 23 = .ok (.aload_n 0, 1) := by decide +kernel
theorem dX12_said_24 : decode cX12_said 24 = .ok (.getfield 13, 3) := by decide +kernel
theorem dX12_said_27 : decode cX12_said 27 = .ok (.iconst 0, 1) := by decide +kernel
theorem dX12_said_28 : decode cX12_said 28 = .ok (.iaload, 1) := by decide +kernel
theorem dX12_said_29 : decode cX12_said 29 = .ok (.if_icmp .ge 38, 3) := by decide +kernel
theorem dX12_said_32 : decode cX12_said 32 = .ok (.aload_n 0, 1) := by decide +kernel
theorem dX12_said_33 : decode cX12_said 33 = .ok (.aload_n 0, 1) := by decide +kernel
theorem dX12_said_34 : decode cX12_said 34 = .ok (.getfield 13, 3) := by decide +kernel
theorem dX12_said_37 : decode cX12_said 37 = .ok (.sipush 148, 3) := by decide +kernel
theorem dX12_said_40 : decode cX12_said 40 = .ok (.iaload, 1) := by decide +kernel
theorem dX12_said_41 : decode cX12_said 41 = .ok (.iload_n 3, 1) := by decide +kernel
theorem dX12_said_42 : decode cX12_said 42 = .ok (.invokevirtual 419, 3) := by decide +kernel
theorem dX12_said_45 : decode cX12_said 45 = .ok (.ifCond .ne 6, 3) := by decide +kernel
theorem dX12_said_48 : decode cX12_said 48 = .ok (.goto 13, 3) := by decide +kernel
theorem dX12_said_51 : decode cX12_said 51 = .ok (.iload_n 2, 1) := by decide +kernel
theorem dX12_said_52 : decode cX12_said 52 = .ok (.iload_n 1, 1) := by decide +kernel
theorem dX12_said_53 : decode cX12_said 53 = .ok (.if_icmp .ne 5, 3) := by decide +kernel
theorem dX12_said_56 : decode cX12_said 56 = .ok (.iload_n 3, 1) := by decide +kernel
theorem dX12_said_57 : decode cX12_said 57 = .ok (.ireturn, 1) := by decide +kernel
theorem dX12_said_58 : decode cX12_said 58 = .ok (.iinc 2 1, 3) := by decide +kernel
theorem dX12_said_61 : decode cX12_said 61 = .ok (.iinc 3 1, 3) := by decide +kernel
theorem dX12_said_64 : decode cX12_said 64 = .ok (.goto (-42), 3) := by decide +kernel
theorem dX12_said_67 : decode cX12_said 67 = .ok (.iload_n 1, 1) := by decide +kernel
theorem dX12_said_68 : decode cX12_said 68 = .ok (.iconst (-1), 1) := by decide +kernel
theorem dX12_said_69 : decode cX12_said 69 = .ok (.if_icmp .ne 7, 3) := by decide +kernel
theorem dX12_said_72 : decode cX12_said 72 = .ok (.iload_n 2, 1) := by decide +kernel
theorem dX12_said_73 : decode cX12_said 73 = .ok (.goto 4, 3) := by decide +kernel
theorem dX12_said_76 : decode cX12_said 76 = .ok (.iconst (-1), 1) := by decide +kernel
theorem dX12_said_77 : decode cX12_said 77 = .ok (.ireturn, 1) := by decide +kernel
theorem dX12_sentence_0 : decode cX12_sentence 0 = .ok (.aload_n 0, 1) := by decide +kernel
theorem dX12_sentence_1 : decode cX12_sentence 1 = .ok (.sipush 200, 3) := by decide +kernel
theorem dX12_sentence_4 : decode cX12_sentence 4 = .ok (.invokevirtual 216, 3) := by decide +kernel
theorem dX12_sentence_7 : decode cX12_sentence 7 = .ok (.aload_n 0, 1) := by decide +kernel
theorem dX12_sentence_8 : decode cX12_sentence 8 = .ok (.iconst 0, 1) := by decide +kernel
theorem dX12_sentence_9 : decode cX12_sentence 9 = .ok (.putfield 380, 3) := by decide +kernel
theorem dX12_sentence_12 : decode cX12_sentence 12 = .ok (.aload_n 0, 1) := by decide +kernel
theorem dX12_sentence_13 : decode cX12_sentence 13 = .ok (.iconst 0, 1) := by decide +kernel
theorem dX12_sentence_14 : decode cX12_sentence 14 = .ok (.putfield 395, 3) := by decide +kernel
theorem dX12_sentence_17 : decode cX12_sentence 17 = .ok (.aload_n 0, 1) := by decide +kernel
theorem dX12_sentence_18 : decode cX12_sentence 18 = .ok (.iconst 0, 1) := by decide +kernel
theorem dX12_sentence_19 : decode cX12_sentence 19 = .ok (.putfield 398, 3) := by decide +kernel
theorem dX12_sentence_22 : decode cX12_sentence 22 = .ok (.aload_n 0, 1) := by decide +kernel
theorem dX12_sentence_23 : decode cX12_sentence 23 = .ok (.invokevirtual 413, 3) := by decide +kernel
theorem dX12_sentence_26 : decode cX12_sentence 26 = .ok (.ifCond .ne 10, 3) := by decide +kernel
theorem dX12_sentence_29 : decode cX12_sentence 29 = .ok (.iconst (-1), 1) := by decide +kernel
theorem dX12_sentence_30 : decode cX12_sentence 30 = .ok (.aload_n 0, 1) := by decide +kernel
theorem dX12_sentence_31 : decode cX12_sentence 31 = .ok (.getfield 143, 3) := by decide +kernel
theorem dX12_sentence_34 : decode cX12_sentence 34 = .ok (.isub, 1) := by decide +kernel
theorem dX12_sentence_35 : decode cX12_sentence 35 = .ok (.ireturn, 1) := by decide +kernel
theorem dX12_sentence_36 : decode cX12_sentence 36 = .ok (.aload_n 0, 1) := by decide +kernel
theorem dX12_sentence_37 : decode cX12_sentence 37 = .ok (.getfield 104, 3) := by decide +kernel
theorem dX12_sentence_40 : decode cX12_sentence 40 = .ok (.ifCond .eq 16, 3) := by decide +kernel
theorem dX12_sentence_43 : decode cX12_sentence 43 = .ok (.aload_n 0, 1) := by decide +kernel
theorem dX12_sentence_44 : decode cX12_sentence 44 = .ok (.iconst 1, 1) := by decide +kernel
theorem dX12_sentence_45 : decode cX12_sentence 45 = .ok (.invokevirtual 146, 3) := by decide +kernel
theorem dX12_sentence_48 : decode cX12_sentence 48 = .ok (.pop, 1) := by decide +kernel
theorem dX12_sentence_49 : decode cX12_sentence 49 = .ok (.iconst (-1), 1) := by decide +kernel
theorem dX12_sentence_50 : decode cX12_sentence 50 = .ok (.aload_n 0, 1) := by decide +kernel
theorem dX12_sentence_51 : decode cX12_sentence 51 = .ok (.getfield 143, 3) := by decide +kernel
theorem dX12_sentence_54 : decode cX12_sentence 54 = .ok (.isub, 1) := by decide +kernel
theorem dX12_sentence_55 : decode cX12_sentence 55 = .ok (.ireturn, 1) := by decide +kernel
theorem dX12_sentence_56 : decode cX12_sentence 56 = .ok (.aload_n 0, 1) := by decide +kernel
theorem dX12_sentence_57 : decode cX12_sentence 57 = .ok (.getfield 13, 3) := by decide +kernel
theorem dX12_sentence_60 : decode cX12_sentence 60 = .ok (.sipush 147, 3) := by decide +kernel
theorem dX12_sentence_63 : decode cX12_sentence 63 = .ok (.iconst 1, 1) := by decide +kernel
theorem dX12_sentence_64 : decode cX12_sentence 64 = .ok (.iastore, 1) := by decide +kernel
theorem dX12_sentence_65 : decode cX12_sentence 65 = .ok (.aload_n 0, 1) := by decide +kernel
theorem dX12_sentence_66 : decode cX12_sentence 66 = .ok (.getfield 13, 3) := by decide +kernel
theorem dX12_sentence_69 : decode cX12_sentence 69 = .ok (.sipush 148, 3) := by decide +kernel
theorem dX12_sentence_72 : decode cX12_sentence 72 = .ok (.aload_n 0, 1) := by decide +kernel
theorem dX12_sentence_73 : decode cX12_sentence 73 = .ok (.getfield 386, 3) := by decide +kernel
theorem dX12_sentence_76 : decode cX12_sentence 76 = .ok (.iastore, 1) := by decide +kernel
theorem dX12_sentence_77 : decode cX12_sentence 77 = .ok (.iconst 0, 1) := by decide +kernel
theorem dX12_sentence_78 : decode cX12_sentence 78 = .ok (.istore_n 1, 1) := by decide +kernel
theorem dX12_sentence_79 : decode cX12_sentence 79 = .ok (.iload_n 1, 1) := by decide +kernel
theorem dX12_sentence_80 : decode cX12_sentence 80 = .ok (.sipush 240, 3) := by decide +kernel
theorem dX12_sentence_83 : decode cX12_sentence 83 = .ok (.if_icmp .ge 25, 3) := by decide +kernel
theorem dX12_sentence_86 : decode cX12_sentence 86 = .ok (.aload_n 0, 1) := by decide +kernel
theorem dX12_sentence_87 : decode cX12_sentence 87 = .ok (.getfield 13, 3) := by decide +kernel
theorem dX12_sentence_90 : decode cX12_sentence 90 = .ok (.sipush 149, 3) := by decide +kernel
theorem dX12_sentence_93 : decode cX12_sentence 93 = .ok (.iload_n 1, 1) := by decide +kernel
theorem dX12_sentence_94 : decode cX12_sentence 94 = .ok (.iadd, 1) := by decide +kernel
theorem dX12_sentence_95 : decode cX12_sentence 95 = .ok (.aload_n 0, 1) := by decide +kernel
theorem dX12_sentence_96 : decode cX12_sentence 96 = .ok (.getfield 79, 3) := by decide +kernel
theorem dX12_sentence_99 : decode cX12_sentence 99 = .ok (.iload_n 1, 1) := by decide +kernel
theorem dX12_sentence_100 : decode cX12_sentence 100 = .ok (.iaload, 1) := by decide +kernel
theorem dX12_sentence_101 : decode cX12_sentence 101 = .ok (.iastore, 1) := by decide +kernel
theorem dX12_sentence_102 : decode cX12_sentence 102 = .ok (.iinc 1 1, 3) := by decide +kernel
theorem dX12_sentence_105 : decode cX12_sentence 105 = .ok (.goto (-26), 3) := by decide +kernel
theorem dX12_sentence_108 : decode cX12_sentence 108 = .ok (.aload_n 0, 1) := by decide +kernel
theorem dX12_sentence_109 : decode cX12_sentence 109 = .ok (.getfield 395, 3) := by decide +kernel
theorem dX12_sentence_112 : decode cX12_sentence 112 = .ok (.ireturn, 1) := by decide +kernel
theorem rc_69 : Rg 69 69 69 := ⟨by decide, by decide⟩
theorem rc_70 : Rg 70 70 70 := ⟨by decide, by decide⟩
theorem rc_71 : Rg 71 71 71 := ⟨by decide, by decide⟩
theorem rc_147 : Rg 147 147 147 := ⟨by decide, by decide⟩
theorem rc_148 : Rg 148 148 148 := ⟨by decide, by decide⟩
theorem rc_149 : Rg 149 149 149 := ⟨by decide, by decide⟩
theorem rc_240 : Rg 240 240 240 := ⟨by decide, by decide⟩
set_option maxRecDepth 100000 in
set_option maxHeartbeats 8000000 in
theorem c_X12_readOr_0 {l : Launch} {D : va_G} {cy : Nat → ClassId} {L : List Nat} {κ ln : Nat → Nat} {R : Nat → Nat → Option Nat} {I : Nat → Nat → Int32} {J : Nat → Nat → Int64} {ow : Nat → Nat × Nat} (W9 : ∀ a ∈ L, Shp L κ ln R ow a) {x : Nat} (hLx : x ∈ L) (hkx : κ x = 12) (hU : Iw L κ R ow I) (hn : (I x 47).toInt ≤ 2 * (I x 48).toInt) (hwi : I x 49 = 0) : CtI l yX12_readOr cX12_readOr 2 (some .boolean) { frames := 37, cells := 0, slots := 0, locals := 793 } D cy L κ ln R I J [.ref x] (fun r I2 J2 => Iw L κ R ow I2 ∧ Fq L κ ow [1205, 1206, 1207, 1208, 1209, 1210, 1211, 1213, 1247, 1248, 1249, 1250, 86600] I I2 ∧ Fq L κ ow [1212] J J2 ∧ Rg 0 1 r ∧ ((r, MTf R I2 J2 x, NRf R I2 J2 x, QTf R I2 J2 x) = mOrK 8 (NVf R I J x) (NWf R I J x) (MTf R I J x) (NRf R I J x) (QTf R I J x)) ∧ (¬ r = 0 → Sz_ x I I2 1) ∧ (I2 x 49 = 0)) := by
  obtain ⟨x_1, hx_1, rx_1⟩ := ex_getw (I := I) (a := x) (j := 47) (lo := 0) (hi := 60) hU.1 hLx (ro_o hkx (by decide)) rfl
  obtain ⟨x_2, hx_2, rx_2⟩ := ex_getw (I := I) (a := x) (j := 48) (lo := 0) (hi := 20) hU.1 hLx (ro_o hkx (by decide)) rfl
  rw [hx_1, hx_2] at hn
  obtain ⟨x_3, hx_3, rx_3⟩ := ex_getw (I := I) (a := x) (j := 50) (lo := 0) (hi := 59) hU.1 hLx (ro_o hkx (by decide)) rfl
  refine CtI.of (by decide +kernel) (Nat.le_of_ble_eq_true rfl) ?_
  intro p e s m below meth c B K
  have C := B.1
  have hF : Fq L κ ow [1205, 1206, 1207, 1208, 1209, 1210, 1211, 1213, 1247, 1248, 1249, 1250, 86600] I I := fq_rf
  have hG : Fq L κ ow [1212] J J := fq_rf
  obtain ⟨b_4, hb_4, hb_4L, hb_4k, hb_4n, hb_4o⟩ := shp_a (W9 x hLx) hkx 19 15 13 rfl (by decide)
  have evqx : ∀ I J, NVf R I J x = NVq I J x b_4 := fun I J => by simp only [NVf, rr_, Option.getD_some, hb_4]
  have wvqx : vqw_ L κ ow x b_4 := ⟨⟨hLx, hb_4L⟩, ⟨(ro_o hkx (by decide)), (ro_a hb_4k (by decide) hb_4o hkx rfl)⟩⟩
  obtain ⟨s_5, hs_5⟩ : ∃ z, NVq I J x b_4 = z := ⟨_, rfl⟩
  obtain ⟨b_6, hb_6, hb_6L, hb_6k, hb_6n, hb_6o⟩ := shp_a (W9 x hLx) hkx 14 14 389 rfl (by decide)
  have ezqx : ∀ I J, NWf R I J x = NWq I J x b_6 := fun I J => by simp only [NWf, rr_, Option.getD_some, hb_6]
  have wzqx : zqw_ L κ ow x b_6 := ⟨⟨hLx, hb_6L⟩, ⟨(ro_o hkx (by decide)), (ro_a hb_6k (by decide) hb_6o hkx rfl)⟩⟩
  obtain ⟨s_7, hs_7⟩ : ∃ z, NWq I J x b_6 = z := ⟨_, rfl⟩
  obtain ⟨b_8, hb_8, hb_8L, hb_8k, hb_8n, hb_8o⟩ := shp_a (W9 x hLx) hkx 1 14 940 rfl (by decide)
  have emqx : ∀ I J, MTf R I J x = MTq I J x b_8 := fun I J => by simp only [MTf, rr_, Option.getD_some, hb_8]
  have wmqx : mqw_ L κ ow x b_8 := ⟨⟨hLx, hb_8L⟩, ⟨(ro_o hkx (by decide)), (ro_a hb_8k (by decide) hb_8o hkx rfl)⟩⟩
  obtain ⟨s_9, hs_9⟩ : ∃ z, MTq I J x b_8 = z := ⟨_, rfl⟩
  obtain ⟨b_10, hb_10, hb_10L, hb_10k, hb_10n, hb_10o⟩ := shp_a (W9 x hLx) hkx 15 14 72 rfl (by decide)
  obtain ⟨b_11, hb_11, hb_11L, hb_11k, hb_11n, hb_11o⟩ := shp_a (W9 x hLx) hkx 20 15 13 rfl (by decide)
  have enqx : ∀ I J, NRf R I J x = NRq I J x b_10 b_11 := fun I J => by simp only [NRf, rr_, Option.getD_some, hb_10, hb_11]
  have wnqx : nqw_ L κ ow x b_10 b_11 := ⟨⟨hLx, hb_10L, hb_11L⟩, ⟨(ro_o hkx (by decide)), (ro_a hb_10k (by decide) hb_10o hkx rfl), (ro_a hb_11k (by decide) hb_11o hkx rfl)⟩⟩
  obtain ⟨s_12, hs_12⟩ : ∃ z, NRq I J x b_10 b_11 = z := ⟨_, rfl⟩
  have eqqx : ∀ I J, QTf R I J x = QTq I J x := fun I J => by simp only [QTf, rr_, Option.getD_some]
  have wqqx : qqw_ L κ ow x := ⟨hLx, (ro_o hkx (by decide))⟩
  obtain ⟨s_13, hs_13⟩ : ∃ z, QTq I J x = z := ⟨_, rfl⟩
  refine g_lo (is := [0]) (lo2 := [(0, .ref x)]) rfl ?_
  have l_14 : ∀ (n_14 : Nat) (I_14 : Nat → Nat → Int32) (J_15 : Nat → Nat → Int64) (hU_16 : Iw L κ R ow I_14) (hF_17 : Fq L κ ow [1205, 1206, 1207, 1208, 1209, 1210, 1211, 1213, 1247, 1248, 1249, 1250, 86600] I I_14) (hG_18 : Fq L κ ow [1212] J J_15) (v_19 : Int32) (rv_19 : Rg 0 59 v_19) (v_20 : Int32) (rv_20 : Rg 0 60 v_20) (v_21 : Int32) (rv_21 : Rg 0 20 v_21) (v_22 : Int32) (rv_22 : Rg 0 59 v_22) (q_23 : I_14 x 47 = v_20) (q_24 : I_14 x 48 = v_21) (q_25 : I_14 x 49 = 0) (q_26 : I_14 x 50 = v_22) (hq_27 : mLp (mAndK 8 (NVq I_14 J_15 x b_4) (NWq I_14 J_15 x b_6)) 16 n_14 (MTq I_14 J_15 x b_8) (NRq I_14 J_15 x b_10 b_11) (QTq I_14 J_15 x) = mOrK 8 s_5 s_7 s_9 s_12 s_13) (hj_28 : x_1.toInt ≤ v_20.toInt ∧ x_2.toInt + 1 ≤ v_21.toInt ∧ 2 * x_2.toInt - x_1.toInt + 1 ≤ 2 * v_21.toInt - v_20.toInt ∧ v_19.toInt < v_20.toInt) (hm_29 : 20 < v_21.toInt + (n_14 : Int)), WG p l e { frames := 37, cells := 0, slots := 0, locals := 793 } s m ([.ref x] : List Value).toArray below meth c 2 0 0 (MQ below (Qi_ D cy L κ ln R (fun r I2 J2 => Iw L κ R ow I2 ∧ Fq L κ ow [1205, 1206, 1207, 1208, 1209, 1210, 1211, 1213, 1247, 1248, 1249, 1250, 86600] I I2 ∧ Fq L κ ow [1212] J J2 ∧ Rg 0 1 r ∧ ((r, MTf R I2 J2 x, NRf R I2 J2 x, QTf R I2 J2 x) = mOrK 8 (NVf R I J x) (NWf R I J x) (MTf R I J x) (NRf R I J x) (QTf R I J x)) ∧ (¬ r = 0 → Sz_ x I I2 1) ∧ (I2 x 49 = 0))) ([.ref x] : List Value).toArray s 0 0 (Al_ L)) D cy (Al_ L) s.heap L κ ln R I_14 J_15 14 [(0, .ref x), (1, .int v_19)] [] := by
    intro n_14
    induction n_14 with
    | zero =>
      intro I_14 J_15 hU_16 hF_17 hG_18 v_19 rv_19 v_20 rv_20 v_21 rv_21 v_22 rv_22 q_23 q_24 q_25 q_26 hq_27 hj_28 hm_29
      exact absurd hm_29 (by have := (rv_21).2; omega)
    | succ n_14 ih_14 =>
      intro I_14 J_15 hU_16 hF_17 hG_18 v_19 rv_19 v_20 rv_20 v_21 rv_21 v_22 rv_22 q_23 q_24 q_25 q_26 hq_27 hj_28 hm_29
      obtain ⟨s_30, hs_30⟩ : ∃ z, NVq I_14 J_15 x b_4 = z := ⟨_, rfl⟩
      obtain ⟨s_31, hs_31⟩ : ∃ z, NWq I_14 J_15 x b_6 = z := ⟨_, rfl⟩
      obtain ⟨s_32, hs_32⟩ : ∃ z, MTq I_14 J_15 x b_8 = z := ⟨_, rfl⟩
      obtain ⟨s_33, hs_33⟩ : ∃ z, NRq I_14 J_15 x b_10 b_11 = z := ⟨_, rfl⟩
      obtain ⟨s_34, hs_34⟩ : ∃ z, QTq I_14 J_15 x = z := ⟨_, rfl⟩
      simp only [hs_30, hs_31, hs_32, hs_33, hs_34] at hq_27
      have hQ_35 := hq_27.symm
      have u_36 := mLp_eq (rd := mAndK 8 s_30 s_31) (k := 16) (f := n_14) (m := s_32) (n := s_33) (q := s_34)
      refine g_aload_n C 0 dX12_readOr_14 rfl rfl ?_
      refine g_bipush C (v := 16) dX12_readOr_15 (by decide) ?_
      refine g_callVI C K (c_X12_isWord W9 hLx hkx 16 (rg_w rc_16 (by decide) (by decide)) hU_16) hLx hkx (by decide) rfl v_12_191 rfl ⟨rfl, rfl⟩ ⟨Nat.le_of_ble_eq_true rfl, Nat.le_of_ble_eq_true rfl⟩ (Nat.le_of_ble_eq_true rfl) ⟨Nat.le_of_ble_eq_true rfl, Nat.le_of_ble_eq_true rfl⟩ dX12_readOr_17 rfl (st := []) (fun x_37 I_38 J_39 h_40 => ?_)
      obtain ⟨rfl, rfl, rx_37, fx_37⟩ := h_40
      have c_41 : mIsWord (16) (s_32) = x_37 := by have q := fx_37; simp only [emqx, hs_32] at q; exact q.symm
      refine g_if_eq C (tgt := 51) dX12_readOr_20 (by decide) (fun h_42 => ?_) (fun h_42 => ?_)
      · skip
        have r_43 := (⟨(rx_37).1, (eq_rg (h_42) rc_0).2⟩ : Rg 0 0 x_37)
        refine g_aload_n C 0 dX12_readOr_51 rfl rfl ?_
        refine g_iload_n C 1 dX12_readOr_52 rfl rfl ?_
        refine h_putI C K hLx hkx f_12_386 p_12_50 dX12_readOr_53 (fun I_44 hI_44 => ?_)
        have hU_45 := iw_put W9 hU_16 hI_44 (ro_o hkx (by decide)) (lo := 0) (hi := 59) (rfl) (rv_19) rfl
        have hF_46 := fq_puto hF_17 hI_44 hkx (by decide) (by decide)
        have hs_47 : NVq I_44 J_15 x b_4 = s_30 := by rw [hI_44]; exact (vq_oI wvqx (ro_o hkx (by decide)) (by decide)).trans hs_30
        have hs_48 : NWq I_44 J_15 x b_6 = s_31 := by rw [hI_44]; exact (zq_oI wzqx (ro_o hkx (by decide)) (by decide)).trans hs_31
        have hs_49 : MTq I_44 J_15 x b_8 = s_32 := by rw [hI_44]; exact (mq_uIt wmqx (by decide)).trans hs_32
        have hs_50 : NRq I_44 J_15 x b_10 b_11 = s_33 := by rw [hI_44]; exact (nq_uIt wnqx (by decide)).trans hs_33
        have hs_51 : QTq I_44 J_15 x = s_34 := by rw [hI_44]; exact (qq_uIt wqqx (by decide)).trans hs_34
        refine g_iconst C (v := 1) dX12_readOr_56 (by decide) ?_
        have f_52 : s_34.om = v_21 := (congrArg QT_.om hs_51).symm.trans (kp_j hI_44 (by decide) q_24)
        exact g_zret (ty := .boolean) (r := 1) B K rfl (rfl) ⟨hU_45, hF_46, hG_18, rg_w rc_1 (by decide) (by decide), (by (try simp only [c_41, (eq_true h_42), if_true, if_false, mqM_tp, mqM_size, mqM_limit, mqM_to, mqM_frm, mqM_kind, mqM_number, mqM_sign, mqM_word, MT_.w_tp, MT_.w_size, MT_.w_limit, MT_.w_to, MT_.w_frm, MT_.w_kind, MT_.w_number, MT_.w_sign, MT_.w_word, nqM_rd, nqM_rn, nqM_taped, nqM_mfault, nqM_mplace, nqM_told, nqM_hl, nqM_hd, NR_.w_rd, NR_.w_rn, NR_.w_taped, NR_.w_mfault, NR_.w_mplace, NR_.w_told, NR_.w_hl, NR_.w_hd, qqM_om, QT_.w_om, vqM_nv, NV_.w_nv, zqM_nw, NW_.w_nw] at hQ_35); (try simp only [c_41, (eq_true h_42), if_true, if_false, mqM_tp, mqM_size, mqM_limit, mqM_to, mqM_frm, mqM_kind, mqM_number, mqM_sign, mqM_word, MT_.w_tp, MT_.w_size, MT_.w_limit, MT_.w_to, MT_.w_frm, MT_.w_kind, MT_.w_number, MT_.w_sign, MT_.w_word, nqM_rd, nqM_rn, nqM_taped, nqM_mfault, nqM_mplace, nqM_told, nqM_hl, nqM_hd, NR_.w_rd, NR_.w_rn, NR_.w_taped, NR_.w_mfault, NR_.w_mplace, NR_.w_told, NR_.w_hl, NR_.w_hd, qqM_om, QT_.w_om, vqM_nv, NV_.w_nv, zqM_nw, NW_.w_nw] at u_36); simp only [evqx, hs_47, hs_5, ezqx, hs_48, hs_7, emqx, hs_49, hs_9, enqx, hs_50, hs_12, eqqx, hs_51, hs_13, hQ_35, u_36, c_41, (eq_true h_42), if_true, if_false, mqM_tp, mqM_size, mqM_limit, mqM_to, mqM_frm, mqM_kind, mqM_number, mqM_sign, mqM_word, MT_.w_tp, MT_.w_size, MT_.w_limit, MT_.w_to, MT_.w_frm, MT_.w_kind, MT_.w_number, MT_.w_sign, MT_.w_word, nqM_rd, nqM_rn, nqM_taped, nqM_mfault, nqM_mplace, nqM_told, nqM_hl, nqM_hd, NR_.w_rd, NR_.w_rn, NR_.w_taped, NR_.w_mfault, NR_.w_mplace, NR_.w_told, NR_.w_hl, NR_.w_hd, qqM_om, QT_.w_om, vqM_nv, NV_.w_nv, zqM_nw, NW_.w_nw]), (fun _ => (sz_m hx_1 hx_2 (kp_j hI_44 (by decide) q_23) (kp_j hI_44 (by decide) q_24) (kp_s hI_44) ⟨by omega, by omega, by omega, by omega⟩)), (kp_j hI_44 (by decide) q_25)⟩ dX12_readOr_57
      · skip
        have n_53 : ¬ x_37 = 0 := h_42
        have r_54 := ne_lo (lo := 1) n_53 rx_37 rc_0 rfl (by decide)
        refine g_aload_n C 0 dX12_readOr_23 rfl rfl ?_
        refine g_callVV C K (c_X12_go W9 hLx hkx   hU_16) hLx hkx (by decide) rfl v_12_156 rfl ⟨rfl, rfl⟩ ⟨Nat.le_of_ble_eq_true rfl, Nat.le_of_ble_eq_true rfl⟩ (Nat.le_of_ble_eq_true rfl) ⟨Nat.le_of_ble_eq_true rfl, Nat.le_of_ble_eq_true rfl⟩ dX12_readOr_24 rfl (st := []) (fun I_56 J_57 h_58 => ?_)
        obtain ⟨hUI_56, hFI_56, hGJ_57, fx_55, ex_55⟩ := h_58
        have hF_59 := fq_tr hF_17 hFI_56 (by decide)
        have hG_60 := fq_tr hG_18 hGJ_57 (by decide)
        obtain ⟨s_62, hs_62⟩ : ∃ z, MTq I_56 J_57 x b_8 = z := ⟨_, rfl⟩
        have c_61 : mGo (s_32) = s_62 := by have q := fx_55; simp only [emqx, hs_32, hs_62] at q; exact q.symm
        have hs_63 : NVq I_56 J_57 x b_4 = s_30 := (vq_fq wvqx hFI_56 hGJ_57 (by decide) (by decide)).trans hs_30
        have hs_64 : NWq I_56 J_57 x b_6 = s_31 := (zq_fq wzqx hFI_56 hGJ_57 (by decide) (by decide)).trans hs_31
        have hs_65 : NRq I_56 J_57 x b_10 b_11 = s_33 := (nq_fq wnqx hFI_56 hGJ_57 (by decide) (by decide)).trans hs_33
        have hs_66 : QTq I_56 J_57 x = s_34 := (qq_fq wqqx hFI_56 hGJ_57 (by decide) (by decide)).trans hs_34
        refine g_aload_n C 0 dX12_readOr_27 rfl rfl ?_
        have f_67 : s_34.om = v_21 := (congrArg QT_.om hs_66).symm.trans (fq_at hFI_56 hLx hkx (by decide) (by decide) q_24)
        refine g_callVI C K (c_X12_readAnd_0 W9 hLx hkx   hUI_56  (by rw [(fq_at hFI_56 hLx hkx (by decide) (by decide) q_23), (fq_at hFI_56 hLx hkx (by decide) (by decide) q_24)]; omega) ((fq_at hFI_56 hLx hkx (by decide) (by decide) q_25))) hLx hkx (by decide) rfl v_12_383 rfl ⟨rfl, rfl⟩ ⟨Nat.le_of_ble_eq_true rfl, Nat.le_of_ble_eq_true rfl⟩ (Nat.le_of_ble_eq_true rfl) ⟨Nat.le_of_ble_eq_true rfl, Nat.le_of_ble_eq_true rfl⟩ dX12_readOr_28 rfl (st := []) (fun x_68 I_69 J_70 h_71 => ?_)
        obtain ⟨hUI_69, hFI_69, hGJ_70, rx_68, fx_68, ex_68⟩ := h_71
        have hF_72 := fq_tr hF_59 hFI_69 (by decide)
        have hG_73 := fq_tr hG_60 hGJ_70 (by decide)
        obtain ⟨s_75, hs_75⟩ : ∃ z, MTq I_69 J_70 x b_8 = z := ⟨_, rfl⟩
        obtain ⟨s_76, hs_76⟩ : ∃ z, NRq I_69 J_70 x b_10 b_11 = z := ⟨_, rfl⟩
        obtain ⟨s_77, hs_77⟩ : ∃ z, QTq I_69 J_70 x = z := ⟨_, rfl⟩
        have c_74 : mAndK 8 (s_30) (s_31) (s_62) (s_33) (s_34) = (x_68, s_75, s_76, s_77) := by have q := fx_68; simp only [evqx, ezqx, emqx, enqx, eqqx, hs_63, hs_64, hs_62, hs_65, hs_66, hs_75, hs_76, hs_77] at q; exact q.symm
        have hs_78 : NVq I_69 J_70 x b_4 = s_30 := (vq_fq wvqx hFI_69 hGJ_70 (by decide) (by decide)).trans hs_63
        have hs_79 : NWq I_69 J_70 x b_6 = s_31 := (zq_fq wzqx hFI_69 hGJ_70 (by decide) (by decide)).trans hs_64
        obtain ⟨x_80, hx_80, rx_80⟩ := ex_getw (I := I_69) (a := x) (j := 47) (lo := 0) (hi := 60) hUI_69.1 hLx (ro_o hkx (by decide)) rfl
        obtain ⟨x_81, hx_81, rx_81⟩ := ex_getw (I := I_69) (a := x) (j := 50) (lo := 0) (hi := 59) hUI_69.1 hLx (ro_o hkx (by decide)) rfl
        obtain ⟨x_82, hx_82, rx_82⟩ := ex_getw (I := I_69) (a := x) (j := 48) (lo := 0) (hi := 20) hUI_69.1 hLx (ro_o hkx (by decide)) rfl
        have f_83 : s_77.om = x_82 := (congrArg QT_.om hs_77).symm.trans hx_82
        refine g_if_ne C (tgt := 36) dX12_readOr_31 (by decide) (fun h_84 => ?_) (fun h_84 => ?_)
        · skip
          have n_85 : ¬ x_68 = 0 := h_84
          have r_86 := ne_lo (lo := 1) n_85 rx_68 rc_0 rfl (by decide)
          have f_87 := sz_v (fq_at hFI_56 hLx hkx (by decide) (by decide) q_23) (fq_at hFI_56 hLx hkx (by decide) (by decide) q_24) hx_80 hx_82 hx_81 (ex_68.1 n_85)
          refine g_aload_n C 0 dX12_readOr_36 rfl rfl ?_
          refine g_iconst C (v := 3) dX12_readOr_37 (by decide) ?_
          refine g_iload_n C 1 dX12_readOr_38 rfl rfl ?_
          refine g_aload_n C 0 dX12_readOr_39 rfl rfl ?_
          refine g_getI C K hLx hkx f_12_386 (v := x_81) hx_81 dX12_readOr_40 ?_
          refine g_iconst C (v := 0) dX12_readOr_43 (by decide) ?_
          have r_88 := (show Rg 0 59 x_80 from by have q1 := rx_80; have q2 := rx_82; unfold Rg at *; omega)
          refine g_callVI C K (c_X12_saysOne W9 hLx hkx 3 v_19 x_81 0 (rg_w rc_3 (by decide) (by decide)) (rv_19) (rg_w rx_81 (by decide) (by decide)) hUI_69  (eq_rg hx_80 (r_88)) (by rw [hx_80]; exact ⟨fun _ => ⟨by have := (rv_19).1; omega, by omega⟩, fun _ => ⟨by have := (rx_81).1; omega, by omega⟩, fun q => absurd q (by decide)⟩)) hLx hkx (by decide) rfl v_12_389 rfl ⟨rfl, rfl⟩ ⟨Nat.le_of_ble_eq_true rfl, Nat.le_of_ble_eq_true rfl⟩ (Nat.le_of_ble_eq_true rfl) ⟨Nat.le_of_ble_eq_true rfl, Nat.le_of_ble_eq_true rfl⟩ dX12_readOr_44 rfl (st := []) (fun x_89 I_90 J_91 h_92 => ?_)
          obtain ⟨hUI_90, hFI_90, hGJ_91, rx_89, ex_89⟩ := h_92
          have hF_93 := fq_tr hF_72 hFI_90 (by decide)
          have hG_94 := fq_tr hG_73 hGJ_91 (by decide)
          have hs_95 : NVq I_90 J_91 x b_4 = s_30 := (vq_fq wvqx hFI_90 hGJ_91 (by decide) (by decide)).trans hs_78
          have hs_96 : NWq I_90 J_91 x b_6 = s_31 := (zq_fq wzqx hFI_90 hGJ_91 (by decide) (by decide)).trans hs_79
          have hs_97 : MTq I_90 J_91 x b_8 = s_75 := (mq_fq wmqx hFI_90 hGJ_91 (by decide) (by decide)).trans hs_75
          have hs_98 : NRq I_90 J_91 x b_10 b_11 = s_76 := (nq_fq wnqx hFI_90 hGJ_91 (by decide) (by decide)).trans hs_76
          have hs_99 : QTq I_90 J_91 x = s_77 := (qq_fq wqqx hFI_90 hGJ_91 (by decide) (by decide)).trans hs_77
          obtain ⟨x_100, hx_100, rx_100, tx_100, ux_100⟩ := sa_b (lo := 1) (hi := 60) ex_89 hx_80 r_88 (by decide) (by decide)
          have r_101 := (show Rg 0 59 x_89 from by have q1 := ux_100; have q2 := r_88; unfold Rg at *; omega)
          refine g_istore_n C dX12_readOr_47 rfl (by decide) (lo2 := [(1, .int x_89), (0, .ref x)]) rfl ?_
          refine g_goto C (tgt := 14) dX12_readOr_48 (by decide) ?_
          refine g_lo (is := [1, 0]) (lo2 := [(0, .ref x), (1, .int x_89)]) rfl ?_
          exact ih_14 I_90 J_91 hUI_90 hF_93 hG_94 x_89 (r_101) x_100 (rg_w rx_100 (by decide) (by decide)) x_82 (rx_82) x_81 (rx_81) hx_100 (fq_at hFI_90 hLx hkx (by decide) (by decide) hx_82) (fq_at hFI_90 hLx hkx (by decide) (by decide) ex_68.2) (fq_at hFI_90 hLx hkx (by decide) (by decide) hx_81) (by (try simp only [c_41, h_42, c_61, f_67, c_74, hx_80, hx_81, hx_82, f_83, h_84, hx_100, if_true, if_false, mqM_tp, mqM_size, mqM_limit, mqM_to, mqM_frm, mqM_kind, mqM_number, mqM_sign, mqM_word, MT_.w_tp, MT_.w_size, MT_.w_limit, MT_.w_to, MT_.w_frm, MT_.w_kind, MT_.w_number, MT_.w_sign, MT_.w_word, nqM_rd, nqM_rn, nqM_taped, nqM_mfault, nqM_mplace, nqM_told, nqM_hl, nqM_hd, NR_.w_rd, NR_.w_rn, NR_.w_taped, NR_.w_mfault, NR_.w_mplace, NR_.w_told, NR_.w_hl, NR_.w_hd, qqM_om, QT_.w_om, vqM_nv, NV_.w_nv, zqM_nw, NW_.w_nw] at hQ_35); (try simp only [c_41, h_42, c_61, f_67, c_74, hx_80, hx_81, hx_82, f_83, h_84, hx_100, if_true, if_false, mqM_tp, mqM_size, mqM_limit, mqM_to, mqM_frm, mqM_kind, mqM_number, mqM_sign, mqM_word, MT_.w_tp, MT_.w_size, MT_.w_limit, MT_.w_to, MT_.w_frm, MT_.w_kind, MT_.w_number, MT_.w_sign, MT_.w_word, nqM_rd, nqM_rn, nqM_taped, nqM_mfault, nqM_mplace, nqM_told, nqM_hl, nqM_hd, NR_.w_rd, NR_.w_rn, NR_.w_taped, NR_.w_mfault, NR_.w_mplace, NR_.w_told, NR_.w_hl, NR_.w_hd, qqM_om, QT_.w_om, vqM_nv, NV_.w_nv, zqM_nw, NW_.w_nw] at u_36); simp only [evqx, hs_95, hs_5, ezqx, hs_96, hs_7, emqx, hs_97, hs_9, enqx, hs_98, hs_12, eqqx, hs_99, hs_13, hQ_35, u_36, c_41, h_42, c_61, f_67, c_74, hx_80, hx_81, hx_82, f_83, h_84, hx_100, if_true, if_false, mqM_tp, mqM_size, mqM_limit, mqM_to, mqM_frm, mqM_kind, mqM_number, mqM_sign, mqM_word, MT_.w_tp, MT_.w_size, MT_.w_limit, MT_.w_to, MT_.w_frm, MT_.w_kind, MT_.w_number, MT_.w_sign, MT_.w_word, nqM_rd, nqM_rn, nqM_taped, nqM_mfault, nqM_mplace, nqM_told, nqM_hl, nqM_hd, NR_.w_rd, NR_.w_rn, NR_.w_taped, NR_.w_mfault, NR_.w_mplace, NR_.w_told, NR_.w_hl, NR_.w_hd, qqM_om, QT_.w_om, vqM_nv, NV_.w_nv, zqM_nw, NW_.w_nw]) ⟨by have := tx_100; omega, by have := tx_100; omega, by have := tx_100; omega, by have := tx_100; omega⟩ (by have q9 := hm_29; have := tx_100; omega)
        · skip
          have r_102 := (⟨(rx_68).1, (eq_rg (h_84) rc_0).2⟩ : Rg 0 0 x_68)
          refine g_iconst C (v := 0) dX12_readOr_34 (by decide) ?_
          exact g_zret (ty := .boolean) (r := 0) B K rfl (rfl) ⟨hUI_69, hF_72, hG_73, rg_w rc_0 (by decide) (by decide), (by (try simp only [c_41, h_42, c_61, f_67, c_74, hx_80, hx_81, hx_82, f_83, (eq_true h_84), if_true, if_false, mqM_tp, mqM_size, mqM_limit, mqM_to, mqM_frm, mqM_kind, mqM_number, mqM_sign, mqM_word, MT_.w_tp, MT_.w_size, MT_.w_limit, MT_.w_to, MT_.w_frm, MT_.w_kind, MT_.w_number, MT_.w_sign, MT_.w_word, nqM_rd, nqM_rn, nqM_taped, nqM_mfault, nqM_mplace, nqM_told, nqM_hl, nqM_hd, NR_.w_rd, NR_.w_rn, NR_.w_taped, NR_.w_mfault, NR_.w_mplace, NR_.w_told, NR_.w_hl, NR_.w_hd, qqM_om, QT_.w_om, vqM_nv, NV_.w_nv, zqM_nw, NW_.w_nw] at hQ_35); (try simp only [c_41, h_42, c_61, f_67, c_74, hx_80, hx_81, hx_82, f_83, (eq_true h_84), if_true, if_false, mqM_tp, mqM_size, mqM_limit, mqM_to, mqM_frm, mqM_kind, mqM_number, mqM_sign, mqM_word, MT_.w_tp, MT_.w_size, MT_.w_limit, MT_.w_to, MT_.w_frm, MT_.w_kind, MT_.w_number, MT_.w_sign, MT_.w_word, nqM_rd, nqM_rn, nqM_taped, nqM_mfault, nqM_mplace, nqM_told, nqM_hl, nqM_hd, NR_.w_rd, NR_.w_rn, NR_.w_taped, NR_.w_mfault, NR_.w_mplace, NR_.w_told, NR_.w_hl, NR_.w_hd, qqM_om, QT_.w_om, vqM_nv, NV_.w_nv, zqM_nw, NW_.w_nw] at u_36); simp only [evqx, hs_78, hs_5, ezqx, hs_79, hs_7, emqx, hs_75, hs_9, enqx, hs_76, hs_12, eqqx, hs_77, hs_13, hQ_35, u_36, c_41, h_42, c_61, f_67, c_74, hx_80, hx_81, hx_82, f_83, (eq_true h_84), if_true, if_false, mqM_tp, mqM_size, mqM_limit, mqM_to, mqM_frm, mqM_kind, mqM_number, mqM_sign, mqM_word, MT_.w_tp, MT_.w_size, MT_.w_limit, MT_.w_to, MT_.w_frm, MT_.w_kind, MT_.w_number, MT_.w_sign, MT_.w_word, nqM_rd, nqM_rn, nqM_taped, nqM_mfault, nqM_mplace, nqM_told, nqM_hl, nqM_hd, NR_.w_rd, NR_.w_rn, NR_.w_taped, NR_.w_mfault, NR_.w_mplace, NR_.w_told, NR_.w_hl, NR_.w_hd, qqM_om, QT_.w_om, vqM_nv, NV_.w_nv, zqM_nw, NW_.w_nw]), (fun q => absurd rfl q), ex_68.2⟩ dX12_readOr_35
  refine g_aload_n C 0 dX12_readOr_0 rfl rfl ?_
  have f_103 : s_13.om = x_2 := (congrArg QT_.om hs_13).symm.trans hx_2
  refine g_callVI C K (c_X12_readAnd_0 W9 hLx hkx   hU  (by rw [hx_1, hx_2]; omega) (hwi)) hLx hkx (by decide) rfl v_12_383 rfl ⟨rfl, rfl⟩ ⟨Nat.le_of_ble_eq_true rfl, Nat.le_of_ble_eq_true rfl⟩ (Nat.le_of_ble_eq_true rfl) ⟨Nat.le_of_ble_eq_true rfl, Nat.le_of_ble_eq_true rfl⟩ dX12_readOr_1 rfl (st := []) (fun x_104 I_105 J_106 h_107 => ?_)
  obtain ⟨hUI_105, hFI_105, hGJ_106, rx_104, fx_104, ex_104⟩ := h_107
  have hF_108 := fq_tr hF hFI_105 (by decide)
  have hG_109 := fq_tr hG hGJ_106 (by decide)
  obtain ⟨s_111, hs_111⟩ : ∃ z, MTq I_105 J_106 x b_8 = z := ⟨_, rfl⟩
  obtain ⟨s_112, hs_112⟩ : ∃ z, NRq I_105 J_106 x b_10 b_11 = z := ⟨_, rfl⟩
  obtain ⟨s_113, hs_113⟩ : ∃ z, QTq I_105 J_106 x = z := ⟨_, rfl⟩
  have c_110 : mAndK 8 (s_5) (s_7) (s_9) (s_12) (s_13) = (x_104, s_111, s_112, s_113) := by have q := fx_104; simp only [evqx, ezqx, emqx, enqx, eqqx, hs_5, hs_7, hs_9, hs_12, hs_13, hs_111, hs_112, hs_113] at q; exact q.symm
  have hs_114 : NVq I_105 J_106 x b_4 = s_5 := (vq_fq wvqx hFI_105 hGJ_106 (by decide) (by decide)).trans hs_5
  have hs_115 : NWq I_105 J_106 x b_6 = s_7 := (zq_fq wzqx hFI_105 hGJ_106 (by decide) (by decide)).trans hs_7
  obtain ⟨x_116, hx_116, rx_116⟩ := ex_getw (I := I_105) (a := x) (j := 47) (lo := 0) (hi := 60) hUI_105.1 hLx (ro_o hkx (by decide)) rfl
  obtain ⟨x_117, hx_117, rx_117⟩ := ex_getw (I := I_105) (a := x) (j := 50) (lo := 0) (hi := 59) hUI_105.1 hLx (ro_o hkx (by decide)) rfl
  obtain ⟨x_118, hx_118, rx_118⟩ := ex_getw (I := I_105) (a := x) (j := 48) (lo := 0) (hi := 20) hUI_105.1 hLx (ro_o hkx (by decide)) rfl
  have f_119 : s_113.om = x_118 := (congrArg QT_.om hs_113).symm.trans hx_118
  refine g_if_ne C (tgt := 9) dX12_readOr_4 (by decide) (fun h_120 => ?_) (fun h_120 => ?_)
  · skip
    have n_121 : ¬ x_104 = 0 := h_120
    have r_122 := ne_lo (lo := 1) n_121 rx_104 rc_0 rfl (by decide)
    have f_123 := sz_v hx_1 hx_2 hx_116 hx_118 hx_117 (ex_104.1 n_121)
    refine g_aload_n C 0 dX12_readOr_9 rfl rfl ?_
    refine g_getI C K hLx hkx f_12_386 (v := x_117) hx_117 dX12_readOr_10 ?_
    refine g_istore_n C dX12_readOr_13 rfl (by decide) (lo2 := [(1, .int x_117), (0, .ref x)]) rfl ?_
    refine g_lo (is := [1, 0]) (lo2 := [(0, .ref x), (1, .int x_117)]) rfl ?_
    exact l_14 21 I_105 J_106 hUI_105 hF_108 hG_109 x_117 (rx_117) x_116 (rx_116) x_118 (rx_118) x_117 (rx_117) hx_116 hx_118 ex_104.2 hx_117 (by simp only [mOrK, evqx, hs_114, hs_5, ezqx, hs_115, hs_7, emqx, hs_111, hs_9, enqx, hs_112, hs_12, eqqx, hs_113, hs_13, hx_1, hx_2, hx_3, f_103, c_110, hx_116, hx_117, hx_118, f_119, h_120, if_true, if_false, mqM_tp, mqM_size, mqM_limit, mqM_to, mqM_frm, mqM_kind, mqM_number, mqM_sign, mqM_word, MT_.w_tp, MT_.w_size, MT_.w_limit, MT_.w_to, MT_.w_frm, MT_.w_kind, MT_.w_number, MT_.w_sign, MT_.w_word, nqM_rd, nqM_rn, nqM_taped, nqM_mfault, nqM_mplace, nqM_told, nqM_hl, nqM_hd, NR_.w_rd, NR_.w_rn, NR_.w_taped, NR_.w_mfault, NR_.w_mplace, NR_.w_told, NR_.w_hl, NR_.w_hd, qqM_om, QT_.w_om, vqM_nv, NV_.w_nv, zqM_nw, NW_.w_nw]) ⟨by omega, by omega, by omega, by omega⟩ (by have := (rx_118).1; omega)
  · skip
    have r_124 := (⟨(rx_104).1, (eq_rg (h_120) rc_0).2⟩ : Rg 0 0 x_104)
    refine g_iconst C (v := 0) dX12_readOr_7 (by decide) ?_
    exact g_zret (ty := .boolean) (r := 0) B K rfl (rfl) ⟨hUI_105, hF_108, hG_109, rg_w rc_0 (by decide) (by decide), (by simp only [mOrK, evqx, hs_114, hs_5, ezqx, hs_115, hs_7, emqx, hs_111, hs_9, enqx, hs_112, hs_12, eqqx, hs_113, hs_13, hx_1, hx_2, hx_3, f_103, c_110, hx_116, hx_117, hx_118, f_119, (eq_true h_120), if_true, if_false, mqM_tp, mqM_size, mqM_limit, mqM_to, mqM_frm, mqM_kind, mqM_number, mqM_sign, mqM_word, MT_.w_tp, MT_.w_size, MT_.w_limit, MT_.w_to, MT_.w_frm, MT_.w_kind, MT_.w_number, MT_.w_sign, MT_.w_word, nqM_rd, nqM_rn, nqM_taped, nqM_mfault, nqM_mplace, nqM_told, nqM_hl, nqM_hd, NR_.w_rd, NR_.w_rn, NR_.w_taped, NR_.w_mfault, NR_.w_mplace, NR_.w_told, NR_.w_hl, NR_.w_hd, qqM_om, QT_.w_om, vqM_nv, NV_.w_nv, zqM_nw, NW_.w_nw]), (fun q => absurd rfl q), ex_104.2⟩ dX12_readOr_8
set_option maxRecDepth 100000 in
set_option maxHeartbeats 8000000 in
theorem c_X12_sentence {l : Launch} {D : va_G} {cy : Nat → ClassId} {L : List Nat} {κ ln : Nat → Nat} {R : Nat → Nat → Option Nat} {I : Nat → Nat → Int32} {J : Nat → Nat → Int64} {ow : Nat → Nat × Nat} (W9 : ∀ a ∈ L, Shp L κ ln R ow a) {x : Nat} (hLx : x ∈ L) (hkx : κ x = 12) (hU : Iw L κ R ow I) : CtI l yX12_sentence cX12_sentence 2 (some .int) { frames := 38, cells := 0, slots := 0, locals := 814 } D cy L κ ln R I J [.ref x] (fun r I2 J2 => Iw L κ R ow I2 ∧ Fq L κ ow [1200, 1202, 1203, 1204, 1205, 1206, 1207, 1208, 1209, 1210, 1211, 1213, 1247, 1248, 1249, 1250, 83400, 86600] I I2 ∧ Fq L κ ow [1212] J J2 ∧ Rg (-2147483648) 2147483647 r ∧ (r = mSent (NVf R I J x) (NWf R I J x) (MTf R I J x) (NRf R I J x) (QTf R I J x)) ∧ (Hd_ R x I I2) ∧ (I2 x 10 = mSentF (NVf R I J x) (NWf R I J x) (MTf R I J x) (NRf R I J x) (QTf R I J x))) := by
  refine CtI.of (by decide +kernel) (Nat.le_of_ble_eq_true rfl) ?_
  intro p e s m below meth c B K
  have C := B.1
  have hF : Fq L κ ow [1200, 1202, 1203, 1204, 1205, 1206, 1207, 1208, 1209, 1210, 1211, 1213, 1247, 1248, 1249, 1250, 83400, 86600] I I := fq_rf
  have hG : Fq L κ ow [1212] J J := fq_rf
  obtain ⟨b_1, hb_1, hb_1L, hb_1k, hb_1n, hb_1o⟩ := shp_a (W9 x hLx) hkx 46 14 240 rfl (by decide)
  obtain ⟨b_2, hb_2, hb_2L, hb_2k, hb_2n, hb_2o⟩ := shp_a (W9 x hLx) hkx 14 14 389 rfl (by decide)
  obtain ⟨b_3, hb_3, hb_3L, hb_3k, hb_3n, hb_3o⟩ := shp_a (W9 x hLx) hkx 19 15 13 rfl (by decide)
  have evqx : ∀ I J, NVf R I J x = NVq I J x b_3 := fun I J => by simp only [NVf, rr_, Option.getD_some, hb_3]
  have wvqx : vqw_ L κ ow x b_3 := ⟨⟨hLx, hb_3L⟩, ⟨(ro_o hkx (by decide)), (ro_a hb_3k (by decide) hb_3o hkx rfl)⟩⟩
  obtain ⟨s_4, hs_4⟩ : ∃ z, NVq I J x b_3 = z := ⟨_, rfl⟩
  have ezqx : ∀ I J, NWf R I J x = NWq I J x b_2 := fun I J => by simp only [NWf, rr_, Option.getD_some, hb_2]
  have wzqx : zqw_ L κ ow x b_2 := ⟨⟨hLx, hb_2L⟩, ⟨(ro_o hkx (by decide)), (ro_a hb_2k (by decide) hb_2o hkx rfl)⟩⟩
  obtain ⟨s_5, hs_5⟩ : ∃ z, NWq I J x b_2 = z := ⟨_, rfl⟩
  obtain ⟨b_6, hb_6, hb_6L, hb_6k, hb_6n, hb_6o⟩ := shp_a (W9 x hLx) hkx 1 14 940 rfl (by decide)
  have emqx : ∀ I J, MTf R I J x = MTq I J x b_6 := fun I J => by simp only [MTf, rr_, Option.getD_some, hb_6]
  have wmqx : mqw_ L κ ow x b_6 := ⟨⟨hLx, hb_6L⟩, ⟨(ro_o hkx (by decide)), (ro_a hb_6k (by decide) hb_6o hkx rfl)⟩⟩
  obtain ⟨s_7, hs_7⟩ : ∃ z, MTq I J x b_6 = z := ⟨_, rfl⟩
  obtain ⟨b_8, hb_8, hb_8L, hb_8k, hb_8n, hb_8o⟩ := shp_a (W9 x hLx) hkx 15 14 72 rfl (by decide)
  obtain ⟨b_9, hb_9, hb_9L, hb_9k, hb_9n, hb_9o⟩ := shp_a (W9 x hLx) hkx 20 15 13 rfl (by decide)
  have enqx : ∀ I J, NRf R I J x = NRq I J x b_8 b_9 := fun I J => by simp only [NRf, rr_, Option.getD_some, hb_8, hb_9]
  have wnqx : nqw_ L κ ow x b_8 b_9 := ⟨⟨hLx, hb_8L, hb_9L⟩, ⟨(ro_o hkx (by decide)), (ro_a hb_8k (by decide) hb_8o hkx rfl), (ro_a hb_9k (by decide) hb_9o hkx rfl)⟩⟩
  obtain ⟨s_10, hs_10⟩ : ∃ z, NRq I J x b_8 b_9 = z := ⟨_, rfl⟩
  have eqqx : ∀ I J, QTf R I J x = QTq I J x := fun I J => by simp only [QTf, rr_, Option.getD_some]
  have wqqx : qqw_ L κ ow x := ⟨hLx, (ro_o hkx (by decide))⟩
  obtain ⟨s_11, hs_11⟩ : ∃ z, QTq I J x = z := ⟨_, rfl⟩
  refine g_lo (is := [0]) (lo2 := [(0, .ref x)]) rfl ?_
  refine g_aload_n C 0 dX12_sentence_0 rfl rfl ?_
  refine g_sipush C (v := 200) dX12_sentence_1 (by decide) ?_
  refine g_callVV C K (c_X12_begin W9 hLx hkx 200 (rg_w rc_200 (by decide) (by decide)) hU) hLx hkx (by decide) rfl v_12_216 rfl ⟨rfl, rfl⟩ ⟨Nat.le_of_ble_eq_true rfl, Nat.le_of_ble_eq_true rfl⟩ (Nat.le_of_ble_eq_true rfl) ⟨Nat.le_of_ble_eq_true rfl, Nat.le_of_ble_eq_true rfl⟩ dX12_sentence_4 rfl (st := []) (fun I_13 J_14 h_15 => ?_)
  obtain ⟨hUI_13, hFI_13, hGJ_14, fx_12⟩ := h_15
  have hF_16 := fq_tr hF hFI_13 (by decide)
  have hG_17 := fq_tr hG hGJ_14 (by decide)
  obtain ⟨s_19, hs_19⟩ : ∃ z, MTq I_13 J_14 x b_6 = z := ⟨_, rfl⟩
  obtain ⟨s_20, hs_20⟩ : ∃ z, NRq I_13 J_14 x b_8 b_9 = z := ⟨_, rfl⟩
  have c_18 : mBegin (200) (s_7) (s_10) = (s_19, s_20) := by have q := fx_12; simp only [emqx, enqx, hs_7, hs_10, hs_19, hs_20] at q; exact q.symm
  have hs_21 : NVq I_13 J_14 x b_3 = s_4 := (vq_fq wvqx hFI_13 hGJ_14 (by decide) (by decide)).trans hs_4
  have hs_22 : NWq I_13 J_14 x b_2 = s_5 := (zq_fq wzqx hFI_13 hGJ_14 (by decide) (by decide)).trans hs_5
  have hs_23 : QTq I_13 J_14 x = s_11 := (qq_fq wqqx hFI_13 hGJ_14 (by decide) (by decide)).trans hs_11
  refine g_aload_n C 0 dX12_sentence_7 rfl rfl ?_
  refine g_iconst C (v := 0) dX12_sentence_8 (by decide) ?_
  refine h_putI C K hLx hkx f_12_380 p_12_47 dX12_sentence_9 (fun I_24 hI_24 => ?_)
  have hU_25 := iw_put W9 hUI_13 hI_24 (ro_o hkx (by decide)) (lo := 0) (hi := 60) (rfl) (rg_w rc_0 (by decide) (by decide)) rfl
  have hF_26 := fq_puto hF_16 hI_24 hkx (by decide) (by decide)
  have hs_27 : NVq I_24 J_14 x b_3 = s_4 := by rw [hI_24]; exact (vq_oI wvqx (ro_o hkx (by decide)) (by decide)).trans hs_21
  have hs_28 : NWq I_24 J_14 x b_2 = s_5 := by rw [hI_24]; exact (zq_oI wzqx (ro_o hkx (by decide)) (by decide)).trans hs_22
  have hs_29 : MTq I_24 J_14 x b_6 = s_19 := by rw [hI_24]; exact (mq_uIt wmqx (by decide)).trans hs_19
  have hs_30 : NRq I_24 J_14 x b_8 b_9 = s_20 := by rw [hI_24]; exact (nq_uIt wnqx (by decide)).trans hs_20
  have hs_31 : QTq I_24 J_14 x = s_11 := by rw [hI_24]; exact (qq_uIt wqqx (by decide)).trans hs_23
  refine g_aload_n C 0 dX12_sentence_12 rfl rfl ?_
  refine g_iconst C (v := 0) dX12_sentence_13 (by decide) ?_
  refine h_putI C K hLx hkx f_12_395 p_12_48 dX12_sentence_14 (fun I_32 hI_32 => ?_)
  have hU_33 := iw_put W9 hU_25 hI_32 (ro_o hkx (by decide)) (lo := 0) (hi := 20) (rfl) (rg_w rc_0 (by decide) (by decide)) rfl
  have hF_34 := fq_puto hF_26 hI_32 hkx (by decide) (by decide)
  have hs_35 : NVq I_32 J_14 x b_3 = s_4 := by rw [hI_32]; exact (vq_oI wvqx (ro_o hkx (by decide)) (by decide)).trans hs_27
  have hs_36 : NWq I_32 J_14 x b_2 = s_5 := by rw [hI_32]; exact (zq_oI wzqx (ro_o hkx (by decide)) (by decide)).trans hs_28
  have hs_37 : MTq I_32 J_14 x b_6 = s_19 := by rw [hI_32]; exact (mq_uIt wmqx (by decide)).trans hs_29
  have hs_38 : NRq I_32 J_14 x b_8 b_9 = s_20 := by rw [hI_32]; exact (nq_uIt wnqx (by decide)).trans hs_30
  have hs_39 : QTq I_32 J_14 x = (QT_.w_om s_11 (0)) := by rw [hI_32]; exact ((qq_om wqqx).trans (congrArg (fun z : QT_ => QT_.w_om z (0)) hs_31)).trans rfl
  refine g_aload_n C 0 dX12_sentence_17 rfl rfl ?_
  refine g_iconst C (v := 0) dX12_sentence_18 (by decide) ?_
  refine h_putI C K hLx hkx f_12_398 p_12_49 dX12_sentence_19 (fun I_40 hI_40 => ?_)
  have hU_41 := iw_put W9 hU_33 hI_40 (ro_o hkx (by decide)) (lo := 0) (hi := 8) (rfl) (rg_w rc_0 (by decide) (by decide)) rfl
  have hF_42 := fq_puto hF_34 hI_40 hkx (by decide) (by decide)
  have hs_43 : NVq I_40 J_14 x b_3 = s_4 := by rw [hI_40]; exact (vq_oI wvqx (ro_o hkx (by decide)) (by decide)).trans hs_35
  have hs_44 : NWq I_40 J_14 x b_2 = s_5 := by rw [hI_40]; exact (zq_oI wzqx (ro_o hkx (by decide)) (by decide)).trans hs_36
  have hs_45 : MTq I_40 J_14 x b_6 = s_19 := by rw [hI_40]; exact (mq_uIt wmqx (by decide)).trans hs_37
  have hs_46 : NRq I_40 J_14 x b_8 b_9 = s_20 := by rw [hI_40]; exact (nq_uIt wnqx (by decide)).trans hs_38
  have hs_47 : QTq I_40 J_14 x = (QT_.w_om s_11 (0)) := by rw [hI_40]; exact (qq_uIt wqqx (by decide)).trans hs_39
  refine g_aload_n C 0 dX12_sentence_22 rfl rfl ?_
  refine g_callVI C K (c_X12_readOr_0 W9 hLx hkx   hU_41  (by rw [(kp_j hI_40 (by decide) (kp_j hI_32 (by decide) (kp_s hI_24))), (kp_j hI_40 (by decide) (kp_s hI_32))]; decide) ((kp_s hI_40))) hLx hkx (by decide) rfl v_12_413 rfl ⟨rfl, rfl⟩ ⟨Nat.le_of_ble_eq_true rfl, Nat.le_of_ble_eq_true rfl⟩ (Nat.le_of_ble_eq_true rfl) ⟨Nat.le_of_ble_eq_true rfl, Nat.le_of_ble_eq_true rfl⟩ dX12_sentence_23 rfl (st := []) (fun x_48 I_49 J_50 h_51 => ?_)
  obtain ⟨hUI_49, hFI_49, hGJ_50, rx_48, fx_48, ex_48⟩ := h_51
  have hF_52 := fq_tr hF_42 hFI_49 (by decide)
  have hG_53 := fq_tr hG_17 hGJ_50 (by decide)
  obtain ⟨s_55, hs_55⟩ : ∃ z, MTq I_49 J_50 x b_6 = z := ⟨_, rfl⟩
  obtain ⟨s_56, hs_56⟩ : ∃ z, NRq I_49 J_50 x b_8 b_9 = z := ⟨_, rfl⟩
  obtain ⟨s_57, hs_57⟩ : ∃ z, QTq I_49 J_50 x = z := ⟨_, rfl⟩
  have c_54 : mOrK 8 (s_4) (s_5) (s_19) (s_20) ((QT_.w_om s_11 (0))) = (x_48, s_55, s_56, s_57) := by have q := fx_48; simp only [evqx, ezqx, emqx, enqx, eqqx, hs_43, hs_44, hs_45, hs_46, hs_47, hs_55, hs_56, hs_57] at q; exact q.symm
  have hs_58 : NVq I_49 J_50 x b_3 = s_4 := (vq_fq wvqx hFI_49 hGJ_50 (by decide) (by decide)).trans hs_43
  have hs_59 : NWq I_49 J_50 x b_2 = s_5 := (zq_fq wzqx hFI_49 hGJ_50 (by decide) (by decide)).trans hs_44
  obtain ⟨x_60, hx_60, rx_60⟩ := ex_getw (I := I_49) (a := x) (j := 47) (lo := 0) (hi := 60) hUI_49.1 hLx (ro_o hkx (by decide)) rfl
  obtain ⟨x_61, hx_61, rx_61⟩ := ex_getw (I := I_49) (a := x) (j := 50) (lo := 0) (hi := 59) hUI_49.1 hLx (ro_o hkx (by decide)) rfl
  obtain ⟨x_62, hx_62, rx_62⟩ := ex_getw (I := I_49) (a := x) (j := 48) (lo := 0) (hi := 20) hUI_49.1 hLx (ro_o hkx (by decide)) rfl
  have f_63 : s_57.om = x_62 := (congrArg QT_.om hs_57).symm.trans hx_62
  refine g_if_ne C (tgt := 36) dX12_sentence_26 (by decide) (fun h_64 => ?_) (fun h_64 => ?_)
  · skip
    have n_65 : ¬ x_48 = 0 := h_64
    have r_66 := ne_lo (lo := 1) n_65 rx_48 rc_0 rfl (by decide)
    have f_67 := sz_v (kp_j hI_40 (by decide) (kp_j hI_32 (by decide) (kp_s hI_24))) (kp_j hI_40 (by decide) (kp_s hI_32)) hx_60 hx_62 hx_61 (ex_48.1 n_65)
    refine g_aload_n C 0 dX12_sentence_36 rfl rfl ?_
    obtain ⟨x_68, hx_68, rx_68⟩ := ex_getw (I := I_49) (a := x) (j := 7) (lo := 0) (hi := 4) hUI_49.1 hLx (ro_o hkx (by decide)) rfl
    have f_69 : s_55.kind = x_68 := (congrArg MT_.kind hs_55).symm.trans hx_68
    refine g_getI C K hLx hkx f_12_104 (v := x_68) hx_68 dX12_sentence_37 ?_
    refine g_if_eq C (tgt := 56) dX12_sentence_40 (by decide) (fun h_70 => ?_) (fun h_70 => ?_)
    · skip
      have r_71 := (⟨(rx_68).1, (eq_rg (h_70) rc_0).2⟩ : Rg 0 0 x_68)
      obtain ⟨x_72, hx_72, rx_72⟩ := ex_getw (I := I_49) (a := x) (j := 10) (lo := (-2147483648)) (hi := 2147483647) hUI_49.1 hLx (ro_o hkx (by decide)) rfl
      have f_73 : s_56.mfault = x_72 := (congrArg NR_.mfault hs_56).symm.trans hx_72
      have mf_74 : mSentF (NVf R I J x) (NWf R I J x) (MTf R I J x) (NRf R I J x) (QTf R I J x) = x_72 := by (try simp only [c_18, hx_60, hx_61, hx_62, f_63, h_64, hx_68, f_69, (eq_true h_70), hx_72, f_73, if_true, if_false, mqM_tp, mqM_size, mqM_limit, mqM_to, mqM_frm, mqM_kind, mqM_number, mqM_sign, mqM_word, MT_.w_tp, MT_.w_size, MT_.w_limit, MT_.w_to, MT_.w_frm, MT_.w_kind, MT_.w_number, MT_.w_sign, MT_.w_word, nqM_rd, nqM_rn, nqM_taped, nqM_mfault, nqM_mplace, nqM_told, nqM_hl, nqM_hd, NR_.w_rd, NR_.w_rn, NR_.w_taped, NR_.w_mfault, NR_.w_mplace, NR_.w_told, NR_.w_hl, NR_.w_hd, qqM_om, QT_.w_om, vqM_nv, NV_.w_nv, zqM_nw, NW_.w_nw] at c_54); simp only [mSentF, mSenRead, evqx, hs_58, hs_4, ezqx, hs_59, hs_5, emqx, hs_55, hs_7, enqx, hs_56, hs_10, eqqx, hs_57, hs_11, c_18, c_54, hx_60, hx_61, hx_62, f_63, h_64, hx_68, f_69, (eq_true h_70), hx_72, f_73, if_true, if_false, mqM_tp, mqM_size, mqM_limit, mqM_to, mqM_frm, mqM_kind, mqM_number, mqM_sign, mqM_word, MT_.w_tp, MT_.w_size, MT_.w_limit, MT_.w_to, MT_.w_frm, MT_.w_kind, MT_.w_number, MT_.w_sign, MT_.w_word, nqM_rd, nqM_rn, nqM_taped, nqM_mfault, nqM_mplace, nqM_told, nqM_hl, nqM_hd, NR_.w_rd, NR_.w_rn, NR_.w_taped, NR_.w_mfault, NR_.w_mplace, NR_.w_told, NR_.w_hl, NR_.w_hd, qqM_om, QT_.w_om, vqM_nv, NV_.w_nv, zqM_nw, NW_.w_nw]
      refine g_aload_n C 0 dX12_sentence_56 rfl rfl ?_
      refine g_getR C K hLx hkx f_12_13 hb_2 dX12_sentence_57 ?_
      refine g_sipush C (v := 147) dX12_sentence_60 (by decide) ?_
      refine g_iconst C (v := 1) dX12_sentence_63 (by decide) ?_
      refine h_iast C K hb_2L hb_2k (147) (by decide) (by decide) (by rw [hb_2n]; decide) dX12_sentence_64 (fun I_75 hI_75 => ?_)
      have hU_76 := iw_free W9 hUI_49 (uw_put hUI_49.1 hI_75 (ro_a hb_2k (by decide) hb_2o hkx rfl) (lo := (-2147483648)) (hi := 2147483647) (by decide) (rg_all _)) hLx hkx hb_2 hI_75 (by omega)
      have hF_77 := fq_puta hF_52 hI_75 (ro_a hb_2k (by decide) hb_2o hkx rfl) (by decide) (by decide)
      refine g_aload_n C 0 dX12_sentence_65 rfl rfl ?_
      refine g_getR C K hLx hkx f_12_13 hb_2 dX12_sentence_66 ?_
      refine g_sipush C (v := 148) dX12_sentence_69 (by decide) ?_
      refine g_aload_n C 0 dX12_sentence_72 rfl rfl ?_
      refine g_getI C K hLx hkx f_12_386 (v := x_61) (kp_k (κ := κ) hI_75 (by rw [hkx, hb_2k]; decide) hx_61) dX12_sentence_73 ?_
      refine h_iast C K hb_2L hb_2k (148) (by decide) (by decide) (by rw [hb_2n]; decide) dX12_sentence_76 (fun I_78 hI_78 => ?_)
      have hU_79 := iw_free W9 hU_76 (uw_put hU_76.1 hI_78 (ro_a hb_2k (by decide) hb_2o hkx rfl) (lo := 0) (hi := 59) (by decide) (rx_61)) hLx hkx hb_2 hI_78 (by omega)
      have hF_80 := fq_puta hF_77 hI_78 (ro_a hb_2k (by decide) hb_2o hkx rfl) (by decide) (by decide)
      refine g_iconst C (v := 0) dX12_sentence_77 (by decide) ?_
      refine g_istore_n C dX12_sentence_78 rfl (by decide) (lo2 := [(1, .int 0), (0, .ref x)]) rfl ?_
      refine g_lo (is := [1, 0]) (lo2 := [(0, .ref x), (1, .int 0)]) rfl ?_
      have ex_79 : ∀ (I_82 : Nat → Nat → Int32) (hI_82 : I_82 = cpn_ I_78 b_1 b_2 (0) (149) 240) (v_81 : Int32) (rv_81 : Rg 240 240 v_81), WG p l e { frames := 38, cells := 0, slots := 0, locals := 814 } s m ([.ref x] : List Value).toArray below meth c 2 0 0 (MQ below (Qi_ D cy L κ ln R (fun r I2 J2 => Iw L κ R ow I2 ∧ Fq L κ ow [1200, 1202, 1203, 1204, 1205, 1206, 1207, 1208, 1209, 1210, 1211, 1213, 1247, 1248, 1249, 1250, 83400, 86600] I I2 ∧ Fq L κ ow [1212] J J2 ∧ Rg (-2147483648) 2147483647 r ∧ (r = mSent (NVf R I J x) (NWf R I J x) (MTf R I J x) (NRf R I J x) (QTf R I J x)) ∧ (Hd_ R x I I2) ∧ (I2 x 10 = mSentF (NVf R I J x) (NWf R I J x) (MTf R I J x) (NRf R I J x) (QTf R I J x)))) ([.ref x] : List Value).toArray s 0 0 (Al_ L)) D cy (Al_ L) s.heap L κ ln R I_82 J_50 108 [(0, .ref x), (1, .int v_81)] [] := by
        intro I_82 hI_82 v_81 rv_81
        have hF_83 := fq_cpn hF_80 hI_82 (ro_a hb_2k (by decide) hb_2o hkx rfl) (by decide) (by decide)
        have hU_84 := uw_cpn hU_79.1 hb_1L hI_82 (ro_a hb_2k (by decide) hb_2o hkx rfl) (ro_a hb_1k (by decide) hb_1o hkx rfl) (fun i hi => by rw [bn_834, zq_149 (by omega)]; exact ⟨Int.le_refl _, Int.le_refl _⟩)
        have hU_85 := iw_se W9 hU_79 hU_84 hLx hkx hb_2 hb_1 hI_82
        refine g_aload_n C 0 dX12_sentence_108 rfl rfl ?_
        refine g_getI C K hLx hkx f_12_395 (v := x_62) (kp_cn (κ := κ) hI_82 (by rw [hkx, hb_2k]; decide) (kp_k (κ := κ) hI_78 (by rw [hkx, hb_2k]; decide) (kp_k (κ := κ) hI_75 (by rw [hkx, hb_2k]; decide) hx_62))) dX12_sentence_109 ?_
        exact g_zret (ty := .int) (r := x_62) B K rfl (rfl) ⟨hU_85, hF_83, hG_53, rg_all _, (by (try simp only [c_18, hx_60, hx_61, hx_62, f_63, h_64, hx_68, f_69, (eq_true h_70), hx_72, f_73, if_true, if_false, mqM_tp, mqM_size, mqM_limit, mqM_to, mqM_frm, mqM_kind, mqM_number, mqM_sign, mqM_word, MT_.w_tp, MT_.w_size, MT_.w_limit, MT_.w_to, MT_.w_frm, MT_.w_kind, MT_.w_number, MT_.w_sign, MT_.w_word, nqM_rd, nqM_rn, nqM_taped, nqM_mfault, nqM_mplace, nqM_told, nqM_hl, nqM_hd, NR_.w_rd, NR_.w_rn, NR_.w_taped, NR_.w_mfault, NR_.w_mplace, NR_.w_told, NR_.w_hl, NR_.w_hd, qqM_om, QT_.w_om, vqM_nv, NV_.w_nv, zqM_nw, NW_.w_nw] at c_54); simp only [mSent, mSenRead, evqx, hs_4, ezqx, hs_5, emqx, hs_7, enqx, hs_10, eqqx, hs_11, c_18, c_54, hx_60, hx_61, hx_62, f_63, h_64, hx_68, f_69, (eq_true h_70), hx_72, f_73, if_true, if_false, mqM_tp, mqM_size, mqM_limit, mqM_to, mqM_frm, mqM_kind, mqM_number, mqM_sign, mqM_word, MT_.w_tp, MT_.w_size, MT_.w_limit, MT_.w_to, MT_.w_frm, MT_.w_kind, MT_.w_number, MT_.w_sign, MT_.w_word, nqM_rd, nqM_rn, nqM_taped, nqM_mfault, nqM_mplace, nqM_told, nqM_hl, nqM_hd, NR_.w_rd, NR_.w_rn, NR_.w_taped, NR_.w_mfault, NR_.w_mplace, NR_.w_told, NR_.w_hl, NR_.w_hd, qqM_om, QT_.w_om, vqM_nv, NV_.w_nv, zqM_nw, NW_.w_nw]), (hd_c (r := 0) W9 hLx hkx (hd_u (r := 0) W9 hLx hkx (hd_u (r := 0) W9 hLx hkx (hd_fq W9 hLx hkx (hd_u (r := 0) W9 hLx hkx (hd_u (r := 0) W9 hLx hkx (hd_u (r := 0) W9 hLx hkx (hd_fq W9 hLx hkx hd_rf hFI_13 (by decide)) hI_24 (Or.inl (ro_o hkx (by decide)))) hI_32 (Or.inl (ro_o hkx (by decide)))) hI_40 (Or.inl (ro_o hkx (by decide)))) hFI_49 (by decide)) hI_75 (Or.inr (Or.inr (by decide)))) hI_78 (Or.inr (Or.inr (by decide)))) hI_82 (Or.inr (by omega))), (Eq.trans (kp_cn (κ := κ) hI_82 (by rw [hkx, hb_2k]; decide) (kp_k (κ := κ) hI_78 (by rw [hkx, hb_2k]; decide) (kp_k (κ := κ) hI_75 (by rw [hkx, hb_2k]; decide) hx_72))) mf_74.symm)⟩ dX12_sentence_112
      have l_79 : ∀ (m_79 : Nat) (v_86 : Int32) (I_87 : Nat → Nat → Int32), v_86.toInt + (m_79 : Int) = 240 → 0 ≤ v_86.toInt → I_87 = cpn_ I_78 b_1 b_2 (0) (149) v_86.toNatClampNeg → WG p l e { frames := 38, cells := 0, slots := 0, locals := 814 } s m ([.ref x] : List Value).toArray below meth c 2 0 0 (MQ below (Qi_ D cy L κ ln R (fun r I2 J2 => Iw L κ R ow I2 ∧ Fq L κ ow [1200, 1202, 1203, 1204, 1205, 1206, 1207, 1208, 1209, 1210, 1211, 1213, 1247, 1248, 1249, 1250, 83400, 86600] I I2 ∧ Fq L κ ow [1212] J J2 ∧ Rg (-2147483648) 2147483647 r ∧ (r = mSent (NVf R I J x) (NWf R I J x) (MTf R I J x) (NRf R I J x) (QTf R I J x)) ∧ (Hd_ R x I I2) ∧ (I2 x 10 = mSentF (NVf R I J x) (NWf R I J x) (MTf R I J x) (NRf R I J x) (QTf R I J x)))) ([.ref x] : List Value).toArray s 0 0 (Al_ L)) D cy (Al_ L) s.heap L κ ln R I_87 J_50 79 [(0, .ref x), (1, .int v_86)] [] := by
        intro m_79
        induction m_79 with
        | zero =>
          intro v_86 I_87 hk_79 h0_79 hI_87
          have rv_86 : Rg 240 240 v_86 := by unfold Rg; omega
          refine g_iload_n C 1 dX12_sentence_79 rfl rfl ?_
          refine g_sipush C (v := 240) dX12_sentence_80 (by decide) ?_
          refine g_icmp_ge C (tgt := 108) dX12_sentence_83 (by decide) (fun h_88 => ?_) (fun h_88 => ?_)
          · skip
            refine g_lo (is := [0, 1]) (lo2 := [(0, .ref x), (1, .int v_86)]) rfl ?_
            exact ex_79 I_87 (hI_87.trans (congrArg (fun q => cpn_ I_78 b_1 b_2 (0) (149) q) (show v_86.toNatClampNeg = 240 from by have := ix_n rv_86 (by decide); have := rv_86.1; have := rv_86.2; omega))) v_86 rv_86
          · skip
            have r_89 := lt_l (hi := 239) (nle h_88) rv_86 rc_240 (by decide)
            exact rg_no r_89 (by decide)
        | succ m_79 ih_79 =>
          intro v_86 I_87 hk_79 h0_79 hI_87
          have rv_86 : Rg 0 239 v_86 := by unfold Rg; omega
          refine g_iload_n C 1 dX12_sentence_79 rfl rfl ?_
          refine g_sipush C (v := 240) dX12_sentence_80 (by decide) ?_
          refine g_icmp_ge C (tgt := 108) dX12_sentence_83 (by decide) (fun h_90 => ?_) (fun h_90 => ?_)
          · skip
            have r_91 := le_r (h_90) rc_240 rv_86
            exact rg_no r_91 (by decide)
          · skip
            refine g_aload_n C 0 dX12_sentence_86 rfl rfl ?_
            refine g_getR C K hLx hkx f_12_13 hb_2 dX12_sentence_87 ?_
            refine g_sipush C (v := 149) dX12_sentence_90 (by decide) ?_
            refine g_iload_n C 1 dX12_sentence_93 rfl rfl ?_
            obtain ⟨x_92, hx_92, rx_92, tx_92⟩ := ex_add 149 388 rc_149 rv_86 (by decide) (by decide) (by decide) (by decide)
            refine g_iadd C (v := x_92) dX12_sentence_94 hx_92 ?_
            refine g_aload_n C 0 dX12_sentence_95 rfl rfl ?_
            refine g_getR C K hLx hkx f_12_79 hb_1 dX12_sentence_96 ?_
            refine g_iload_n C 1 dX12_sentence_99 rfl rfl ?_
            obtain ⟨x_93, hx_93, rx_93⟩ := ex_any (z0 := I_87 b_1 (v_86.toNatClampNeg))
            refine h_iald C K hb_1L hb_1k (v := x_93) (v_86.toNatClampNeg) (rfl) (ix_0 rv_86 (by decide)) (ix_lt rv_86 (by decide) hb_1n (by decide)) hx_93 dX12_sentence_100 ?_
            refine h_iast C K hb_2L hb_2k (x_92.toNatClampNeg) (rfl) (ix_0 rx_92 (by decide)) (ix_lt rx_92 (by decide) hb_2n (by decide)) dX12_sentence_101 (fun I_94 hI_94 => ?_)
            obtain ⟨x_95, hx_95, rx_95, tx_95⟩ := ex_add (y := 1) 1 240 rv_86 rc_1 (by decide) (by decide) (by decide) (by decide)
            refine g_iinc C dX12_sentence_102 (k := 1) (v := x_95) rfl hx_95 (by decide) (lo2 := [(1, .int x_95), (0, .ref x)]) rfl ?_
            refine g_goto C (tgt := 79) dX12_sentence_105 (by decide) ?_
            refine g_lo (is := [1, 0]) (lo2 := [(0, .ref x), (1, .int x_95)]) rfl ?_
            have kk_79 : x_95.toNatClampNeg = v_86.toNatClampNeg + 1 := by have q1 := ix_n rv_86 (by decide); have q2 := (ti_k tx_95 rc_1); have q3 : x_95.toNatClampNeg = x_95.toInt.toNat := rfl; omega
            exact ih_79 x_95 I_94 (by have := (ti_k tx_95 rc_1); omega) (by have := (ti_k tx_95 rc_1); omega) (by rw [kk_79]; exact cpn_s hI_87 hx_93 hI_94 (show v_86.toNatClampNeg = (0) + v_86.toNatClampNeg from by omega) (show x_92.toNatClampNeg = (149) + v_86.toNatClampNeg from by rw [nx_a tx_92 rc_149 rv_86 (by decide)]; simp only [show (149 : Int32).toNatClampNeg = 149 from rfl] <;> omega) (Or.inl (ne_ro (ro_a hb_1k (by decide) hb_1o hkx rfl) (ro_a hb_2k (by decide) hb_2o hkx rfl) (by decide))))
      exact l_79 240 0 I_78 (by decide) (by decide) cpn_0
    · skip
      have n_96 : ¬ x_68 = 0 := h_70
      have r_97 := ne_lo (lo := 1) n_96 rx_68 rc_0 rfl (by decide)
      refine g_aload_n C 0 dX12_sentence_43 rfl rfl ?_
      refine g_iconst C (v := 1) dX12_sentence_44 (by decide) ?_
      refine g_callVI C K (c_X12_bad W9 hLx hkx 1 (rg_w rc_1 (by decide) (by decide)) hUI_49) hLx hkx (by decide) rfl v_12_146 rfl ⟨rfl, rfl⟩ ⟨Nat.le_of_ble_eq_true rfl, Nat.le_of_ble_eq_true rfl⟩ (Nat.le_of_ble_eq_true rfl) ⟨Nat.le_of_ble_eq_true rfl, Nat.le_of_ble_eq_true rfl⟩ dX12_sentence_45 rfl (st := []) (fun x_98 I_99 J_100 h_101 => ?_)
      obtain ⟨hUI_99, hFI_99, hGJ_100, rx_98, fx_98⟩ := h_101
      have hF_102 := fq_tr hF_52 hFI_99 (by decide)
      have hG_103 := fq_tr hG_53 hGJ_100 (by decide)
      obtain ⟨s_105, hs_105⟩ : ∃ z, MTq I_99 J_100 x b_6 = z := ⟨_, rfl⟩
      obtain ⟨s_106, hs_106⟩ : ∃ z, NRq I_99 J_100 x b_8 b_9 = z := ⟨_, rfl⟩
      have c_104 : mBad (1) (s_55) (s_56) = (x_98, s_105, s_106) := by have q := fx_98; simp only [emqx, enqx, hs_55, hs_56, hs_105, hs_106] at q; exact q.symm
      have hs_107 : NVq I_99 J_100 x b_3 = s_4 := (vq_fq wvqx hFI_99 hGJ_100 (by decide) (by decide)).trans hs_58
      have hs_108 : NWq I_99 J_100 x b_2 = s_5 := (zq_fq wzqx hFI_99 hGJ_100 (by decide) (by decide)).trans hs_59
      have hs_109 : QTq I_99 J_100 x = s_57 := (qq_fq wqqx hFI_99 hGJ_100 (by decide) (by decide)).trans hs_57
      refine g_pop C dX12_sentence_48 rfl ?_
      refine g_iconst C (v := (-1)) dX12_sentence_49 (by decide) ?_
      refine g_aload_n C 0 dX12_sentence_50 rfl rfl ?_
      obtain ⟨x_110, hx_110, rx_110⟩ := ex_getw (I := I_99) (a := x) (j := 11) (lo := (-2147483648)) (hi := 2147483647) hUI_99.1 hLx (ro_o hkx (by decide)) rfl
      have f_111 : s_106.mplace = x_110 := (congrArg NR_.mplace hs_106).symm.trans hx_110
      refine g_getI C K hLx hkx f_12_143 (v := x_110) hx_110 dX12_sentence_51 ?_
      obtain ⟨x_112, hx_112, rx_112, tx_112⟩ := ex_sub (-2147483648) 2147483647 rc_m1 rx_110 (by decide) (by decide) (by decide) (by decide)
      refine g_isub C (v := x_112) dX12_sentence_54 hx_112 ?_
      obtain ⟨x_113, hx_113, rx_113⟩ := ex_getw (I := I_99) (a := x) (j := 10) (lo := (-2147483648)) (hi := 2147483647) hUI_99.1 hLx (ro_o hkx (by decide)) rfl
      have f_114 : s_106.mfault = x_113 := (congrArg NR_.mfault hs_106).symm.trans hx_113
      have mf_115 : mSentF (NVf R I J x) (NWf R I J x) (MTf R I J x) (NRf R I J x) (QTf R I J x) = x_113 := by (try simp only [c_18, hx_60, hx_61, hx_62, f_63, h_64, hx_68, f_69, h_70, c_104, hx_110, f_111, hx_112, hx_113, f_114, if_true, if_false, mqM_tp, mqM_size, mqM_limit, mqM_to, mqM_frm, mqM_kind, mqM_number, mqM_sign, mqM_word, MT_.w_tp, MT_.w_size, MT_.w_limit, MT_.w_to, MT_.w_frm, MT_.w_kind, MT_.w_number, MT_.w_sign, MT_.w_word, nqM_rd, nqM_rn, nqM_taped, nqM_mfault, nqM_mplace, nqM_told, nqM_hl, nqM_hd, NR_.w_rd, NR_.w_rn, NR_.w_taped, NR_.w_mfault, NR_.w_mplace, NR_.w_told, NR_.w_hl, NR_.w_hd, qqM_om, QT_.w_om, vqM_nv, NV_.w_nv, zqM_nw, NW_.w_nw] at c_54); simp only [mSentF, mSenRead, evqx, hs_107, hs_4, ezqx, hs_108, hs_5, emqx, hs_105, hs_7, enqx, hs_106, hs_10, eqqx, hs_109, hs_11, c_18, c_54, hx_60, hx_61, hx_62, f_63, h_64, hx_68, f_69, h_70, c_104, hx_110, f_111, hx_112, hx_113, f_114, if_true, if_false, mqM_tp, mqM_size, mqM_limit, mqM_to, mqM_frm, mqM_kind, mqM_number, mqM_sign, mqM_word, MT_.w_tp, MT_.w_size, MT_.w_limit, MT_.w_to, MT_.w_frm, MT_.w_kind, MT_.w_number, MT_.w_sign, MT_.w_word, nqM_rd, nqM_rn, nqM_taped, nqM_mfault, nqM_mplace, nqM_told, nqM_hl, nqM_hd, NR_.w_rd, NR_.w_rn, NR_.w_taped, NR_.w_mfault, NR_.w_mplace, NR_.w_told, NR_.w_hl, NR_.w_hd, qqM_om, QT_.w_om, vqM_nv, NV_.w_nv, zqM_nw, NW_.w_nw]
      exact g_zret (ty := .int) (r := x_112) B K rfl (rfl) ⟨hUI_99, hF_102, hG_103, rx_112, (by (try simp only [c_18, hx_60, hx_61, hx_62, f_63, h_64, hx_68, f_69, h_70, c_104, hx_110, f_111, hx_112, if_true, if_false, mqM_tp, mqM_size, mqM_limit, mqM_to, mqM_frm, mqM_kind, mqM_number, mqM_sign, mqM_word, MT_.w_tp, MT_.w_size, MT_.w_limit, MT_.w_to, MT_.w_frm, MT_.w_kind, MT_.w_number, MT_.w_sign, MT_.w_word, nqM_rd, nqM_rn, nqM_taped, nqM_mfault, nqM_mplace, nqM_told, nqM_hl, nqM_hd, NR_.w_rd, NR_.w_rn, NR_.w_taped, NR_.w_mfault, NR_.w_mplace, NR_.w_told, NR_.w_hl, NR_.w_hd, qqM_om, QT_.w_om, vqM_nv, NV_.w_nv, zqM_nw, NW_.w_nw] at c_54); simp only [mSent, mSenRead, evqx, hs_107, hs_4, ezqx, hs_108, hs_5, emqx, hs_105, hs_7, enqx, hs_106, hs_10, eqqx, hs_109, hs_11, c_18, c_54, hx_60, hx_61, hx_62, f_63, h_64, hx_68, f_69, h_70, c_104, hx_110, f_111, hx_112, if_true, if_false, mqM_tp, mqM_size, mqM_limit, mqM_to, mqM_frm, mqM_kind, mqM_number, mqM_sign, mqM_word, MT_.w_tp, MT_.w_size, MT_.w_limit, MT_.w_to, MT_.w_frm, MT_.w_kind, MT_.w_number, MT_.w_sign, MT_.w_word, nqM_rd, nqM_rn, nqM_taped, nqM_mfault, nqM_mplace, nqM_told, nqM_hl, nqM_hd, NR_.w_rd, NR_.w_rn, NR_.w_taped, NR_.w_mfault, NR_.w_mplace, NR_.w_told, NR_.w_hl, NR_.w_hd, qqM_om, QT_.w_om, vqM_nv, NV_.w_nv, zqM_nw, NW_.w_nw]), (hd_fq W9 hLx hkx (hd_fq W9 hLx hkx (hd_u (r := 0) W9 hLx hkx (hd_u (r := 0) W9 hLx hkx (hd_u (r := 0) W9 hLx hkx (hd_fq W9 hLx hkx hd_rf hFI_13 (by decide)) hI_24 (Or.inl (ro_o hkx (by decide)))) hI_32 (Or.inl (ro_o hkx (by decide)))) hI_40 (Or.inl (ro_o hkx (by decide)))) hFI_49 (by decide)) hFI_99 (by decide)), (Eq.trans hx_113 mf_115.symm)⟩ dX12_sentence_55
  · skip
    have r_116 := (⟨(rx_48).1, (eq_rg (h_64) rc_0).2⟩ : Rg 0 0 x_48)
    refine g_iconst C (v := (-1)) dX12_sentence_29 (by decide) ?_
    refine g_aload_n C 0 dX12_sentence_30 rfl rfl ?_
    obtain ⟨x_117, hx_117, rx_117⟩ := ex_getw (I := I_49) (a := x) (j := 11) (lo := (-2147483648)) (hi := 2147483647) hUI_49.1 hLx (ro_o hkx (by decide)) rfl
    have f_118 : s_56.mplace = x_117 := (congrArg NR_.mplace hs_56).symm.trans hx_117
    refine g_getI C K hLx hkx f_12_143 (v := x_117) hx_117 dX12_sentence_31 ?_
    obtain ⟨x_119, hx_119, rx_119, tx_119⟩ := ex_sub (-2147483648) 2147483647 rc_m1 rx_117 (by decide) (by decide) (by decide) (by decide)
    refine g_isub C (v := x_119) dX12_sentence_34 hx_119 ?_
    obtain ⟨x_120, hx_120, rx_120⟩ := ex_getw (I := I_49) (a := x) (j := 10) (lo := (-2147483648)) (hi := 2147483647) hUI_49.1 hLx (ro_o hkx (by decide)) rfl
    have f_121 : s_56.mfault = x_120 := (congrArg NR_.mfault hs_56).symm.trans hx_120
    have mf_122 : mSentF (NVf R I J x) (NWf R I J x) (MTf R I J x) (NRf R I J x) (QTf R I J x) = x_120 := by (try simp only [c_18, hx_60, hx_61, hx_62, f_63, (eq_true h_64), hx_117, f_118, hx_119, hx_120, f_121, if_true, if_false, mqM_tp, mqM_size, mqM_limit, mqM_to, mqM_frm, mqM_kind, mqM_number, mqM_sign, mqM_word, MT_.w_tp, MT_.w_size, MT_.w_limit, MT_.w_to, MT_.w_frm, MT_.w_kind, MT_.w_number, MT_.w_sign, MT_.w_word, nqM_rd, nqM_rn, nqM_taped, nqM_mfault, nqM_mplace, nqM_told, nqM_hl, nqM_hd, NR_.w_rd, NR_.w_rn, NR_.w_taped, NR_.w_mfault, NR_.w_mplace, NR_.w_told, NR_.w_hl, NR_.w_hd, qqM_om, QT_.w_om, vqM_nv, NV_.w_nv, zqM_nw, NW_.w_nw] at c_54); simp only [mSentF, mSenRead, evqx, hs_58, hs_4, ezqx, hs_59, hs_5, emqx, hs_55, hs_7, enqx, hs_56, hs_10, eqqx, hs_57, hs_11, c_18, c_54, hx_60, hx_61, hx_62, f_63, (eq_true h_64), hx_117, f_118, hx_119, hx_120, f_121, if_true, if_false, mqM_tp, mqM_size, mqM_limit, mqM_to, mqM_frm, mqM_kind, mqM_number, mqM_sign, mqM_word, MT_.w_tp, MT_.w_size, MT_.w_limit, MT_.w_to, MT_.w_frm, MT_.w_kind, MT_.w_number, MT_.w_sign, MT_.w_word, nqM_rd, nqM_rn, nqM_taped, nqM_mfault, nqM_mplace, nqM_told, nqM_hl, nqM_hd, NR_.w_rd, NR_.w_rn, NR_.w_taped, NR_.w_mfault, NR_.w_mplace, NR_.w_told, NR_.w_hl, NR_.w_hd, qqM_om, QT_.w_om, vqM_nv, NV_.w_nv, zqM_nw, NW_.w_nw]
    exact g_zret (ty := .int) (r := x_119) B K rfl (rfl) ⟨hUI_49, hF_52, hG_53, rx_119, (by (try simp only [c_18, hx_60, hx_61, hx_62, f_63, (eq_true h_64), hx_117, f_118, hx_119, if_true, if_false, mqM_tp, mqM_size, mqM_limit, mqM_to, mqM_frm, mqM_kind, mqM_number, mqM_sign, mqM_word, MT_.w_tp, MT_.w_size, MT_.w_limit, MT_.w_to, MT_.w_frm, MT_.w_kind, MT_.w_number, MT_.w_sign, MT_.w_word, nqM_rd, nqM_rn, nqM_taped, nqM_mfault, nqM_mplace, nqM_told, nqM_hl, nqM_hd, NR_.w_rd, NR_.w_rn, NR_.w_taped, NR_.w_mfault, NR_.w_mplace, NR_.w_told, NR_.w_hl, NR_.w_hd, qqM_om, QT_.w_om, vqM_nv, NV_.w_nv, zqM_nw, NW_.w_nw] at c_54); simp only [mSent, mSenRead, evqx, hs_58, hs_4, ezqx, hs_59, hs_5, emqx, hs_55, hs_7, enqx, hs_56, hs_10, eqqx, hs_57, hs_11, c_18, c_54, hx_60, hx_61, hx_62, f_63, (eq_true h_64), hx_117, f_118, hx_119, if_true, if_false, mqM_tp, mqM_size, mqM_limit, mqM_to, mqM_frm, mqM_kind, mqM_number, mqM_sign, mqM_word, MT_.w_tp, MT_.w_size, MT_.w_limit, MT_.w_to, MT_.w_frm, MT_.w_kind, MT_.w_number, MT_.w_sign, MT_.w_word, nqM_rd, nqM_rn, nqM_taped, nqM_mfault, nqM_mplace, nqM_told, nqM_hl, nqM_hd, NR_.w_rd, NR_.w_rn, NR_.w_taped, NR_.w_mfault, NR_.w_mplace, NR_.w_told, NR_.w_hl, NR_.w_hd, qqM_om, QT_.w_om, vqM_nv, NV_.w_nv, zqM_nw, NW_.w_nw]), (hd_fq W9 hLx hkx (hd_u (r := 0) W9 hLx hkx (hd_u (r := 0) W9 hLx hkx (hd_u (r := 0) W9 hLx hkx (hd_fq W9 hLx hkx hd_rf hFI_13 (by decide)) hI_24 (Or.inl (ro_o hkx (by decide)))) hI_32 (Or.inl (ro_o hkx (by decide)))) hI_40 (Or.inl (ro_o hkx (by decide)))) hFI_49 (by decide)), (Eq.trans hx_120 mf_122.symm)⟩ dX12_sentence_35
set_option maxRecDepth 100000 in
set_option maxHeartbeats 8000000 in
theorem s_X12_holds {l : Launch} {D : va_G} {cy : Nat → ClassId} {L : List Nat} {κ ln : Nat → Nat} {R : Nat → Nat → Option Nat} {I : Nat → Nat → Int32} {J : Nat → Nat → Int64} {ow : Nat → Nat × Nat} (W9 : ∀ a ∈ L, Shp L κ ln R ow a) {x : Nat} (hLx : x ∈ L) (hkx : κ x = 12) (a0 : Int32) (a1 : Int32) (ra0 : Rg 0 59 a0) (ra1 : Rg 0 6 a1) (hU : Iw L κ R ow I) (n9 : Nat) (hn9 : a0.toInt < (n9 : Int) + 1) (ih9 : ∀ (a0 : Int32) (a1 : Int32) (ra0 : Rg 0 59 a0) (ra1 : Rg 0 6 a1) (hU : Iw L κ R ow I) (hn9 : a0.toInt < (n9 : Int)), CtI l yX12_holds cX12_holds 8 (some .boolean) { frames := n9 + 2, cells := 0, slots := 0, locals := 40 * n9 + 45 } D cy L κ ln R I J [.ref x, .int a0, .int a1] (fun r I2 J2 => I = I2 ∧ J = J2 ∧ Rg 0 1 r)) : CtI l yX12_holds cX12_holds 8 (some .boolean) { frames := n9 + 1 + 2, cells := 0, slots := 0, locals := 40 * (n9 + 1) + 45 } D cy L κ ln R I J [.ref x, .int a0, .int a1] (fun r I2 J2 => I = I2 ∧ J = J2 ∧ Rg 0 1 r) := by
  refine CtI.of (by decide +kernel) (Nat.le_of_ble_eq_true rfl) ?_
  intro p e s m below meth c B K
  have C := B.1
  obtain ⟨b_1, hb_1, hb_1L, hb_1k, hb_1n, hb_1o⟩ := shp_a (W9 x hLx) hkx 14 14 389 rfl (by decide)
  refine g_lo (is := [0, 1, 2]) (lo2 := [(0, .ref x), (1, .int a0), (2, .int a1)]) rfl ?_
  have j_170 : ∀ (v_2 : Int32) (rv_2 : Rg 149 385 v_2) (v_3 : Int32) (rv_3 : Rg 0 58 v_3) (v_4 : Int32) (rv_4 : Rg 0 58 v_4), WG p l e { frames := n9 + 1 + 2, cells := 0, slots := 0, locals := 40 * (n9 + 1) + 45 } s m ([.ref x, .int a0, .int a1] : List Value).toArray below meth c 8 0 0 (MQ below (Qi_ D cy L κ ln R (fun r I2 J2 => I = I2 ∧ J = J2 ∧ Rg 0 1 r)) ([.ref x, .int a0, .int a1] : List Value).toArray s 0 0 (Al_ L)) D cy (Al_ L) s.heap L κ ln R I J 170 [(0, .ref x), (1, .int a0), (2, .int a1), (3, .int v_2), (4, .int v_3), (5, .int v_4)] [] := by
    intro v_2 rv_2 v_3 rv_3 v_4 rv_4
    refine g_iconst C (v := 1) dX12_holds_170 (by decide) ?_
    refine g_goto C (tgt := 175) dX12_holds_171 (by decide) ?_
    exact g_zret (ty := .boolean) (r := 1) B K rfl (rfl) ⟨rfl, rfl, rg_w rc_1 (by decide) (by decide)⟩ dX12_holds_175
  refine g_sipush C (v := 149) dX12_holds_0 (by decide) ?_
  refine g_iconst C (v := 4) dX12_holds_3 (by decide) ?_
  refine g_iload_n C 1 dX12_holds_4 rfl rfl ?_
  obtain ⟨x_5, hx_5, rx_5, tx_5⟩ := ex_mulT 0 236 rc_4 ra0 (by decide) (by decide) (by decide) (by decide) (by decide)
  refine g_imul C (v := x_5) dX12_holds_5 hx_5 ?_
  obtain ⟨x_6, hx_6, rx_6, tx_6⟩ := ex_add 149 385 rc_149 rx_5 (by decide) (by decide) (by decide) (by decide)
  refine g_iadd C (v := x_6) dX12_holds_6 hx_6 ?_
  refine g_istore_n C dX12_holds_7 rfl (by decide) (lo2 := [(3, .int x_6), (0, .ref x), (1, .int a0), (2, .int a1)]) rfl ?_
  refine g_aload_n C 1 dX12_holds_8 rfl rfl ?_
  refine g_getR C K hLx hkx f_12_13 hb_1 dX12_holds_9 ?_
  refine g_iload_n C 0 dX12_holds_12 rfl rfl ?_
  refine g_iconst C (v := 1) dX12_holds_13 (by decide) ?_
  obtain ⟨x_7, hx_7, rx_7, tx_7⟩ := ex_add 150 386 rx_6 rc_1 (by decide) (by decide) (by decide) (by decide)
  refine g_iadd C (v := x_7) dX12_holds_14 hx_7 ?_
  obtain ⟨x_8, hx_8, rx_8⟩ := ex_any (z0 := I b_1 (x_7.toNatClampNeg))
  refine h_iald C K hb_1L hb_1k (v := x_8) (x_7.toNatClampNeg) (rfl) (ix_0 rx_7 (by decide)) (ix_lt rx_7 (by decide) hb_1n (by decide)) hx_8 dX12_holds_15 ?_
  refine g_istore C dX12_holds_16 (by decide) (lo2 := [(4, .int x_8), (3, .int x_6), (0, .ref x), (1, .int a0), (2, .int a1)]) rfl ?_
  refine g_aload_n C 2 dX12_holds_18 rfl rfl ?_
  refine g_getR C K hLx hkx f_12_13 hb_1 dX12_holds_19 ?_
  refine g_iload_n C 1 dX12_holds_22 rfl rfl ?_
  refine g_iconst C (v := 2) dX12_holds_23 (by decide) ?_
  obtain ⟨x_9, hx_9, rx_9, tx_9⟩ := ex_add 151 387 rx_6 rc_2 (by decide) (by decide) (by decide) (by decide)
  refine g_iadd C (v := x_9) dX12_holds_24 hx_9 ?_
  obtain ⟨x_10, hx_10, rx_10⟩ := ex_any (z0 := I b_1 (x_9.toNatClampNeg))
  refine h_iald C K hb_1L hb_1k (v := x_10) (x_9.toNatClampNeg) (rfl) (ix_0 rx_9 (by decide)) (ix_lt rx_9 (by decide) hb_1n (by decide)) hx_10 dX12_holds_25 ?_
  refine g_istore C dX12_holds_26 (by decide) (lo2 := [(5, .int x_10), (4, .int x_8), (3, .int x_6), (0, .ref x), (1, .int a0), (2, .int a1)]) rfl ?_
  refine g_aload_n C 3 dX12_holds_28 rfl rfl ?_
  refine g_getR C K hLx hkx f_12_13 hb_1 dX12_holds_29 ?_
  refine g_iload_n C 2 dX12_holds_32 rfl rfl ?_
  obtain ⟨x_11, hx_11, rx_11⟩ := ex_any (z0 := I b_1 (x_6.toNatClampNeg))
  refine h_iald C K hb_1L hb_1k (v := x_11) (x_6.toNatClampNeg) (rfl) (ix_0 rx_6 (by decide)) (ix_lt rx_6 (by decide) hb_1n (by decide)) hx_11 dX12_holds_33 ?_
  by_cases c_12 : x_11.toInt = 1
  · skip
    have r_13 := rg_of (a := 1) (b := 1) 1 c_12 (by decide) (by decide)
    refine g_lookup C (tgt := 108) (off := 74) dX12_holds_34 (by decide) (by rw [c_12]; decide) (by decide) ?_
    have q_14 := ho_a (gm_tr W9 hU.2 hLx hkx hb_1) (ix_lt (n := 60) (N := 60) ra0 (by decide) rfl (by decide)) (show x_6.toNatClampNeg = 149 + 4 * a0.toNatClampNeg from by rw [nx_a tx_6 rc_149 rx_5 (by decide), nx_m (k := 4) tx_5 ra0 (by decide)]; simp only [show (149 : Int32).toNatClampNeg = 149 from rfl] <;> omega) (show x_7.toNatClampNeg = 149 + 4 * a0.toNatClampNeg + 1 from by rw [nx_a tx_7 rx_6 rc_1 (by decide), nx_a tx_6 rc_149 rx_5 (by decide), nx_m (k := 4) tx_5 ra0 (by decide)]; simp only [show (1 : Int32).toNatClampNeg = 1 from rfl, show (149 : Int32).toNatClampNeg = 149 from rfl] <;> omega) hx_11 hx_8 (Or.inl (rg_1k r_13 rc_1))
    have r_15 := (show Rg 0 58 x_8 from by have q1 := q_14; have q2 := ix_n (ra0) (by decide); have q3 := (ra0).2; unfold Rg; omega)
    refine g_aload_n C 3 dX12_holds_108 rfl rfl ?_
    refine g_iload C 1 dX12_holds_109 rfl ?_
    refine g_iload_n C 5 dX12_holds_111 rfl rfl ?_
    refine g_callVI C K (ih9 x_8 a1 (rg_w r_15 (by decide) (by decide)) (ra1) hU  (by have q1 := q_14; have q2 := ix_n (ra0) (by decide); omega)) hLx hkx (by decide) rfl v_12_419 rfl ⟨rfl, rfl⟩ ⟨by dsimp only; omega, by dsimp only; omega⟩ (Nat.le_of_ble_eq_true rfl) ⟨Nat.le_of_ble_eq_true rfl, Nat.le_of_ble_eq_true rfl⟩ dX12_holds_112 rfl (st := []) (fun x_16 I_17 J_18 h_19 => ?_)
    obtain ⟨rfl, rfl, rx_16⟩ := h_19
    refine g_if_ne C (tgt := 122) dX12_holds_115 (by decide) (fun h_20 => ?_) (fun h_20 => ?_)
    · skip
      have n_21 : ¬ x_16 = 0 := h_20
      have r_22 := ne_lo (lo := 1) n_21 rx_16 rc_0 rfl (by decide)
      refine g_iconst C (v := 0) dX12_holds_122 (by decide) ?_
      exact g_zret (ty := .boolean) (r := 0) B K rfl (rfl) ⟨rfl, rfl, rg_w rc_0 (by decide) (by decide)⟩ dX12_holds_123
    · skip
      have r_23 := (⟨(rx_16).1, (eq_rg (h_20) rc_0).2⟩ : Rg 0 0 x_16)
      refine g_iconst C (v := 1) dX12_holds_118 (by decide) ?_
      refine g_goto C (tgt := 123) dX12_holds_119 (by decide) ?_
      exact g_zret (ty := .boolean) (r := 1) B K rfl (rfl) ⟨rfl, rfl, rg_w rc_1 (by decide) (by decide)⟩ dX12_holds_123
  by_cases c_24 : x_11.toInt = 2
  · skip
    have r_25 := rg_of (a := 2) (b := 2) 2 c_24 (by decide) (by decide)
    refine g_lookup C (tgt := 124) (off := 90) dX12_holds_34 (by decide) (by rw [c_24]; decide) (by decide) ?_
    have q_26 := ho_a (gm_tr W9 hU.2 hLx hkx hb_1) (ix_lt (n := 60) (N := 60) ra0 (by decide) rfl (by decide)) (show x_6.toNatClampNeg = 149 + 4 * a0.toNatClampNeg from by rw [nx_a tx_6 rc_149 rx_5 (by decide), nx_m (k := 4) tx_5 ra0 (by decide)]; simp only [show (149 : Int32).toNatClampNeg = 149 from rfl] <;> omega) (show x_7.toNatClampNeg = 149 + 4 * a0.toNatClampNeg + 1 from by rw [nx_a tx_7 rx_6 rc_1 (by decide), nx_a tx_6 rc_149 rx_5 (by decide), nx_m (k := 4) tx_5 ra0 (by decide)]; simp only [show (1 : Int32).toNatClampNeg = 1 from rfl, show (149 : Int32).toNatClampNeg = 149 from rfl] <;> omega) hx_11 hx_8 (Or.inr (Or.inl (rg_1k r_25 rc_2)))
    have r_27 := (show Rg 0 58 x_8 from by have q1 := q_26; have q2 := ix_n (ra0) (by decide); have q3 := (ra0).2; unfold Rg; omega)
    have q_28 := ho_b (gm_tr W9 hU.2 hLx hkx hb_1) (ix_lt (n := 60) (N := 60) ra0 (by decide) rfl (by decide)) (show x_6.toNatClampNeg = 149 + 4 * a0.toNatClampNeg from by rw [nx_a tx_6 rc_149 rx_5 (by decide), nx_m (k := 4) tx_5 ra0 (by decide)]; simp only [show (149 : Int32).toNatClampNeg = 149 from rfl] <;> omega) (show x_9.toNatClampNeg = 149 + 4 * a0.toNatClampNeg + 2 from by rw [nx_a tx_9 rx_6 rc_2 (by decide), nx_a tx_6 rc_149 rx_5 (by decide), nx_m (k := 4) tx_5 ra0 (by decide)]; simp only [show (2 : Int32).toNatClampNeg = 2 from rfl, show (149 : Int32).toNatClampNeg = 149 from rfl] <;> omega) hx_11 hx_10 (Or.inl (rg_1k r_25 rc_2))
    have r_29 := (show Rg 0 58 x_10 from by have q1 := q_28; have q2 := ix_n (ra0) (by decide); have q3 := (ra0).2; unfold Rg; omega)
    refine g_aload_n C 3 dX12_holds_124 rfl rfl ?_
    refine g_iload C 1 dX12_holds_125 rfl ?_
    refine g_iload_n C 5 dX12_holds_127 rfl rfl ?_
    refine g_callVI C K (ih9 x_8 a1 (rg_w r_27 (by decide) (by decide)) (ra1) hU  (by have q1 := q_26; have q2 := ix_n (ra0) (by decide); omega)) hLx hkx (by decide) rfl v_12_419 rfl ⟨rfl, rfl⟩ ⟨by dsimp only; omega, by dsimp only; omega⟩ (Nat.le_of_ble_eq_true rfl) ⟨Nat.le_of_ble_eq_true rfl, Nat.le_of_ble_eq_true rfl⟩ dX12_holds_128 rfl (st := []) (fun x_30 I_31 J_32 h_33 => ?_)
    obtain ⟨rfl, rfl, rx_30⟩ := h_33
    refine g_if_eq C (tgt := 148) dX12_holds_131 (by decide) (fun h_34 => ?_) (fun h_34 => ?_)
    · skip
      have r_35 := (⟨(rx_30).1, (eq_rg (h_34) rc_0).2⟩ : Rg 0 0 x_30)
      refine g_iconst C (v := 0) dX12_holds_148 (by decide) ?_
      exact g_zret (ty := .boolean) (r := 0) B K rfl (rfl) ⟨rfl, rfl, rg_w rc_0 (by decide) (by decide)⟩ dX12_holds_149
    · skip
      have n_36 : ¬ x_30 = 0 := h_34
      have r_37 := ne_lo (lo := 1) n_36 rx_30 rc_0 rfl (by decide)
      refine g_aload_n C 3 dX12_holds_134 rfl rfl ?_
      refine g_iload C 0 dX12_holds_135 rfl ?_
      refine g_iload_n C 5 dX12_holds_137 rfl rfl ?_
      refine g_callVI C K (ih9 x_10 a1 (rg_w r_29 (by decide) (by decide)) (ra1) hU  (by have q1 := q_28; have q2 := ix_n (ra0) (by decide); omega)) hLx hkx (by decide) rfl v_12_419 rfl ⟨rfl, rfl⟩ ⟨by dsimp only; omega, by dsimp only; omega⟩ (Nat.le_of_ble_eq_true rfl) ⟨Nat.le_of_ble_eq_true rfl, Nat.le_of_ble_eq_true rfl⟩ dX12_holds_138 rfl (st := []) (fun x_38 I_39 J_40 h_41 => ?_)
      obtain ⟨rfl, rfl, rx_38⟩ := h_41
      refine g_if_eq C (tgt := 148) dX12_holds_141 (by decide) (fun h_42 => ?_) (fun h_42 => ?_)
      · skip
        have r_43 := (⟨(rx_38).1, (eq_rg (h_42) rc_0).2⟩ : Rg 0 0 x_38)
        refine g_iconst C (v := 0) dX12_holds_148 (by decide) ?_
        exact g_zret (ty := .boolean) (r := 0) B K rfl (rfl) ⟨rfl, rfl, rg_w rc_0 (by decide) (by decide)⟩ dX12_holds_149
      · skip
        have n_44 : ¬ x_38 = 0 := h_42
        have r_45 := ne_lo (lo := 1) n_44 rx_38 rc_0 rfl (by decide)
        refine g_iconst C (v := 1) dX12_holds_144 (by decide) ?_
        refine g_goto C (tgt := 149) dX12_holds_145 (by decide) ?_
        exact g_zret (ty := .boolean) (r := 1) B K rfl (rfl) ⟨rfl, rfl, rg_w rc_1 (by decide) (by decide)⟩ dX12_holds_149
  by_cases c_46 : x_11.toInt = 3
  · skip
    have r_47 := rg_of (a := 3) (b := 3) 3 c_46 (by decide) (by decide)
    refine g_lookup C (tgt := 150) (off := 116) dX12_holds_34 (by decide) (by rw [c_46]; decide) (by decide) ?_
    have q_48 := ho_a (gm_tr W9 hU.2 hLx hkx hb_1) (ix_lt (n := 60) (N := 60) ra0 (by decide) rfl (by decide)) (show x_6.toNatClampNeg = 149 + 4 * a0.toNatClampNeg from by rw [nx_a tx_6 rc_149 rx_5 (by decide), nx_m (k := 4) tx_5 ra0 (by decide)]; simp only [show (149 : Int32).toNatClampNeg = 149 from rfl] <;> omega) (show x_7.toNatClampNeg = 149 + 4 * a0.toNatClampNeg + 1 from by rw [nx_a tx_7 rx_6 rc_1 (by decide), nx_a tx_6 rc_149 rx_5 (by decide), nx_m (k := 4) tx_5 ra0 (by decide)]; simp only [show (1 : Int32).toNatClampNeg = 1 from rfl, show (149 : Int32).toNatClampNeg = 149 from rfl] <;> omega) hx_11 hx_8 (Or.inr (Or.inr (rg_1k r_47 rc_3)))
    have r_49 := (show Rg 0 58 x_8 from by have q1 := q_48; have q2 := ix_n (ra0) (by decide); have q3 := (ra0).2; unfold Rg; omega)
    have q_50 := ho_b (gm_tr W9 hU.2 hLx hkx hb_1) (ix_lt (n := 60) (N := 60) ra0 (by decide) rfl (by decide)) (show x_6.toNatClampNeg = 149 + 4 * a0.toNatClampNeg from by rw [nx_a tx_6 rc_149 rx_5 (by decide), nx_m (k := 4) tx_5 ra0 (by decide)]; simp only [show (149 : Int32).toNatClampNeg = 149 from rfl] <;> omega) (show x_9.toNatClampNeg = 149 + 4 * a0.toNatClampNeg + 2 from by rw [nx_a tx_9 rx_6 rc_2 (by decide), nx_a tx_6 rc_149 rx_5 (by decide), nx_m (k := 4) tx_5 ra0 (by decide)]; simp only [show (2 : Int32).toNatClampNeg = 2 from rfl, show (149 : Int32).toNatClampNeg = 149 from rfl] <;> omega) hx_11 hx_10 (Or.inr (rg_1k r_47 rc_3))
    have r_51 := (show Rg 0 58 x_10 from by have q1 := q_50; have q2 := ix_n (ra0) (by decide); have q3 := (ra0).2; unfold Rg; omega)
    refine g_aload_n C 3 dX12_holds_150 rfl rfl ?_
    refine g_iload C 1 dX12_holds_151 rfl ?_
    refine g_iload_n C 5 dX12_holds_153 rfl rfl ?_
    refine g_callVI C K (ih9 x_8 a1 (rg_w r_49 (by decide) (by decide)) (ra1) hU  (by have q1 := q_48; have q2 := ix_n (ra0) (by decide); omega)) hLx hkx (by decide) rfl v_12_419 rfl ⟨rfl, rfl⟩ ⟨by dsimp only; omega, by dsimp only; omega⟩ (Nat.le_of_ble_eq_true rfl) ⟨Nat.le_of_ble_eq_true rfl, Nat.le_of_ble_eq_true rfl⟩ dX12_holds_154 rfl (st := []) (fun x_52 I_53 J_54 h_55 => ?_)
    obtain ⟨rfl, rfl, rx_52⟩ := h_55
    refine g_if_ne C (tgt := 170) dX12_holds_157 (by decide) (fun h_56 => ?_) (fun h_56 => ?_)
    · skip
      have n_57 : ¬ x_52 = 0 := h_56
      have r_58 := ne_lo (lo := 1) n_57 rx_52 rc_0 rfl (by decide)
      refine g_lo (is := [3, 4, 5, 2, 1, 0]) (lo2 := [(0, .ref x), (1, .int a0), (2, .int a1), (3, .int x_6), (4, .int x_8), (5, .int x_10)]) rfl ?_
      exact j_170 x_6 (rx_6) x_8 (r_49) x_10 (r_51)
    · skip
      have r_59 := (⟨(rx_52).1, (eq_rg (h_56) rc_0).2⟩ : Rg 0 0 x_52)
      refine g_aload_n C 3 dX12_holds_160 rfl rfl ?_
      refine g_iload C 0 dX12_holds_161 rfl ?_
      refine g_iload_n C 5 dX12_holds_163 rfl rfl ?_
      refine g_callVI C K (ih9 x_10 a1 (rg_w r_51 (by decide) (by decide)) (ra1) hU  (by have q1 := q_50; have q2 := ix_n (ra0) (by decide); omega)) hLx hkx (by decide) rfl v_12_419 rfl ⟨rfl, rfl⟩ ⟨by dsimp only; omega, by dsimp only; omega⟩ (Nat.le_of_ble_eq_true rfl) ⟨Nat.le_of_ble_eq_true rfl, Nat.le_of_ble_eq_true rfl⟩ dX12_holds_164 rfl (st := []) (fun x_60 I_61 J_62 h_63 => ?_)
      obtain ⟨rfl, rfl, rx_60⟩ := h_63
      refine g_if_eq C (tgt := 174) dX12_holds_167 (by decide) (fun h_64 => ?_) (fun h_64 => ?_)
      · skip
        have r_65 := (⟨(rx_60).1, (eq_rg (h_64) rc_0).2⟩ : Rg 0 0 x_60)
        refine g_iconst C (v := 0) dX12_holds_174 (by decide) ?_
        exact g_zret (ty := .boolean) (r := 0) B K rfl (rfl) ⟨rfl, rfl, rg_w rc_0 (by decide) (by decide)⟩ dX12_holds_175
      · skip
        have n_66 : ¬ x_60 = 0 := h_64
        have r_67 := ne_lo (lo := 1) n_66 rx_60 rc_0 rfl (by decide)
        refine g_lo (is := [3, 4, 5, 2, 1, 0]) (lo2 := [(0, .ref x), (1, .int a0), (2, .int a1), (3, .int x_6), (4, .int x_8), (5, .int x_10)]) rfl ?_
        exact j_170 x_6 (rx_6) x_8 (r_49) x_10 (r_51)
  by_cases c_68 : x_11.toInt = 69
  · skip
    have r_69 := rg_of (a := 69) (b := 69) 69 c_68 (by decide) (by decide)
    refine g_lookup C (tgt := 176) (off := 142) dX12_holds_34 (by decide) (by rw [c_68]; decide) (by decide) ?_
    refine g_aload_n C 3 dX12_holds_176 rfl rfl ?_
    refine g_iload_n C 5 dX12_holds_177 rfl rfl ?_
    refine g_callVI C K (c_X12_isDead W9 hLx hkx a1 (ra1) hU) hLx hkx (by decide) rfl v_12_244 rfl ⟨rfl, rfl⟩ ⟨by dsimp only; omega, by dsimp only; omega⟩ (Nat.le_of_ble_eq_true rfl) ⟨Nat.le_of_ble_eq_true rfl, Nat.le_of_ble_eq_true rfl⟩ dX12_holds_178 rfl (st := []) (fun x_70 I_71 J_72 h_73 => ?_)
    obtain ⟨rfl, rfl, rx_70⟩ := h_73
    exact g_zret (ty := .boolean) (r := x_70) B K rfl (nar_z (rx_70)) ⟨rfl, rfl, rx_70⟩ dX12_holds_181
  by_cases c_74 : x_11.toInt = 70
  · skip
    have r_75 := rg_of (a := 70) (b := 70) 70 c_74 (by decide) (by decide)
    refine g_lookup C (tgt := 182) (off := 148) dX12_holds_34 (by decide) (by rw [c_74]; decide) (by decide) ?_
    refine g_aload_n C 3 dX12_holds_182 rfl rfl ?_
    refine g_getR C K hLx hkx f_12_13 hb_1 dX12_holds_183 ?_
    refine g_bipush C (v := 74) dX12_holds_186 (by decide) ?_
    obtain ⟨x_76, hx_76, rx_76⟩ := ex_any (z0 := I b_1 (74))
    refine h_iald C K hb_1L hb_1k (v := x_76) (74) (by decide) (by decide) (by rw [hb_1n]; decide) hx_76 dX12_holds_188 ?_
    refine g_iload_n C 5 dX12_holds_189 rfl rfl ?_
    refine g_callSI C K (c_X12_has W9 x_76 a1  hU) s_12_231 rfl ⟨rfl, rfl⟩ ⟨by dsimp only; omega, by dsimp only; omega⟩ (Nat.le_of_ble_eq_true rfl) ⟨Nat.le_of_ble_eq_true rfl, Nat.le_of_ble_eq_true rfl⟩ dX12_holds_190 rfl (st := []) (fun x_77 I_78 J_79 h_80 => ?_)
    obtain ⟨rfl, rfl, rx_77, ex_77⟩ := h_80
    exact g_zret (ty := .boolean) (r := x_77) B K rfl (nar_z (rx_77)) ⟨rfl, rfl, rx_77⟩ dX12_holds_193
  by_cases c_81 : x_11.toInt = 71
  · skip
    have r_82 := rg_of (a := 71) (b := 71) 71 c_81 (by decide) (by decide)
    refine g_lookup C (tgt := 194) (off := 160) dX12_holds_34 (by decide) (by rw [c_81]; decide) (by decide) ?_
    refine g_aload_n C 3 dX12_holds_194 rfl rfl ?_
    refine g_iload_n C 5 dX12_holds_195 rfl rfl ?_
    refine g_callVI C K (c_X12_plateOf W9 hLx hkx a1 (ra1) hU) hLx hkx (by decide) rfl v_12_247 rfl ⟨rfl, rfl⟩ ⟨by dsimp only; omega, by dsimp only; omega⟩ (Nat.le_of_ble_eq_true rfl) ⟨Nat.le_of_ble_eq_true rfl, Nat.le_of_ble_eq_true rfl⟩ dX12_holds_196 rfl (st := []) (fun x_83 I_84 J_85 h_86 => ?_)
    obtain ⟨rfl, rfl, rx_83⟩ := h_86
    refine g_if_ne C (tgt := 206) dX12_holds_199 (by decide) (fun h_87 => ?_) (fun h_87 => ?_)
    · skip
      have n_88 : ¬ x_83 = 0 := h_87
      have r_89 := ne_lo (lo := 1) n_88 rx_83 rc_0 rfl (by decide)
      refine g_iconst C (v := 0) dX12_holds_206 (by decide) ?_
      exact g_zret (ty := .boolean) (r := 0) B K rfl (rfl) ⟨rfl, rfl, rg_w rc_0 (by decide) (by decide)⟩ dX12_holds_207
    · skip
      have r_90 := (⟨(rx_83).1, (eq_rg (h_87) rc_0).2⟩ : Rg 0 0 x_83)
      refine g_iconst C (v := 1) dX12_holds_202 (by decide) ?_
      refine g_goto C (tgt := 207) dX12_holds_203 (by decide) ?_
      exact g_zret (ty := .boolean) (r := 1) B K rfl (rfl) ⟨rfl, rfl, rg_w rc_1 (by decide) (by decide)⟩ dX12_holds_207
  by_cases c_91 : x_11.toInt = 72
  · skip
    have r_92 := rg_of (a := 72) (b := 72) 72 c_91 (by decide) (by decide)
    refine g_lookup C (tgt := 208) (off := 174) dX12_holds_34 (by decide) (by rw [c_91]; decide) (by decide) ?_
    refine g_aload_n C 3 dX12_holds_208 rfl rfl ?_
    refine g_getR C K hLx hkx f_12_13 hb_1 dX12_holds_209 ?_
    refine g_bipush C (v := 11) dX12_holds_212 (by decide) ?_
    refine g_iload_n C 5 dX12_holds_214 rfl rfl ?_
    obtain ⟨x_93, hx_93, rx_93, tx_93⟩ := ex_add 11 17 rc_11 ra1 (by decide) (by decide) (by decide) (by decide)
    refine g_iadd C (v := x_93) dX12_holds_215 hx_93 ?_
    obtain ⟨x_94, hx_94, rx_94⟩ := ex_any (z0 := I b_1 (x_93.toNatClampNeg))
    refine h_iald C K hb_1L hb_1k (v := x_94) (x_93.toNatClampNeg) (rfl) (ix_0 rx_93 (by decide)) (ix_lt rx_93 (by decide) hb_1n (by decide)) hx_94 dX12_holds_216 ?_
    refine g_iload C 1 dX12_holds_217 rfl ?_
    refine g_icmp_ne C (tgt := 226) dX12_holds_219 (by decide) (fun h_95 => ?_) (fun h_95 => ?_)
    · skip
      refine g_iconst C (v := 0) dX12_holds_226 (by decide) ?_
      exact g_zret (ty := .boolean) (r := 0) B K rfl (rfl) ⟨rfl, rfl, rg_w rc_0 (by decide) (by decide)⟩ dX12_holds_227
    · skip
      refine g_iconst C (v := 1) dX12_holds_222 (by decide) ?_
      refine g_goto C (tgt := 227) dX12_holds_223 (by decide) ?_
      exact g_zret (ty := .boolean) (r := 1) B K rfl (rfl) ⟨rfl, rfl, rg_w rc_1 (by decide) (by decide)⟩ dX12_holds_227
  by_cases c_96 : x_11.toInt = 73
  · skip
    have r_97 := rg_of (a := 73) (b := 73) 73 c_96 (by decide) (by decide)
    refine g_lookup C (tgt := 228) (off := 194) dX12_holds_34 (by decide) (by rw [c_96]; decide) (by decide) ?_
    have q_98 := ho_c (gm_tr W9 hU.2 hLx hkx hb_1) (ix_lt (n := 60) (N := 60) ra0 (by decide) rfl (by decide)) (show x_6.toNatClampNeg = 149 + 4 * a0.toNatClampNeg from by rw [nx_a tx_6 rc_149 rx_5 (by decide), nx_m (k := 4) tx_5 ra0 (by decide)]; simp only [show (149 : Int32).toNatClampNeg = 149 from rfl] <;> omega) (show x_7.toNatClampNeg = 149 + 4 * a0.toNatClampNeg + 1 from by rw [nx_a tx_7 rx_6 rc_1 (by decide), nx_a tx_6 rc_149 rx_5 (by decide), nx_m (k := 4) tx_5 ra0 (by decide)]; simp only [show (1 : Int32).toNatClampNeg = 1 from rfl, show (149 : Int32).toNatClampNeg = 149 from rfl] <;> omega) hx_11 hx_8 ((rg_1k r_97 rc_73))
    have r_99 := (show Rg 0 5 x_8 from by have q1 := q_98; have q2 := ix_n (ra0) (by decide); have q3 := (ra0).2; unfold Rg; omega)
    refine g_aload_n C 3 dX12_holds_228 rfl rfl ?_
    refine g_iload_n C 5 dX12_holds_229 rfl rfl ?_
    refine g_iload C 1 dX12_holds_230 rfl ?_
    refine g_callVI C K (c_X12_onPlate W9 hLx hkx a1 x_8 (ra1) (r_99) hU) hLx hkx (by decide) rfl v_12_234 rfl ⟨rfl, rfl⟩ ⟨by dsimp only; omega, by dsimp only; omega⟩ (Nat.le_of_ble_eq_true rfl) ⟨Nat.le_of_ble_eq_true rfl, Nat.le_of_ble_eq_true rfl⟩ dX12_holds_232 rfl (st := []) (fun x_100 I_101 J_102 h_103 => ?_)
    obtain ⟨rfl, rfl, rx_100, ex_100⟩ := h_103
    refine g_if_le C (tgt := 242) dX12_holds_235 (by decide) (fun h_104 => ?_) (fun h_104 => ?_)
    · skip
      have r_105 := le_l (h_104) rx_100 rc_0
      refine g_iconst C (v := 0) dX12_holds_242 (by decide) ?_
      exact g_zret (ty := .boolean) (r := 0) B K rfl (rfl) ⟨rfl, rfl, rg_w rc_0 (by decide) (by decide)⟩ dX12_holds_243
    · skip
      have r_106 := lt_r (lo := 1) (nle h_104) rc_0 rx_100 (by decide)
      refine g_iconst C (v := 1) dX12_holds_238 (by decide) ?_
      refine g_goto C (tgt := 243) dX12_holds_239 (by decide) ?_
      exact g_zret (ty := .boolean) (r := 1) B K rfl (rfl) ⟨rfl, rfl, rg_w rc_1 (by decide) (by decide)⟩ dX12_holds_243
  have n_108 : ¬ x_11 = 1 := (fun q => c_12 (by rw [q]; decide))
  have n_109 : ¬ x_11 = 2 := (fun q => c_24 (by rw [q]; decide))
  have n_110 : ¬ x_11 = 3 := (fun q => c_46 (by rw [q]; decide))
  have n_111 : ¬ x_11 = 69 := (fun q => c_68 (by rw [q]; decide))
  have n_112 : ¬ x_11 = 70 := (fun q => c_74 (by rw [q]; decide))
  have n_113 : ¬ x_11 = 71 := (fun q => c_81 (by rw [q]; decide))
  have n_114 : ¬ x_11 = 72 := (fun q => c_91 (by rw [q]; decide))
  have n_115 : ¬ x_11 = 73 := (fun q => c_96 (by rw [q]; decide))
  obtain ⟨q_1071, q_1072⟩ := id (rx_11)
  refine g_lookup C (tgt := 244) (off := 210) dX12_holds_34 (by decide) (by simp [Op.lookupswitch.offset, Ne.symm c_12, Ne.symm c_24, Ne.symm c_46, Ne.symm c_68, Ne.symm c_74, Ne.symm c_81, Ne.symm c_91, Ne.symm c_96]) (by decide) ?_
  refine g_aload_n C 3 dX12_holds_244 rfl rfl ?_
  refine g_getR C K hLx hkx f_12_13 hb_1 dX12_holds_245 ?_
  refine g_iload_n C 2 dX12_holds_248 rfl rfl ?_
  refine h_iald C K hb_1L hb_1k (v := x_11) (x_6.toNatClampNeg) (rfl) (ix_0 rx_6 (by decide)) (ix_lt rx_6 (by decide) hb_1n (by decide)) hx_11 dX12_holds_249 ?_
  refine g_bipush C (v := 50) dX12_holds_250 (by decide) ?_
  obtain ⟨x_117, hx_117, rx_117⟩ := ex_any (z0 := x_11 - 50)
  refine g_isub C (v := x_117) dX12_holds_252 hx_117 ?_
  refine g_istore C dX12_holds_253 (by decide) (lo2 := [(6, .int x_117), (5, .int x_10), (4, .int x_8), (3, .int x_6), (0, .ref x), (1, .int a0), (2, .int a1)]) rfl ?_
  refine g_iload C 0 dX12_holds_255 rfl ?_
  refine g_bipush C (v := 24) dX12_holds_257 (by decide) ?_
  refine g_icmp_ne C (tgt := 273) dX12_holds_259 (by decide) (fun h_118 => ?_) (fun h_118 => ?_)
  · skip
    have n_119 : ¬ x_117 = 24 := h_118
    refine g_iload C 0 dX12_holds_273 rfl ?_
    refine g_bipush C (v := 25) dX12_holds_275 (by decide) ?_
    refine g_icmp_ne C (tgt := 292) dX12_holds_277 (by decide) (fun h_120 => ?_) (fun h_120 => ?_)
    · skip
      have n_121 : ¬ x_117 = 25 := h_120
      refine g_iload C 0 dX12_holds_292 rfl ?_
      refine g_bipush C (v := 26) dX12_holds_294 (by decide) ?_
      refine g_icmp_ne C (tgt := 311) dX12_holds_296 (by decide) (fun h_122 => ?_) (fun h_122 => ?_)
      · skip
        have n_123 : ¬ x_117 = 26 := h_122
        refine g_iload_n C 6 dX12_holds_311 rfl rfl ?_
        refine g_istore C dX12_holds_312 (by decide) (lo2 := [(7, .int a1), (6, .int x_117), (5, .int x_10), (4, .int x_8), (3, .int x_6), (0, .ref x), (1, .int a0), (2, .int a1)]) rfl ?_
        refine g_aload_n C 5 dX12_holds_314 rfl rfl ?_
        refine g_getR C K hLx hkx f_12_13 hb_1 dX12_holds_315 ?_
        refine g_iload_n C 4 dX12_holds_318 rfl rfl ?_
        refine g_iconst C (v := 3) dX12_holds_319 (by decide) ?_
        obtain ⟨x_124, hx_124, rx_124, tx_124⟩ := ex_add 152 388 rx_6 rc_3 (by decide) (by decide) (by decide) (by decide)
        refine g_iadd C (v := x_124) dX12_holds_320 hx_124 ?_
        obtain ⟨x_125, hx_125, rx_125⟩ := ex_any (z0 := I b_1 (x_124.toNatClampNeg))
        refine h_iald C K hb_1L hb_1k (v := x_125) (x_124.toNatClampNeg) (rfl) (ix_0 rx_124 (by decide)) (ix_lt rx_124 (by decide) hb_1n (by decide)) hx_125 dX12_holds_321 ?_
        refine g_bipush C (v := 60) dX12_holds_322 (by decide) ?_
        refine g_icmp_ne C (tgt := 342) dX12_holds_324 (by decide) (fun h_126 => ?_) (fun h_126 => ?_)
        · skip
          have n_127 : ¬ x_125 = 60 := h_126
          refine g_aload_n C 5 dX12_holds_342 rfl rfl ?_
          refine g_getR C K hLx hkx f_12_13 hb_1 dX12_holds_343 ?_
          refine g_iload_n C 4 dX12_holds_346 rfl rfl ?_
          refine g_iconst C (v := 3) dX12_holds_347 (by decide) ?_
          refine g_iadd C (v := x_124) dX12_holds_348 hx_124 ?_
          refine h_iald C K hb_1L hb_1k (v := x_125) (x_124.toNatClampNeg) (rfl) (ix_0 rx_124 (by decide)) (ix_lt rx_124 (by decide) hb_1n (by decide)) hx_125 dX12_holds_349 ?_
          refine g_bipush C (v := 61) dX12_holds_350 (by decide) ?_
          refine g_icmp_ne C (tgt := 370) dX12_holds_352 (by decide) (fun h_129 => ?_) (fun h_129 => ?_)
          · skip
            have n_130 : ¬ x_125 = 61 := h_129
            refine g_iload C 0 dX12_holds_370 rfl ?_
            refine g_iload C 2 dX12_holds_372 rfl ?_
            refine g_icmp_le C (tgt := 381) dX12_holds_374 (by decide) (fun h_131 => ?_) (fun h_131 => ?_)
            · skip
              have r_132 := le_r (h_131) ra1 rx_10
              refine g_iconst C (v := 0) dX12_holds_381 (by decide) ?_
              exact g_zret (ty := .boolean) (r := 0) B K rfl (rfl) ⟨rfl, rfl, rg_w rc_0 (by decide) (by decide)⟩ dX12_holds_382
            · skip
              have r_133 := lt_l (hi := 5) (nle h_131) rx_10 ra1 (by decide)
              refine g_iconst C (v := 1) dX12_holds_377 (by decide) ?_
              refine g_goto C (tgt := 382) dX12_holds_378 (by decide) ?_
              exact g_zret (ty := .boolean) (r := 1) B K rfl (rfl) ⟨rfl, rfl, rg_w rc_1 (by decide) (by decide)⟩ dX12_holds_382
          · skip
            have r_134 := (⟨(eq_rg (h_129) rc_61).1, (eq_rg (h_129) rc_61).2⟩ : Rg 61 61 x_125)
            refine g_iload C 0 dX12_holds_355 rfl ?_
            refine g_iload C 2 dX12_holds_357 rfl ?_
            refine g_icmp_ne C (tgt := 366) dX12_holds_359 (by decide) (fun h_135 => ?_) (fun h_135 => ?_)
            · skip
              refine g_iconst C (v := 0) dX12_holds_366 (by decide) ?_
              refine g_goto C (tgt := 382) dX12_holds_367 (by decide) ?_
              exact g_zret (ty := .boolean) (r := 0) B K rfl (rfl) ⟨rfl, rfl, rg_w rc_0 (by decide) (by decide)⟩ dX12_holds_382
            · skip
              have r_136 := (⟨(eq_rg (Eq.symm (h_135)) ra1).1, (eq_rg (Eq.symm (h_135)) ra1).2⟩ : Rg 0 6 x_10)
              refine g_iconst C (v := 1) dX12_holds_362 (by decide) ?_
              refine g_goto C (tgt := 382) dX12_holds_363 (by decide) ?_
              exact g_zret (ty := .boolean) (r := 1) B K rfl (rfl) ⟨rfl, rfl, rg_w rc_1 (by decide) (by decide)⟩ dX12_holds_382
        · skip
          have r_137 := (⟨(eq_rg (h_126) rc_60).1, (eq_rg (h_126) rc_60).2⟩ : Rg 60 60 x_125)
          refine g_iload C 0 dX12_holds_327 rfl ?_
          refine g_iload C 2 dX12_holds_329 rfl ?_
          refine g_icmp_ge C (tgt := 338) dX12_holds_331 (by decide) (fun h_138 => ?_) (fun h_138 => ?_)
          · skip
            have r_139 := le_l (h_138) rx_10 ra1
            refine g_iconst C (v := 0) dX12_holds_338 (by decide) ?_
            refine g_goto C (tgt := 382) dX12_holds_339 (by decide) ?_
            exact g_zret (ty := .boolean) (r := 0) B K rfl (rfl) ⟨rfl, rfl, rg_w rc_0 (by decide) (by decide)⟩ dX12_holds_382
          · skip
            have r_140 := lt_r (lo := 1) (nle h_138) ra1 rx_10 (by decide)
            refine g_iconst C (v := 1) dX12_holds_334 (by decide) ?_
            refine g_goto C (tgt := 382) dX12_holds_335 (by decide) ?_
            exact g_zret (ty := .boolean) (r := 1) B K rfl (rfl) ⟨rfl, rfl, rg_w rc_1 (by decide) (by decide)⟩ dX12_holds_382
      · skip
        have r_141 := (⟨(eq_rg (h_122) rc_26).1, (eq_rg (h_122) rc_26).2⟩ : Rg 26 26 x_117)
        refine g_aload_n C 4 dX12_holds_299 rfl rfl ?_
        refine g_getR C K hLx hkx f_12_13 hb_1 dX12_holds_300 ?_
        refine g_bipush C (v := 98) dX12_holds_303 (by decide) ?_
        refine g_iload_n C 6 dX12_holds_305 rfl rfl ?_
        obtain ⟨x_142, hx_142, rx_142, tx_142⟩ := ex_add 98 104 rc_98 ra1 (by decide) (by decide) (by decide) (by decide)
        refine g_iadd C (v := x_142) dX12_holds_306 hx_142 ?_
        obtain ⟨x_143, hx_143, rx_143⟩ := ex_any (z0 := I b_1 (x_142.toNatClampNeg))
        refine h_iald C K hb_1L hb_1k (v := x_143) (x_142.toNatClampNeg) (rfl) (ix_0 rx_142 (by decide)) (ix_lt rx_142 (by decide) hb_1n (by decide)) hx_143 dX12_holds_307 ?_
        refine g_goto C (tgt := 312) dX12_holds_308 (by decide) ?_
        refine g_istore C dX12_holds_312 (by decide) (lo2 := [(7, .int x_143), (6, .int x_117), (5, .int x_10), (4, .int x_8), (3, .int x_6), (0, .ref x), (1, .int a0), (2, .int a1)]) rfl ?_
        refine g_aload_n C 5 dX12_holds_314 rfl rfl ?_
        refine g_getR C K hLx hkx f_12_13 hb_1 dX12_holds_315 ?_
        refine g_iload_n C 4 dX12_holds_318 rfl rfl ?_
        refine g_iconst C (v := 3) dX12_holds_319 (by decide) ?_
        obtain ⟨x_144, hx_144, rx_144, tx_144⟩ := ex_add 152 388 rx_6 rc_3 (by decide) (by decide) (by decide) (by decide)
        refine g_iadd C (v := x_144) dX12_holds_320 hx_144 ?_
        obtain ⟨x_145, hx_145, rx_145⟩ := ex_any (z0 := I b_1 (x_144.toNatClampNeg))
        refine h_iald C K hb_1L hb_1k (v := x_145) (x_144.toNatClampNeg) (rfl) (ix_0 rx_144 (by decide)) (ix_lt rx_144 (by decide) hb_1n (by decide)) hx_145 dX12_holds_321 ?_
        refine g_bipush C (v := 60) dX12_holds_322 (by decide) ?_
        refine g_icmp_ne C (tgt := 342) dX12_holds_324 (by decide) (fun h_146 => ?_) (fun h_146 => ?_)
        · skip
          have n_147 : ¬ x_145 = 60 := h_146
          refine g_aload_n C 5 dX12_holds_342 rfl rfl ?_
          refine g_getR C K hLx hkx f_12_13 hb_1 dX12_holds_343 ?_
          refine g_iload_n C 4 dX12_holds_346 rfl rfl ?_
          refine g_iconst C (v := 3) dX12_holds_347 (by decide) ?_
          refine g_iadd C (v := x_144) dX12_holds_348 hx_144 ?_
          refine h_iald C K hb_1L hb_1k (v := x_145) (x_144.toNatClampNeg) (rfl) (ix_0 rx_144 (by decide)) (ix_lt rx_144 (by decide) hb_1n (by decide)) hx_145 dX12_holds_349 ?_
          refine g_bipush C (v := 61) dX12_holds_350 (by decide) ?_
          refine g_icmp_ne C (tgt := 370) dX12_holds_352 (by decide) (fun h_149 => ?_) (fun h_149 => ?_)
          · skip
            have n_150 : ¬ x_145 = 61 := h_149
            refine g_iload C 0 dX12_holds_370 rfl ?_
            refine g_iload C 2 dX12_holds_372 rfl ?_
            refine g_icmp_le C (tgt := 381) dX12_holds_374 (by decide) (fun h_151 => ?_) (fun h_151 => ?_)
            · skip
              refine g_iconst C (v := 0) dX12_holds_381 (by decide) ?_
              exact g_zret (ty := .boolean) (r := 0) B K rfl (rfl) ⟨rfl, rfl, rg_w rc_0 (by decide) (by decide)⟩ dX12_holds_382
            · skip
              have r_152 := lt_l (hi := 2147483646) (nle h_151) rx_10 rx_143 (by decide)
              have r_153 := lt_r (lo := (-2147483647)) (nle h_151) rx_10 rx_143 (by decide)
              refine g_iconst C (v := 1) dX12_holds_377 (by decide) ?_
              refine g_goto C (tgt := 382) dX12_holds_378 (by decide) ?_
              exact g_zret (ty := .boolean) (r := 1) B K rfl (rfl) ⟨rfl, rfl, rg_w rc_1 (by decide) (by decide)⟩ dX12_holds_382
          · skip
            have r_154 := (⟨(eq_rg (h_149) rc_61).1, (eq_rg (h_149) rc_61).2⟩ : Rg 61 61 x_145)
            refine g_iload C 0 dX12_holds_355 rfl ?_
            refine g_iload C 2 dX12_holds_357 rfl ?_
            refine g_icmp_ne C (tgt := 366) dX12_holds_359 (by decide) (fun h_155 => ?_) (fun h_155 => ?_)
            · skip
              refine g_iconst C (v := 0) dX12_holds_366 (by decide) ?_
              refine g_goto C (tgt := 382) dX12_holds_367 (by decide) ?_
              exact g_zret (ty := .boolean) (r := 0) B K rfl (rfl) ⟨rfl, rfl, rg_w rc_0 (by decide) (by decide)⟩ dX12_holds_382
            · skip
              refine g_iconst C (v := 1) dX12_holds_362 (by decide) ?_
              refine g_goto C (tgt := 382) dX12_holds_363 (by decide) ?_
              exact g_zret (ty := .boolean) (r := 1) B K rfl (rfl) ⟨rfl, rfl, rg_w rc_1 (by decide) (by decide)⟩ dX12_holds_382
        · skip
          have r_156 := (⟨(eq_rg (h_146) rc_60).1, (eq_rg (h_146) rc_60).2⟩ : Rg 60 60 x_145)
          refine g_iload C 0 dX12_holds_327 rfl ?_
          refine g_iload C 2 dX12_holds_329 rfl ?_
          refine g_icmp_ge C (tgt := 338) dX12_holds_331 (by decide) (fun h_157 => ?_) (fun h_157 => ?_)
          · skip
            refine g_iconst C (v := 0) dX12_holds_338 (by decide) ?_
            refine g_goto C (tgt := 382) dX12_holds_339 (by decide) ?_
            exact g_zret (ty := .boolean) (r := 0) B K rfl (rfl) ⟨rfl, rfl, rg_w rc_0 (by decide) (by decide)⟩ dX12_holds_382
          · skip
            have r_158 := lt_l (hi := 2147483646) (nle h_157) rx_143 rx_10 (by decide)
            have r_159 := lt_r (lo := (-2147483647)) (nle h_157) rx_143 rx_10 (by decide)
            refine g_iconst C (v := 1) dX12_holds_334 (by decide) ?_
            refine g_goto C (tgt := 382) dX12_holds_335 (by decide) ?_
            exact g_zret (ty := .boolean) (r := 1) B K rfl (rfl) ⟨rfl, rfl, rg_w rc_1 (by decide) (by decide)⟩ dX12_holds_382
    · skip
      have r_160 := (⟨(eq_rg (h_120) rc_25).1, (eq_rg (h_120) rc_25).2⟩ : Rg 25 25 x_117)
      refine g_aload_n C 4 dX12_holds_280 rfl rfl ?_
      refine g_getR C K hLx hkx f_12_13 hb_1 dX12_holds_281 ?_
      refine g_bipush C (v := 84) dX12_holds_284 (by decide) ?_
      refine g_iload_n C 6 dX12_holds_286 rfl rfl ?_
      obtain ⟨x_161, hx_161, rx_161, tx_161⟩ := ex_add 84 90 rc_84 ra1 (by decide) (by decide) (by decide) (by decide)
      refine g_iadd C (v := x_161) dX12_holds_287 hx_161 ?_
      obtain ⟨x_162, hx_162, rx_162⟩ := ex_any (z0 := I b_1 (x_161.toNatClampNeg))
      refine h_iald C K hb_1L hb_1k (v := x_162) (x_161.toNatClampNeg) (rfl) (ix_0 rx_161 (by decide)) (ix_lt rx_161 (by decide) hb_1n (by decide)) hx_162 dX12_holds_288 ?_
      refine g_goto C (tgt := 312) dX12_holds_289 (by decide) ?_
      refine g_istore C dX12_holds_312 (by decide) (lo2 := [(7, .int x_162), (6, .int x_117), (5, .int x_10), (4, .int x_8), (3, .int x_6), (0, .ref x), (1, .int a0), (2, .int a1)]) rfl ?_
      refine g_aload_n C 5 dX12_holds_314 rfl rfl ?_
      refine g_getR C K hLx hkx f_12_13 hb_1 dX12_holds_315 ?_
      refine g_iload_n C 4 dX12_holds_318 rfl rfl ?_
      refine g_iconst C (v := 3) dX12_holds_319 (by decide) ?_
      obtain ⟨x_163, hx_163, rx_163, tx_163⟩ := ex_add 152 388 rx_6 rc_3 (by decide) (by decide) (by decide) (by decide)
      refine g_iadd C (v := x_163) dX12_holds_320 hx_163 ?_
      obtain ⟨x_164, hx_164, rx_164⟩ := ex_any (z0 := I b_1 (x_163.toNatClampNeg))
      refine h_iald C K hb_1L hb_1k (v := x_164) (x_163.toNatClampNeg) (rfl) (ix_0 rx_163 (by decide)) (ix_lt rx_163 (by decide) hb_1n (by decide)) hx_164 dX12_holds_321 ?_
      refine g_bipush C (v := 60) dX12_holds_322 (by decide) ?_
      refine g_icmp_ne C (tgt := 342) dX12_holds_324 (by decide) (fun h_165 => ?_) (fun h_165 => ?_)
      · skip
        have n_166 : ¬ x_164 = 60 := h_165
        refine g_aload_n C 5 dX12_holds_342 rfl rfl ?_
        refine g_getR C K hLx hkx f_12_13 hb_1 dX12_holds_343 ?_
        refine g_iload_n C 4 dX12_holds_346 rfl rfl ?_
        refine g_iconst C (v := 3) dX12_holds_347 (by decide) ?_
        refine g_iadd C (v := x_163) dX12_holds_348 hx_163 ?_
        refine h_iald C K hb_1L hb_1k (v := x_164) (x_163.toNatClampNeg) (rfl) (ix_0 rx_163 (by decide)) (ix_lt rx_163 (by decide) hb_1n (by decide)) hx_164 dX12_holds_349 ?_
        refine g_bipush C (v := 61) dX12_holds_350 (by decide) ?_
        refine g_icmp_ne C (tgt := 370) dX12_holds_352 (by decide) (fun h_168 => ?_) (fun h_168 => ?_)
        · skip
          have n_169 : ¬ x_164 = 61 := h_168
          refine g_iload C 0 dX12_holds_370 rfl ?_
          refine g_iload C 2 dX12_holds_372 rfl ?_
          refine g_icmp_le C (tgt := 381) dX12_holds_374 (by decide) (fun h_170 => ?_) (fun h_170 => ?_)
          · skip
            refine g_iconst C (v := 0) dX12_holds_381 (by decide) ?_
            exact g_zret (ty := .boolean) (r := 0) B K rfl (rfl) ⟨rfl, rfl, rg_w rc_0 (by decide) (by decide)⟩ dX12_holds_382
          · skip
            have r_171 := lt_l (hi := 2147483646) (nle h_170) rx_10 rx_162 (by decide)
            have r_172 := lt_r (lo := (-2147483647)) (nle h_170) rx_10 rx_162 (by decide)
            refine g_iconst C (v := 1) dX12_holds_377 (by decide) ?_
            refine g_goto C (tgt := 382) dX12_holds_378 (by decide) ?_
            exact g_zret (ty := .boolean) (r := 1) B K rfl (rfl) ⟨rfl, rfl, rg_w rc_1 (by decide) (by decide)⟩ dX12_holds_382
        · skip
          have r_173 := (⟨(eq_rg (h_168) rc_61).1, (eq_rg (h_168) rc_61).2⟩ : Rg 61 61 x_164)
          refine g_iload C 0 dX12_holds_355 rfl ?_
          refine g_iload C 2 dX12_holds_357 rfl ?_
          refine g_icmp_ne C (tgt := 366) dX12_holds_359 (by decide) (fun h_174 => ?_) (fun h_174 => ?_)
          · skip
            refine g_iconst C (v := 0) dX12_holds_366 (by decide) ?_
            refine g_goto C (tgt := 382) dX12_holds_367 (by decide) ?_
            exact g_zret (ty := .boolean) (r := 0) B K rfl (rfl) ⟨rfl, rfl, rg_w rc_0 (by decide) (by decide)⟩ dX12_holds_382
          · skip
            refine g_iconst C (v := 1) dX12_holds_362 (by decide) ?_
            refine g_goto C (tgt := 382) dX12_holds_363 (by decide) ?_
            exact g_zret (ty := .boolean) (r := 1) B K rfl (rfl) ⟨rfl, rfl, rg_w rc_1 (by decide) (by decide)⟩ dX12_holds_382
      · skip
        have r_175 := (⟨(eq_rg (h_165) rc_60).1, (eq_rg (h_165) rc_60).2⟩ : Rg 60 60 x_164)
        refine g_iload C 0 dX12_holds_327 rfl ?_
        refine g_iload C 2 dX12_holds_329 rfl ?_
        refine g_icmp_ge C (tgt := 338) dX12_holds_331 (by decide) (fun h_176 => ?_) (fun h_176 => ?_)
        · skip
          refine g_iconst C (v := 0) dX12_holds_338 (by decide) ?_
          refine g_goto C (tgt := 382) dX12_holds_339 (by decide) ?_
          exact g_zret (ty := .boolean) (r := 0) B K rfl (rfl) ⟨rfl, rfl, rg_w rc_0 (by decide) (by decide)⟩ dX12_holds_382
        · skip
          have r_177 := lt_l (hi := 2147483646) (nle h_176) rx_162 rx_10 (by decide)
          have r_178 := lt_r (lo := (-2147483647)) (nle h_176) rx_162 rx_10 (by decide)
          refine g_iconst C (v := 1) dX12_holds_334 (by decide) ?_
          refine g_goto C (tgt := 382) dX12_holds_335 (by decide) ?_
          exact g_zret (ty := .boolean) (r := 1) B K rfl (rfl) ⟨rfl, rfl, rg_w rc_1 (by decide) (by decide)⟩ dX12_holds_382
  · skip
    have r_179 := (⟨(eq_rg (h_118) rc_24).1, (eq_rg (h_118) rc_24).2⟩ : Rg 24 24 x_117)
    refine g_aload_n C 4 dX12_holds_262 rfl rfl ?_
    refine g_getR C K hLx hkx f_12_13 hb_1 dX12_holds_263 ?_
    refine g_iconst C (v := 4) dX12_holds_266 (by decide) ?_
    refine g_iload_n C 6 dX12_holds_267 rfl rfl ?_
    obtain ⟨x_180, hx_180, rx_180, tx_180⟩ := ex_add 4 10 rc_4 ra1 (by decide) (by decide) (by decide) (by decide)
    refine g_iadd C (v := x_180) dX12_holds_268 hx_180 ?_
    obtain ⟨x_181, hx_181, rx_181⟩ := ex_getw (I := I) (a := b_1) (j := x_180.toNatClampNeg) (lo := 0) (hi := 20) hU.1 hb_1L (ro_a hb_1k (by decide) hb_1o hkx rfl) (bn_834.trans (zq_4 (ix_k (lo := 4) (hi := 10) rx_180 (by decide) (by decide) (by decide))))
    refine h_iald C K hb_1L hb_1k (v := x_181) (x_180.toNatClampNeg) (rfl) (ix_0 rx_180 (by decide)) (ix_lt rx_180 (by decide) hb_1n (by decide)) hx_181 dX12_holds_269 ?_
    refine g_goto C (tgt := 312) dX12_holds_270 (by decide) ?_
    refine g_istore C dX12_holds_312 (by decide) (lo2 := [(7, .int x_181), (6, .int x_117), (5, .int x_10), (4, .int x_8), (3, .int x_6), (0, .ref x), (1, .int a0), (2, .int a1)]) rfl ?_
    refine g_aload_n C 5 dX12_holds_314 rfl rfl ?_
    refine g_getR C K hLx hkx f_12_13 hb_1 dX12_holds_315 ?_
    refine g_iload_n C 4 dX12_holds_318 rfl rfl ?_
    refine g_iconst C (v := 3) dX12_holds_319 (by decide) ?_
    obtain ⟨x_182, hx_182, rx_182, tx_182⟩ := ex_add 152 388 rx_6 rc_3 (by decide) (by decide) (by decide) (by decide)
    refine g_iadd C (v := x_182) dX12_holds_320 hx_182 ?_
    obtain ⟨x_183, hx_183, rx_183⟩ := ex_any (z0 := I b_1 (x_182.toNatClampNeg))
    refine h_iald C K hb_1L hb_1k (v := x_183) (x_182.toNatClampNeg) (rfl) (ix_0 rx_182 (by decide)) (ix_lt rx_182 (by decide) hb_1n (by decide)) hx_183 dX12_holds_321 ?_
    refine g_bipush C (v := 60) dX12_holds_322 (by decide) ?_
    refine g_icmp_ne C (tgt := 342) dX12_holds_324 (by decide) (fun h_184 => ?_) (fun h_184 => ?_)
    · skip
      have n_185 : ¬ x_183 = 60 := h_184
      refine g_aload_n C 5 dX12_holds_342 rfl rfl ?_
      refine g_getR C K hLx hkx f_12_13 hb_1 dX12_holds_343 ?_
      refine g_iload_n C 4 dX12_holds_346 rfl rfl ?_
      refine g_iconst C (v := 3) dX12_holds_347 (by decide) ?_
      refine g_iadd C (v := x_182) dX12_holds_348 hx_182 ?_
      refine h_iald C K hb_1L hb_1k (v := x_183) (x_182.toNatClampNeg) (rfl) (ix_0 rx_182 (by decide)) (ix_lt rx_182 (by decide) hb_1n (by decide)) hx_183 dX12_holds_349 ?_
      refine g_bipush C (v := 61) dX12_holds_350 (by decide) ?_
      refine g_icmp_ne C (tgt := 370) dX12_holds_352 (by decide) (fun h_187 => ?_) (fun h_187 => ?_)
      · skip
        have n_188 : ¬ x_183 = 61 := h_187
        refine g_iload C 0 dX12_holds_370 rfl ?_
        refine g_iload C 2 dX12_holds_372 rfl ?_
        refine g_icmp_le C (tgt := 381) dX12_holds_374 (by decide) (fun h_189 => ?_) (fun h_189 => ?_)
        · skip
          have r_190 := le_r (h_189) rx_181 rx_10
          refine g_iconst C (v := 0) dX12_holds_381 (by decide) ?_
          exact g_zret (ty := .boolean) (r := 0) B K rfl (rfl) ⟨rfl, rfl, rg_w rc_0 (by decide) (by decide)⟩ dX12_holds_382
        · skip
          have r_191 := lt_l (hi := 19) (nle h_189) rx_10 rx_181 (by decide)
          refine g_iconst C (v := 1) dX12_holds_377 (by decide) ?_
          refine g_goto C (tgt := 382) dX12_holds_378 (by decide) ?_
          exact g_zret (ty := .boolean) (r := 1) B K rfl (rfl) ⟨rfl, rfl, rg_w rc_1 (by decide) (by decide)⟩ dX12_holds_382
      · skip
        have r_192 := (⟨(eq_rg (h_187) rc_61).1, (eq_rg (h_187) rc_61).2⟩ : Rg 61 61 x_183)
        refine g_iload C 0 dX12_holds_355 rfl ?_
        refine g_iload C 2 dX12_holds_357 rfl ?_
        refine g_icmp_ne C (tgt := 366) dX12_holds_359 (by decide) (fun h_193 => ?_) (fun h_193 => ?_)
        · skip
          refine g_iconst C (v := 0) dX12_holds_366 (by decide) ?_
          refine g_goto C (tgt := 382) dX12_holds_367 (by decide) ?_
          exact g_zret (ty := .boolean) (r := 0) B K rfl (rfl) ⟨rfl, rfl, rg_w rc_0 (by decide) (by decide)⟩ dX12_holds_382
        · skip
          have r_194 := (⟨(eq_rg (Eq.symm (h_193)) rx_181).1, (eq_rg (Eq.symm (h_193)) rx_181).2⟩ : Rg 0 20 x_10)
          refine g_iconst C (v := 1) dX12_holds_362 (by decide) ?_
          refine g_goto C (tgt := 382) dX12_holds_363 (by decide) ?_
          exact g_zret (ty := .boolean) (r := 1) B K rfl (rfl) ⟨rfl, rfl, rg_w rc_1 (by decide) (by decide)⟩ dX12_holds_382
    · skip
      have r_195 := (⟨(eq_rg (h_184) rc_60).1, (eq_rg (h_184) rc_60).2⟩ : Rg 60 60 x_183)
      refine g_iload C 0 dX12_holds_327 rfl ?_
      refine g_iload C 2 dX12_holds_329 rfl ?_
      refine g_icmp_ge C (tgt := 338) dX12_holds_331 (by decide) (fun h_196 => ?_) (fun h_196 => ?_)
      · skip
        have r_197 := le_l (h_196) rx_10 rx_181
        refine g_iconst C (v := 0) dX12_holds_338 (by decide) ?_
        refine g_goto C (tgt := 382) dX12_holds_339 (by decide) ?_
        exact g_zret (ty := .boolean) (r := 0) B K rfl (rfl) ⟨rfl, rfl, rg_w rc_0 (by decide) (by decide)⟩ dX12_holds_382
      · skip
        have r_198 := lt_r (lo := 1) (nle h_196) rx_181 rx_10 (by decide)
        refine g_iconst C (v := 1) dX12_holds_334 (by decide) ?_
        refine g_goto C (tgt := 382) dX12_holds_335 (by decide) ?_
        exact g_zret (ty := .boolean) (r := 1) B K rfl (rfl) ⟨rfl, rfl, rg_w rc_1 (by decide) (by decide)⟩ dX12_holds_382
set_option maxRecDepth 100000 in
set_option maxHeartbeats 8000000 in
theorem c_X12_holds {l : Launch} {D : va_G} {cy : Nat → ClassId} {L : List Nat} {κ ln : Nat → Nat} {R : Nat → Nat → Option Nat} {I : Nat → Nat → Int32} {J : Nat → Nat → Int64} {ow : Nat → Nat × Nat} (W9 : ∀ a ∈ L, Shp L κ ln R ow a) {x : Nat} (hLx : x ∈ L) (hkx : κ x = 12) (a0 : Int32) (a1 : Int32) (ra0 : Rg 0 59 a0) (ra1 : Rg 0 6 a1) (hU : Iw L κ R ow I) : CtI l yX12_holds cX12_holds 8 (some .boolean) { frames := 62, cells := 0, slots := 0, locals := 2445 } D cy L κ ln R I J [.ref x, .int a0, .int a1] (fun r I2 J2 => I = I2 ∧ J = J2 ∧ Rg 0 1 r) := by
  have h9 : ∀ (n9 : Nat), ∀ (a0 : Int32) (a1 : Int32) (ra0 : Rg 0 59 a0) (ra1 : Rg 0 6 a1) (hU : Iw L κ R ow I) (hn9 : a0.toInt < (n9 : Int)), CtI l yX12_holds cX12_holds 8 (some .boolean) { frames := n9 + 2, cells := 0, slots := 0, locals := 40 * n9 + 45 } D cy L κ ln R I J [.ref x, .int a0, .int a1] (fun r I2 J2 => I = I2 ∧ J = J2 ∧ Rg 0 1 r) := by
    intro n9
    induction n9 with
    | zero =>
      intro a0 a1 ra0 ra1 hU hn9
      exact absurd hn9 (by have := ra0.1; omega)
    | succ n9 ih9 =>
      intro a0 a1 ra0 ra1 hU hn9
      exact s_X12_holds W9 hLx hkx a0 a1 ra0 ra1 hU n9 (by omega) ih9
  exact h9 60 a0 a1 ra0 ra1 hU (by have := ra0.2; omega)
set_option maxRecDepth 100000 in
set_option maxHeartbeats 8000000 in
theorem c_X12_said {l : Launch} {D : va_G} {cy : Nat → ClassId} {L : List Nat} {κ ln : Nat → Nat} {R : Nat → Nat → Option Nat} {I : Nat → Nat → Int32} {J : Nat → Nat → Int64} {ow : Nat → Nat × Nat} (W9 : ∀ a ∈ L, Shp L κ ln R ow a) {x : Nat} (hLx : x ∈ L) (hkx : κ x = 12) (a0 : Int32) (hU : Iw L κ R ow I) : CtI l yX12_said cX12_said 4 (some .int) { frames := 63, cells := 0, slots := 0, locals := 2472 } D cy L κ ln R I J [.ref x, .int a0] (fun r I2 J2 => Iw L κ R ow I2 ∧ Fq L κ ow [1200] I I2 ∧ Fq L κ ow [] J J2 ∧ Rg (-2147483648) 2147483647 r) := by
  refine CtI.of (by decide +kernel) (Nat.le_of_ble_eq_true rfl) ?_
  intro p e s m below meth c B K
  have C := B.1
  have hF : Fq L κ ow [1200] I I := fq_rf
  have hG : Fq L κ ow [] J J := fq_rf
  obtain ⟨b_1, hb_1, hb_1L, hb_1k, hb_1n, hb_1o⟩ := shp_a (W9 x hLx) hkx 14 14 389 rfl (by decide)
  refine g_lo (is := [0, 1]) (lo2 := [(0, .ref x), (1, .int a0)]) rfl ?_
  have l_22 : ∀ (n_22 : Nat) (I_2 : Nat → Nat → Int32) (J_3 : Nat → Nat → Int64) (hU_4 : Iw L κ R ow I_2) (hF_5 : Fq L κ ow [1200] I I_2) (hG_6 : Fq L κ ow [] J J_3) (v_7 : Int32) (v_8 : Int32) (rv_8 : Rg 0 7 v_8) (q_9 : I_2 x 0 = 0) (hm_10 : 7 < (v_8 : Int32).toInt + (n_22 : Int)), WG p l e { frames := 63, cells := 0, slots := 0, locals := 2472 } s m ([.ref x, .int a0] : List Value).toArray below meth c 4 0 0 (MQ below (Qi_ D cy L κ ln R (fun r I2 J2 => Iw L κ R ow I2 ∧ Fq L κ ow [1200] I I2 ∧ Fq L κ ow [] J J2 ∧ Rg (-2147483648) 2147483647 r)) ([.ref x, .int a0] : List Value).toArray s 0 0 (Al_ L)) D cy (Al_ L) s.heap L κ ln R I_2 J_3 22 [(0, .ref x), (1, .int a0), (2, .int v_7), (3, .int v_8)] [] := by
    intro n_22
    induction n_22 with
    | zero =>
      intro I_2 J_3 hU_4 hF_5 hG_6 v_7 v_8 rv_8 q_9 hm_10
      exact ms_0 rv_8 hm_10
    | succ n_22 ih_22 =>
      intro I_2 J_3 hU_4 hF_5 hG_6 v_7 v_8 rv_8 q_9 hm_10
      have j_61 : ∀ (I_11 : Nat → Nat → Int32) (J_12 : Nat → Nat → Int64) (hU_13 : Iw L κ R ow I_11) (hF_14 : Fq L κ ow [1200] I I_11) (hG_15 : Fq L κ ow [] J J_12) (v_16 : Int32) (v_17 : Int32) (rv_17 : Rg 0 6 v_17) (q_18 : I_11 x 0 = 0) (hm_19 : 7 < (v_17 : Int32).toInt + ((n_22 + 1 : Nat) : Int)), WG p l e { frames := 63, cells := 0, slots := 0, locals := 2472 } s m ([.ref x, .int a0] : List Value).toArray below meth c 4 0 0 (MQ below (Qi_ D cy L κ ln R (fun r I2 J2 => Iw L κ R ow I2 ∧ Fq L κ ow [1200] I I2 ∧ Fq L κ ow [] J J2 ∧ Rg (-2147483648) 2147483647 r)) ([.ref x, .int a0] : List Value).toArray s 0 0 (Al_ L)) D cy (Al_ L) s.heap L κ ln R I_11 J_12 61 [(0, .ref x), (1, .int a0), (2, .int v_16), (3, .int v_17)] [] := by
        intro I_11 J_12 hU_13 hF_14 hG_15 v_16 v_17 rv_17 q_18 hm_19
        obtain ⟨x_20, hx_20, rx_20, tx_20⟩ := ex_add (y := 1) 1 7 rv_17 rc_1 (by decide) (by decide) (by decide) (by decide)
        refine g_iinc C dX12_said_61 (k := 3) (v := x_20) rfl hx_20 (by decide) (lo2 := [(3, .int x_20), (0, .ref x), (1, .int a0), (2, .int v_16)]) rfl ?_
        refine g_goto C (tgt := 22) dX12_said_64 (by decide) ?_
        refine g_lo (is := [1, 2, 3, 0]) (lo2 := [(0, .ref x), (1, .int a0), (2, .int v_16), (3, .int x_20)]) rfl ?_
        exact ih_22 I_11 J_12 hU_13 hF_14 hG_15 v_16 x_20 (rg_w rx_20 (by decide) (by decide)) q_18 (ms_1 hm_19 (ti_k tx_20 rc_1) (by decide))
      refine g_iload_n C 3 dX12_said_22 rfl rfl ?_
      refine g_aload_n C 0 dX12_said_23 rfl rfl ?_
      refine g_getR C K hLx hkx f_12_13 hb_1 dX12_said_24 ?_
      refine g_iconst C (v := 0) dX12_said_27 (by decide) ?_
      obtain ⟨x_21, hx_21, rx_21⟩ := ex_getw (I := I_2) (a := b_1) (j := 0) (lo := 0) (hi := 7) hU_4.1 hb_1L (ro_a hb_1k (by decide) hb_1o hkx rfl) (by decide)
      refine h_iald C K hb_1L hb_1k (v := x_21) (0) (by decide) (by decide) (by rw [hb_1n]; decide) hx_21 dX12_said_28 ?_
      refine g_icmp_ge C (tgt := 67) dX12_said_29 (by decide) (fun h_22 => ?_) (fun h_22 => ?_)
      · skip
        refine g_iload_n C 1 dX12_said_67 rfl rfl ?_
        refine g_iconst C (v := (-1)) dX12_said_68 (by decide) ?_
        refine g_icmp_ne C (tgt := 76) dX12_said_69 (by decide) (fun h_23 => ?_) (fun h_23 => ?_)
        · skip
          have n_24 : ¬ a0 = (-1) := h_23
          refine g_iconst C (v := (-1)) dX12_said_76 (by decide) ?_
          exact g_zret (ty := .int) (r := (-1)) B K rfl (rfl) ⟨hU_4, hF_5, hG_6, rg_all _⟩ dX12_said_77
        · skip
          have r_25 := (⟨(eq_rg (h_23) rc_m1).1, (eq_rg (h_23) rc_m1).2⟩ : Rg (-1) (-1) a0)
          refine g_iload_n C 2 dX12_said_72 rfl rfl ?_
          refine g_goto C (tgt := 77) dX12_said_73 (by decide) ?_
          exact g_zret (ty := .int) (r := v_7) B K rfl (rfl) ⟨hU_4, hF_5, hG_6, (rg_all v_7)⟩ dX12_said_77
      · skip
        have r_26 := lt_l (hi := 6) (nle h_22) rv_8 rx_21 (by decide)
        have r_27 := lt_r (lo := 1) (nle h_22) rv_8 rx_21 (by decide)
        refine g_aload_n C 0 dX12_said_32 rfl rfl ?_
        refine g_aload_n C 0 dX12_said_33 rfl rfl ?_
        refine g_getR C K hLx hkx f_12_13 hb_1 dX12_said_34 ?_
        refine g_sipush C (v := 148) dX12_said_37 (by decide) ?_
        obtain ⟨x_28, hx_28, rx_28⟩ := ex_getw (I := I_2) (a := b_1) (j := 148) (lo := 0) (hi := 59) hU_4.1 hb_1L (ro_a hb_1k (by decide) hb_1o hkx rfl) (by decide)
        refine h_iald C K hb_1L hb_1k (v := x_28) (148) (by decide) (by decide) (by rw [hb_1n]; decide) hx_28 dX12_said_40 ?_
        refine g_iload_n C 3 dX12_said_41 rfl rfl ?_
        refine g_callVI C K (c_X12_holds W9 hLx hkx x_28 v_8 (rx_28) (r_26) hU_4) hLx hkx (by decide) rfl v_12_419 rfl ⟨rfl, rfl⟩ ⟨Nat.le_of_ble_eq_true rfl, Nat.le_of_ble_eq_true rfl⟩ (Nat.le_of_ble_eq_true rfl) ⟨Nat.le_of_ble_eq_true rfl, Nat.le_of_ble_eq_true rfl⟩ dX12_said_42 rfl (st := []) (fun x_29 I_30 J_31 h_32 => ?_)
        obtain ⟨rfl, rfl, rx_29⟩ := h_32
        refine g_if_ne C (tgt := 51) dX12_said_45 (by decide) (fun h_33 => ?_) (fun h_33 => ?_)
        · skip
          have n_34 : ¬ x_29 = 0 := h_33
          have r_35 := ne_lo (lo := 1) n_34 rx_29 rc_0 rfl (by decide)
          refine g_iload_n C 2 dX12_said_51 rfl rfl ?_
          refine g_iload_n C 1 dX12_said_52 rfl rfl ?_
          refine g_icmp_ne C (tgt := 58) dX12_said_53 (by decide) (fun h_36 => ?_) (fun h_36 => ?_)
          · skip
            obtain ⟨x_37, hx_37, rx_37⟩ := ex_any (z0 := v_7 + 1)
            refine g_iinc C dX12_said_58 (k := 2) (v := x_37) rfl hx_37 (by decide) (lo2 := [(2, .int x_37), (0, .ref x), (1, .int a0), (3, .int v_8)]) rfl ?_
            refine g_lo (is := [1, 2, 0, 3]) (lo2 := [(0, .ref x), (1, .int a0), (2, .int x_37), (3, .int v_8)]) rfl ?_
            exact j_61 I_2 J_3 hU_4 hF_5 hG_6 x_37 v_8 (r_26) q_9 hm_10
          · skip
            refine g_iload_n C 3 dX12_said_56 rfl rfl ?_
            exact g_zret (ty := .int) (r := v_8) B K rfl (rfl) ⟨hU_4, hF_5, hG_6, rg_all _⟩ dX12_said_57
        · skip
          have r_38 := (⟨(rx_29).1, (eq_rg (h_33) rc_0).2⟩ : Rg 0 0 x_29)
          refine g_goto C (tgt := 61) dX12_said_48 (by decide) ?_
          refine g_lo (is := [0, 1, 2, 3]) (lo2 := [(0, .ref x), (1, .int a0), (2, .int v_7), (3, .int v_8)]) rfl ?_
          exact j_61 I_2 J_3 hU_4 hF_5 hG_6 v_7 v_8 (r_26) q_9 hm_10
  refine g_aload_n C 0 dX12_said_0 rfl rfl ?_
  refine g_iconst C (v := 0) dX12_said_1 (by decide) ?_
  refine h_putI C K hLx hkx f_12_82 p_12_0 dX12_said_2 (fun I_39 hI_39 => ?_)
  have hU_40 := iw_put W9 hU hI_39 (ro_o hkx (by decide)) (lo := (-2147483648)) (hi := 2147483647) (rfl) (rg_all _) rfl
  have hF_41 := fq_puto hF hI_39 hkx (by decide) (by decide)
  refine g_aload_n C 0 dX12_said_5 rfl rfl ?_
  refine g_getR C K hLx hkx f_12_13 hb_1 dX12_said_6 ?_
  refine g_sipush C (v := 147) dX12_said_9 (by decide) ?_
  obtain ⟨x_42, hx_42, rx_42⟩ := ex_any (z0 := I_39 b_1 (147))
  refine h_iald C K hb_1L hb_1k (v := x_42) (147) (by decide) (by decide) (by rw [hb_1n]; decide) hx_42 dX12_said_12 ?_
  refine g_if_ne C (tgt := 18) dX12_said_13 (by decide) (fun h_43 => ?_) (fun h_43 => ?_)
  · skip
    have n_44 : ¬ x_42 = 0 := h_43
    refine g_iconst C (v := 0) dX12_said_18 (by decide) ?_
    refine g_istore_n C dX12_said_19 rfl (by decide) (lo2 := [(2, .int 0), (0, .ref x), (1, .int a0)]) rfl ?_
    refine g_iconst C (v := 0) dX12_said_20 (by decide) ?_
    refine g_istore_n C dX12_said_21 rfl (by decide) (lo2 := [(3, .int 0), (2, .int 0), (0, .ref x), (1, .int a0)]) rfl ?_
    refine g_lo (is := [2, 3, 1, 0]) (lo2 := [(0, .ref x), (1, .int a0), (2, .int 0), (3, .int 0)]) rfl ?_
    exact l_22 8 I_39 J hU_40 hF_41 hG 0 0 (rg_w rc_0 (by decide) (by decide)) (kp_s hI_39) (ms_s (a := 0) (b := 7) (N := 8) (rg_w rc_0 (by decide) (by decide)) (by decide))
  · skip
    have r_45 := (⟨(eq_rg (h_43) rc_0).1, (eq_rg (h_43) rc_0).2⟩ : Rg 0 0 x_42)
    refine g_iconst C (v := (-1)) dX12_said_16 (by decide) ?_
    exact g_zret (ty := .int) (r := (-1)) B K rfl (rfl) ⟨hU_40, hF_41, hG, rg_all _⟩ dX12_said_17
set_option maxRecDepth 100000 in
set_option maxHeartbeats 8000000 in
theorem c_X12_image {l : Launch} {D : va_G} {cy : Nat → ClassId} {L : List Nat} {κ ln : Nat → Nat} {R : Nat → Nat → Option Nat} {I : Nat → Nat → Int32} {J : Nat → Nat → Int64} {ow : Nat → Nat × Nat} (W9 : ∀ a ∈ L, Shp L κ ln R ow a) {x : Nat} (hLx : x ∈ L) (hkx : κ x = 12) (a0 : Int32) (hU : Iw L κ R ow I) : CtI l yX12_image cX12_image 3 (some .boolean) { frames := 1, cells := 0, slots := 0, locals := 22 } D cy L κ ln R I J [.ref x, .int a0] (fun r I2 J2 => Iw L κ R ow I2 ∧ Fq L κ ow [1200, 83600, 84200] I I2 ∧ Fq L κ ow [84100] J J2 ∧ Rg 0 1 r ∧ (∀ kp, R x 22 = some kp → Tm_ a0 (I kp 0) (I kp 1) (I2 kp 0) (I2 kp 1)) ∧ ((a0 = 0 ∨ a0 = 1 → Kp_ R x I I2 a0.toNatClampNeg) ∧ (¬ a0 = 0 ∧ ¬ a0 = 1 → Rw_ R x I I2)) ∧ ((a0 = 0 ∨ a0 = 1 → Kj_ R x J J2 a0.toNatClampNeg 13) ∧ (¬ a0 = 0 ∧ ¬ a0 = 1 → Rj_ R x J J2))) := by
  obtain ⟨b_1, hb_1, hb_1L, hb_1k, hb_1n, hb_1o⟩ := shp_a (W9 x hLx) hkx 22 16 2 rfl (by decide)
  obtain ⟨b_2, hb_2, hb_2L, hb_2k, hb_2n, hb_2o⟩ := shp_a (W9 x hLx) hkx 14 14 389 rfl (by decide)
  obtain ⟨b_3, hb_3, hb_3L, hb_3k, hb_3n, hb_3o⟩ := shp_a (W9 x hLx) hkx 16 14 778 rfl (by decide)
  obtain ⟨b_4, hb_4, hb_4L, hb_4k, hb_4n, hb_4o⟩ := shp_a (W9 x hLx) hkx 19 15 13 rfl (by decide)
  obtain ⟨b_5, hb_5, hb_5L, hb_5k, hb_5n, hb_5o⟩ := shp_a (W9 x hLx) hkx 21 15 26 rfl (by decide)
  refine CtI.of (by decide +kernel) (Nat.le_of_ble_eq_true rfl) ?_
  intro p e s m below meth c B K
  have C := B.1
  have hF : Fq L κ ow [1200, 83600, 84200] I I := fq_rf
  have hG : Fq L κ ow [84100] J J := fq_rf
  refine g_lo (is := [0, 1]) (lo2 := [(0, .ref x), (1, .int a0)]) rfl ?_
  have l_51 : ∀ (n_51 : Nat) (I_6 : Nat → Nat → Int32) (J_7 : Nat → Nat → Int64) (hU_8 : Iw L κ R ow I_6) (hF_9 : Fq L κ ow [1200, 83600, 84200] I I_6) (hG_10 : Fq L κ ow [84100] J J_7) (r_11 : Rg 0 1 a0) (v_12 : Int32) (rv_12 : Rg 0 13 v_12) (q_13 : I_6 x 0 = 0) (hj_14 : ∀ j, I_6 b_1 j = I b_1 j) (tk_15 : Kp_ R x I I_6 a0.toNatClampNeg) (kj_16 : Kj_ R x J J_7 a0.toNatClampNeg v_12.toNatClampNeg) (hm_17 : 13 < (v_12 : Int32).toInt + (n_51 : Int)), WG p l e { frames := 1, cells := 0, slots := 0, locals := 22 } s m ([.ref x, .int a0] : List Value).toArray below meth c 3 0 0 (MQ below (Qi_ D cy L κ ln R (fun r I2 J2 => Iw L κ R ow I2 ∧ Fq L κ ow [1200, 83600, 84200] I I2 ∧ Fq L κ ow [84100] J J2 ∧ Rg 0 1 r ∧ (∀ kp, R x 22 = some kp → Tm_ a0 (I kp 0) (I kp 1) (I2 kp 0) (I2 kp 1)) ∧ ((a0 = 0 ∨ a0 = 1 → Kp_ R x I I2 a0.toNatClampNeg) ∧ (¬ a0 = 0 ∧ ¬ a0 = 1 → Rw_ R x I I2)) ∧ ((a0 = 0 ∨ a0 = 1 → Kj_ R x J J2 a0.toNatClampNeg 13) ∧ (¬ a0 = 0 ∧ ¬ a0 = 1 → Rj_ R x J J2)))) ([.ref x, .int a0] : List Value).toArray s 0 0 (Al_ L)) D cy (Al_ L) s.heap L κ ln R I_6 J_7 51 [(0, .ref x), (1, .int a0), (2, .int v_12)] [] := by
    intro n_51
    induction n_51 with
    | zero =>
      intro I_6 J_7 hU_8 hF_9 hG_10 r_11 v_12 rv_12 q_13 hj_14 tk_15 kj_16 hm_17
      exact ms_0 rv_12 hm_17
    | succ n_51 ih_51 =>
      intro I_6 J_7 hU_8 hF_9 hG_10 r_11 v_12 rv_12 q_13 hj_14 tk_15 kj_16 hm_17
      refine g_iload_n C 2 dX12_image_51 rfl rfl ?_
      refine g_bipush C (v := 13) dX12_image_52 (by decide) ?_
      refine g_icmp_ge C (tgt := 80) dX12_image_54 (by decide) (fun h_18 => ?_) (fun h_18 => ?_)
      · skip
        have r_19 := le_r (h_18) rc_13 rv_12
        refine g_aload_n C 0 dX12_image_80 rfl rfl ?_
        refine g_getR C K hLx hkx f_12_38 hb_1 dX12_image_81 ?_
        refine g_iload_n C 1 dX12_image_84 rfl rfl ?_
        refine g_iconst C (v := 1) dX12_image_85 (by decide) ?_
        refine h_zast C K hb_1L hb_1k (a0.toNatClampNeg) (rfl) (ix_0 r_11 (by decide)) (ix_lt r_11 (by decide) hb_1n (by decide)) dX12_image_86 (fun I_20 hI_20 => ?_)
        have hU_21 := iw_put W9 hU_8 hI_20 (ro_a hb_1k (by decide) hb_1o hkx rfl) (lo := 0) (hi := 1) (rfl) (nar_zz _) rfl
        have hF_22 := fq_puta hF_9 hI_20 (ro_a hb_1k (by decide) hb_1o hkx rfl) (by decide) (by decide)
        refine g_iconst C (v := 1) dX12_image_87 (by decide) ?_
        exact g_zret (ty := .boolean) (r := 1) B K rfl (rfl) ⟨hU_21, hF_22, hG_10, rg_w rc_1 (by decide) (by decide), (fun kp hk => by rw [hb_1] at hk; cases hk; exact tm_m (rg_01 (r_11)) (by rw [hI_20, u2_s]; decide) (fun j hj => kp_j hI_20 hj (hj_14 j))), ⟨fun _ => (kp_u2 W9 hLx hkx tk_15 hI_20 (ro_a hb_1k (by decide) hb_1o hkx rfl) (by decide)), fun z => absurd (rg_01 (r_11)) (fun q => q.elim z.1 z.2)⟩, ⟨fun _ => (kj_c kj_16 (nn13 r_19).symm), fun z => absurd (rg_01 (r_11)) (fun q => q.elim z.1 z.2)⟩⟩ dX12_image_88
      · skip
        have r_23 := lt_l (hi := 12) (nle h_18) rv_12 rc_13 (by decide)
        refine g_aload_n C 0 dX12_image_57 rfl rfl ?_
        refine g_getR C K hLx hkx f_12_35 hb_5 dX12_image_58 ?_
        refine g_bipush C (v := 13) dX12_image_61 (by decide) ?_
        refine g_iload_n C 1 dX12_image_63 rfl rfl ?_
        obtain ⟨x_24, hx_24, rx_24, tx_24⟩ := ex_mulT 0 13 rc_13 r_11 (by decide) (by decide) (by decide) (by decide) (by decide)
        refine g_imul C (v := x_24) dX12_image_64 hx_24 ?_
        refine g_iload_n C 2 dX12_image_65 rfl rfl ?_
        obtain ⟨x_25, hx_25, rx_25, tx_25⟩ := ex_add 0 25 rx_24 r_23 (by decide) (by decide) (by decide) (by decide)
        refine g_iadd C (v := x_25) dX12_image_66 hx_25 ?_
        refine g_aload_n C 0 dX12_image_67 rfl rfl ?_
        refine g_getR C K hLx hkx f_12_28 hb_4 dX12_image_68 ?_
        refine g_iload_n C 2 dX12_image_71 rfl rfl ?_
        obtain ⟨y_26, hy_26⟩ : ∃ z, J_7 b_4 (v_12.toNatClampNeg) = z := ⟨_, rfl⟩
        refine h_lald C K hb_4L hb_4k (v := y_26) (v_12.toNatClampNeg) (rfl) (ix_0 r_23 (by decide)) (ix_lt r_23 (by decide) hb_4n (by decide)) hy_26 dX12_image_72 ?_
        refine h_last C K hb_5L hb_5k (x_25.toNatClampNeg) (rfl) (ix_0 rx_25 (by decide)) (ix_lt rx_25 (by decide) hb_5n (by decide)) dX12_image_73 (fun J_27 hJ_27 => ?_)
        have hG_28 := fq_puta hG_10 hJ_27 (ro_a hb_5k (by decide) hb_5o hkx rfl) (by decide) (by decide)
        obtain ⟨x_29, hx_29, rx_29, tx_29⟩ := ex_add (y := 1) 1 13 r_23 rc_1 (by decide) (by decide) (by decide) (by decide)
        refine g_iinc C dX12_image_74 (k := 2) (v := x_29) rfl hx_29 (by decide) (lo2 := [(2, .int x_29), (0, .ref x), (1, .int a0)]) rfl ?_
        refine g_goto C (tgt := 51) dX12_image_77 (by decide) ?_
        refine g_lo (is := [1, 2, 0]) (lo2 := [(0, .ref x), (1, .int a0), (2, .int x_29)]) rfl ?_
        exact ih_51 I_6 J_27 hU_8 hF_9 hG_28 (r_11) x_29 (rg_w rx_29 (by decide) (by decide)) q_13 (fun j => (hj_14 j)) tk_15 (kj_c (kj_st kj_16 hb_4 hb_5 (nz_ro (ro_a hb_4k (by decide) hb_4o hkx rfl) (ro_a hb_5k (by decide) hb_5o hkx rfl) (by decide)) hJ_27 hy_26 (show x_25.toNatClampNeg = 13 * a0.toNatClampNeg + v_12.toNatClampNeg from by rw [nx_a tx_25 rx_24 r_23 (by decide), nx_m (k := 13) tx_24 r_11 (by decide)] <;> omega) rfl) (show x_29.toNatClampNeg = v_12.toNatClampNeg + 1 from nx_a tx_29 r_23 rc_1 (by decide))) (ms_1 hm_17 (ti_k tx_29 rc_1) (by decide))
  refine g_aload_n C 0 dX12_image_0 rfl rfl ?_
  refine g_iconst C (v := 0) dX12_image_1 (by decide) ?_
  refine h_putI C K hLx hkx f_12_82 p_12_0 dX12_image_2 (fun I_30 hI_30 => ?_)
  have hU_31 := iw_put W9 hU hI_30 (ro_o hkx (by decide)) (lo := (-2147483648)) (hi := 2147483647) (rfl) (rg_all _) rfl
  have hF_32 := fq_puto hF hI_30 hkx (by decide) (by decide)
  refine g_iload_n C 1 dX12_image_5 rfl rfl ?_
  refine g_iconst C (v := 0) dX12_image_6 (by decide) ?_
  refine g_iconst C (v := 1) dX12_image_7 (by decide) ?_
  refine g_callSI C K (c_X12_isIn W9 a0 0 1 (rg_w rc_0 (by decide) (by decide)) (rg_w rc_1 (by decide) (by decide)) hU_31) s_12_149 rfl ⟨rfl, rfl⟩ ⟨Nat.le_of_ble_eq_true rfl, Nat.le_of_ble_eq_true rfl⟩ (Nat.le_of_ble_eq_true rfl) ⟨Nat.le_of_ble_eq_true rfl, Nat.le_of_ble_eq_true rfl⟩ dX12_image_8 rfl (st := []) (fun x_33 I_34 J_35 h_36 => ?_)
  obtain ⟨rfl, rfl, rx_33, fx_33, ex_33⟩ := h_36
  refine g_if_ne C (tgt := 16) dX12_image_11 (by decide) (fun h_37 => ?_) (fun h_37 => ?_)
  · skip
    have n_38 : ¬ x_33 = 0 := h_37
    have r_39 := ne_lo (lo := 1) n_38 rx_33 rc_0 rfl (by decide)
    have r_40 := le_r (((ex_33.1) n_38)) rc_0 (rg_all a0)
    have r_41 := le_l (((ex_33.2) n_38)) r_40 rc_1
    refine g_iconst C (v := 0) dX12_image_16 (by decide) ?_
    refine g_istore_n C dX12_image_17 rfl (by decide) (lo2 := [(2, .int 0), (0, .ref x), (1, .int a0)]) rfl ?_
    refine g_lo (is := [1, 2, 0]) (lo2 := [(0, .ref x), (1, .int a0), (2, .int 0)]) rfl ?_
    have ex_18 : ∀ (I_43 : Nat → Nat → Int32) (hI_43 : I_43 = cpn_ I_30 b_2 b_3 (0) (389 * a0.toNatClampNeg) 389) (v_42 : Int32) (rv_42 : Rg 389 389 v_42), WG p l e { frames := 1, cells := 0, slots := 0, locals := 22 } s m ([.ref x, .int a0] : List Value).toArray below meth c 3 0 0 (MQ below (Qi_ D cy L κ ln R (fun r I2 J2 => Iw L κ R ow I2 ∧ Fq L κ ow [1200, 83600, 84200] I I2 ∧ Fq L κ ow [84100] J J2 ∧ Rg 0 1 r ∧ (∀ kp, R x 22 = some kp → Tm_ a0 (I kp 0) (I kp 1) (I2 kp 0) (I2 kp 1)) ∧ ((a0 = 0 ∨ a0 = 1 → Kp_ R x I I2 a0.toNatClampNeg) ∧ (¬ a0 = 0 ∧ ¬ a0 = 1 → Rw_ R x I I2)) ∧ ((a0 = 0 ∨ a0 = 1 → Kj_ R x J J2 a0.toNatClampNeg 13) ∧ (¬ a0 = 0 ∧ ¬ a0 = 1 → Rj_ R x J J2)))) ([.ref x, .int a0] : List Value).toArray s 0 0 (Al_ L)) D cy (Al_ L) s.heap L κ ln R I_43 J 49 [(0, .ref x), (1, .int a0), (2, .int v_42)] [] := by
      intro I_43 hI_43 v_42 rv_42
      have hF_44 := fq_cpn hF_32 hI_43 (ro_a hb_3k (by decide) hb_3o hkx rfl) (by decide) (by decide)
      have hU_45 := uw_cpn hU_31.1 hb_2L hI_43 (ro_a hb_3k (by decide) hb_3o hkx rfl) (ro_a hb_2k (by decide) hb_2o hkx rfl) (fun i hi => by rw [bn_836, bn_834, show (389 * a0.toNatClampNeg + i) % 389 = 0 + i by omega]; exact ⟨Int.le_refl _, Int.le_refl _⟩)
      have hU_46 := iw_im (q0 := a0.toNatClampNeg) W9 hU_31 hU_45 hLx hkx hb_2 hb_3 hI_43
      refine g_iconst C (v := 0) dX12_image_49 (by decide) ?_
      refine g_istore_n C dX12_image_50 rfl (by decide) (lo2 := [(2, .int 0), (0, .ref x), (1, .int a0)]) rfl ?_
      refine g_lo (is := [1, 2, 0]) (lo2 := [(0, .ref x), (1, .int a0), (2, .int 0)]) rfl ?_
      exact l_51 14 I_43 J hU_46 hF_44 hG (r_41) 0 (rg_w rc_0 (by decide) (by decide)) (kp_cn (κ := κ) hI_43 (by rw [hkx, hb_3k]; decide) (kp_s hI_30)) (fun j => (kp_cm hI_43 (ro_a hb_1k (by decide) hb_1o hkx rfl) (ro_a hb_3k (by decide) hb_3o hkx rfl) (by decide) (kp_k (κ := κ) hI_30 (by rw [hb_1k, hkx]; decide) rfl))) (kp_new (n := a0.toNatClampNeg) W9 hLx hkx (rw_u W9 hLx hkx rw_rf hI_30 (ro_o hkx (by decide)) (by decide)) hb_2 hb_3 hI_43) (kj_0 rj_rf (by decide)) (ms_s (a := 0) (b := 13) (N := 14) (rg_w rc_0 (by decide) (by decide)) (by decide))
    have l_18 : ∀ (m_18 : Nat) (v_47 : Int32) (I_48 : Nat → Nat → Int32), v_47.toInt + (m_18 : Int) = 389 → 0 ≤ v_47.toInt → I_48 = cpn_ I_30 b_2 b_3 (0) (389 * a0.toNatClampNeg) v_47.toNatClampNeg → WG p l e { frames := 1, cells := 0, slots := 0, locals := 22 } s m ([.ref x, .int a0] : List Value).toArray below meth c 3 0 0 (MQ below (Qi_ D cy L κ ln R (fun r I2 J2 => Iw L κ R ow I2 ∧ Fq L κ ow [1200, 83600, 84200] I I2 ∧ Fq L κ ow [84100] J J2 ∧ Rg 0 1 r ∧ (∀ kp, R x 22 = some kp → Tm_ a0 (I kp 0) (I kp 1) (I2 kp 0) (I2 kp 1)) ∧ ((a0 = 0 ∨ a0 = 1 → Kp_ R x I I2 a0.toNatClampNeg) ∧ (¬ a0 = 0 ∧ ¬ a0 = 1 → Rw_ R x I I2)) ∧ ((a0 = 0 ∨ a0 = 1 → Kj_ R x J J2 a0.toNatClampNeg 13) ∧ (¬ a0 = 0 ∧ ¬ a0 = 1 → Rj_ R x J J2)))) ([.ref x, .int a0] : List Value).toArray s 0 0 (Al_ L)) D cy (Al_ L) s.heap L κ ln R I_48 J 18 [(0, .ref x), (1, .int a0), (2, .int v_47)] [] := by
      intro m_18
      induction m_18 with
      | zero =>
        intro v_47 I_48 hk_18 h0_18 hI_48
        have rv_47 : Rg 389 389 v_47 := by unfold Rg; omega
        refine g_iload_n C 2 dX12_image_18 rfl rfl ?_
        refine g_sipush C (v := 389) dX12_image_19 (by decide) ?_
        refine g_icmp_ge C (tgt := 49) dX12_image_22 (by decide) (fun h_49 => ?_) (fun h_49 => ?_)
        · skip
          refine g_lo (is := [0, 1, 2]) (lo2 := [(0, .ref x), (1, .int a0), (2, .int v_47)]) rfl ?_
          exact ex_18 I_48 (hI_48.trans (congrArg (fun q => cpn_ I_30 b_2 b_3 (0) (389 * a0.toNatClampNeg) q) (show v_47.toNatClampNeg = 389 from by have := ix_n rv_47 (by decide); have := rv_47.1; have := rv_47.2; omega))) v_47 rv_47
        · skip
          have r_50 := lt_l (hi := 388) (nle h_49) rv_47 rc_389 (by decide)
          exact rg_no r_50 (by decide)
      | succ m_18 ih_18 =>
        intro v_47 I_48 hk_18 h0_18 hI_48
        have rv_47 : Rg 0 388 v_47 := by unfold Rg; omega
        refine g_iload_n C 2 dX12_image_18 rfl rfl ?_
        refine g_sipush C (v := 389) dX12_image_19 (by decide) ?_
        refine g_icmp_ge C (tgt := 49) dX12_image_22 (by decide) (fun h_51 => ?_) (fun h_51 => ?_)
        · skip
          have r_52 := le_r (h_51) rc_389 rv_47
          exact rg_no r_52 (by decide)
        · skip
          refine g_aload_n C 0 dX12_image_25 rfl rfl ?_
          refine g_getR C K hLx hkx f_12_19 hb_3 dX12_image_26 ?_
          refine g_sipush C (v := 389) dX12_image_29 (by decide) ?_
          refine g_iload_n C 1 dX12_image_32 rfl rfl ?_
          obtain ⟨x_53, hx_53, rx_53, tx_53⟩ := ex_mulT 0 389 rc_389 r_41 (by decide) (by decide) (by decide) (by decide) (by decide)
          refine g_imul C (v := x_53) dX12_image_33 hx_53 ?_
          refine g_iload_n C 2 dX12_image_34 rfl rfl ?_
          obtain ⟨x_54, hx_54, rx_54, tx_54⟩ := ex_add 0 777 rx_53 rv_47 (by decide) (by decide) (by decide) (by decide)
          refine g_iadd C (v := x_54) dX12_image_35 hx_54 ?_
          refine g_aload_n C 0 dX12_image_36 rfl rfl ?_
          refine g_getR C K hLx hkx f_12_13 hb_2 dX12_image_37 ?_
          refine g_iload_n C 2 dX12_image_40 rfl rfl ?_
          obtain ⟨x_55, hx_55, rx_55⟩ := ex_any (z0 := I_48 b_2 (v_47.toNatClampNeg))
          refine h_iald C K hb_2L hb_2k (v := x_55) (v_47.toNatClampNeg) (rfl) (ix_0 rv_47 (by decide)) (ix_lt rv_47 (by decide) hb_2n (by decide)) hx_55 dX12_image_41 ?_
          refine h_iast C K hb_3L hb_3k (x_54.toNatClampNeg) (rfl) (ix_0 rx_54 (by decide)) (ix_lt rx_54 (by decide) hb_3n (by decide)) dX12_image_42 (fun I_56 hI_56 => ?_)
          obtain ⟨x_57, hx_57, rx_57, tx_57⟩ := ex_add (y := 1) 1 389 rv_47 rc_1 (by decide) (by decide) (by decide) (by decide)
          refine g_iinc C dX12_image_43 (k := 2) (v := x_57) rfl hx_57 (by decide) (lo2 := [(2, .int x_57), (0, .ref x), (1, .int a0)]) rfl ?_
          refine g_goto C (tgt := 18) dX12_image_46 (by decide) ?_
          refine g_lo (is := [1, 2, 0]) (lo2 := [(0, .ref x), (1, .int a0), (2, .int x_57)]) rfl ?_
          have kk_18 : x_57.toNatClampNeg = v_47.toNatClampNeg + 1 := by have q1 := ix_n rv_47 (by decide); have q2 := (ti_k tx_57 rc_1); have q3 : x_57.toNatClampNeg = x_57.toInt.toNat := rfl; omega
          exact ih_18 x_57 I_56 (by have := (ti_k tx_57 rc_1); omega) (by have := (ti_k tx_57 rc_1); omega) (by rw [kk_18]; exact cpn_s hI_48 hx_55 hI_56 (show v_47.toNatClampNeg = (0) + v_47.toNatClampNeg from by omega) (show x_54.toNatClampNeg = (389 * a0.toNatClampNeg) + v_47.toNatClampNeg from by rw [nx_a tx_54 rx_53 rv_47 (by decide), nx_m (k := 389) tx_53 r_41 (by decide)] <;> omega) (Or.inl (ne_ro (ro_a hb_2k (by decide) hb_2o hkx rfl) (ro_a hb_3k (by decide) hb_3o hkx rfl) (by decide))))
    exact l_18 389 0 I_30 (by decide) (by decide) cpn_0
  · skip
    have r_58 := (⟨(rx_33).1, (eq_rg (h_37) rc_0).2⟩ : Rg 0 0 x_33)
    refine g_iconst C (v := 0) dX12_image_14 (by decide) ?_
    exact g_zret (ty := .boolean) (r := 0) B K rfl (rfl) ⟨hU_31, hF_32, hG, rg_w rc_0 (by decide) (by decide), (fun kp hk => by rw [hb_1] at hk; cases hk; exact Or.inr (Or.inr ⟨(fun e => absurd (fx_33.symm.trans (rg_1k r_58 rc_0)) (by rw [e]; decide)), (fun e => absurd (fx_33.symm.trans (rg_1k r_58 rc_0)) (by rw [e]; decide)), (kp_k (κ := κ) hI_30 (by rw [hb_1k, hkx]; decide) rfl), (kp_k (κ := κ) hI_30 (by rw [hb_1k, hkx]; decide) rfl)⟩)), ⟨fun z => absurd z (fun q => q.elim (fun e => absurd (fx_33.symm.trans (rg_1k r_58 rc_0)) (by rw [e]; decide)) (fun e => absurd (fx_33.symm.trans (rg_1k r_58 rc_0)) (by rw [e]; decide))), fun _ => (rw_u W9 hLx hkx rw_rf hI_30 (ro_o hkx (by decide)) (by decide))⟩, ⟨fun z => absurd z (fun q => q.elim (fun e => absurd (fx_33.symm.trans (rg_1k r_58 rc_0)) (by rw [e]; decide)) (fun e => absurd (fx_33.symm.trans (rg_1k r_58 rc_0)) (by rw [e]; decide))), fun _ => rj_rf⟩⟩ dX12_image_15
set_option maxRecDepth 100000 in
set_option maxHeartbeats 8000000 in
theorem c_X12_restore {l : Launch} {D : va_G} {cy : Nat → ClassId} {L : List Nat} {κ ln : Nat → Nat} {R : Nat → Nat → Option Nat} {I : Nat → Nat → Int32} {J : Nat → Nat → Int64} {ow : Nat → Nat × Nat} (W9 : ∀ a ∈ L, Shp L κ ln R ow a) {x : Nat} (hLx : x ∈ L) (hkx : κ x = 12) (a0 : Int32) (hU : Iw L κ R ow I) : CtI l yX12_restore cX12_restore 3 (some .boolean) { frames := 1, cells := 0, slots := 0, locals := 22 } D cy L κ ln R I J [.ref x, .int a0] (fun r I2 J2 => Iw L κ R ow I2 ∧ Fq L κ ow [1200, 1223, 83400] I I2 ∧ Fq L κ ow [83900] J J2 ∧ Rg 0 1 r ∧ (∀ kp, R x 22 = some kp → Tq_ a0 (I kp 0) (I kp 1) r) ∧ ((r = 1 → Kr_ R x I I2 a0.toNatClampNeg) ∧ (¬ r = 1 → Hd_ R x I I2)) ∧ ((r = 1 → Kq_ R x J J2 a0.toNatClampNeg 13) ∧ (¬ r = 1 → Rj_ R x J J2))) := by
  obtain ⟨b_1, hb_1, hb_1L, hb_1k, hb_1n, hb_1o⟩ := shp_a (W9 x hLx) hkx 22 16 2 rfl (by decide)
  obtain ⟨b_2, hb_2, hb_2L, hb_2k, hb_2n, hb_2o⟩ := shp_a (W9 x hLx) hkx 14 14 389 rfl (by decide)
  obtain ⟨b_3, hb_3, hb_3L, hb_3k, hb_3n, hb_3o⟩ := shp_a (W9 x hLx) hkx 16 14 778 rfl (by decide)
  obtain ⟨b_4, hb_4, hb_4L, hb_4k, hb_4n, hb_4o⟩ := shp_a (W9 x hLx) hkx 19 15 13 rfl (by decide)
  obtain ⟨b_5, hb_5, hb_5L, hb_5k, hb_5n, hb_5o⟩ := shp_a (W9 x hLx) hkx 21 15 26 rfl (by decide)
  refine CtI.of (by decide +kernel) (Nat.le_of_ble_eq_true rfl) ?_
  intro p e s m below meth c B K
  have C := B.1
  have hF : Fq L κ ow [1200, 1223, 83400] I I := fq_rf
  have hG : Fq L κ ow [83900] J J := fq_rf
  refine g_lo (is := [0, 1]) (lo2 := [(0, .ref x), (1, .int a0)]) rfl ?_
  have l_60 : ∀ (n_60 : Nat) (I_6 : Nat → Nat → Int32) (J_7 : Nat → Nat → Int64) (hU_8 : Iw0 L κ R ow I_6) (hF_9 : Fq L κ ow [1200, 1223, 83400] I I_6) (hG_10 : Fq L κ ow [83900] J J_7) (r_11 : Rg 0 1 a0) (v_12 : Int32) (rv_12 : Rg 0 13 v_12) (q_13 : I_6 x 0 = 0) (hj_14 : ¬ I b_1 a0.toNatClampNeg = 0) (tk_15 : Kr_ R x I I_6 a0.toNatClampNeg) (kj_16 : Kq_ R x J J_7 a0.toNatClampNeg v_12.toNatClampNeg) (hm_17 : 13 < (v_12 : Int32).toInt + (n_60 : Int)), WG p l e { frames := 1, cells := 0, slots := 0, locals := 22 } s m ([.ref x, .int a0] : List Value).toArray below meth c 3 0 0 (MQ below (Qi_ D cy L κ ln R (fun r I2 J2 => Iw L κ R ow I2 ∧ Fq L κ ow [1200, 1223, 83400] I I2 ∧ Fq L κ ow [83900] J J2 ∧ Rg 0 1 r ∧ (∀ kp, R x 22 = some kp → Tq_ a0 (I kp 0) (I kp 1) r) ∧ ((r = 1 → Kr_ R x I I2 a0.toNatClampNeg) ∧ (¬ r = 1 → Hd_ R x I I2)) ∧ ((r = 1 → Kq_ R x J J2 a0.toNatClampNeg 13) ∧ (¬ r = 1 → Rj_ R x J J2)))) ([.ref x, .int a0] : List Value).toArray s 0 0 (Al_ L)) D cy (Al_ L) s.heap L κ ln R I_6 J_7 60 [(0, .ref x), (1, .int a0), (2, .int v_12)] [] := by
    intro n_60
    induction n_60 with
    | zero =>
      intro I_6 J_7 hU_8 hF_9 hG_10 r_11 v_12 rv_12 q_13 hj_14 tk_15 kj_16 hm_17
      exact ms_0 rv_12 hm_17
    | succ n_60 ih_60 =>
      intro I_6 J_7 hU_8 hF_9 hG_10 r_11 v_12 rv_12 q_13 hj_14 tk_15 kj_16 hm_17
      refine g_iload_n C 2 dX12_restore_60 rfl rfl ?_
      refine g_bipush C (v := 13) dX12_restore_61 (by decide) ?_
      refine g_icmp_ge C (tgt := 89) dX12_restore_63 (by decide) (fun h_18 => ?_) (fun h_18 => ?_)
      · skip
        have r_19 := le_r (h_18) rc_13 rv_12
        refine g_aload_n C 0 dX12_restore_89 rfl rfl ?_
        refine g_iconst C (v := 0) dX12_restore_90 (by decide) ?_
        refine h_putI C K hLx hkx f_12_228 p_12_23 dX12_restore_91 (fun I_20 hI_20 => ?_)
        have hU_21 := iw_z W9 hU_8 (uw_put hU_8.1 hI_20 (ro_o hkx (by decide)) (lo := 0) (hi := 8) (rfl) (rg_w rc_0 (by decide) (by decide))) hLx hkx hI_20
        have hF_22 := fq_puto hF_9 hI_20 hkx (by decide) (by decide)
        refine g_iconst C (v := 1) dX12_restore_94 (by decide) ?_
        exact g_zret (ty := .boolean) (r := 1) B K rfl (rfl) ⟨hU_21, hF_22, hG_10, rg_w rc_1 (by decide) (by decide), (fun kp hk => by rw [hb_1] at hk; cases hk; exact tq_m (rg_01 (r_11)) (Or.inr ⟨hj_14, rfl⟩)), ⟨fun _ => (kr_hd tk_15 (hd_u (r := 0) W9 hLx hkx hd_rf hI_20 (Or.inl (ro_o hkx (by decide))))), fun z => absurd rfl z⟩, ⟨fun _ => (kq_c kj_16 (nn13 r_19).symm), fun z => absurd rfl z⟩⟩ dX12_restore_95
      · skip
        have r_23 := lt_l (hi := 12) (nle h_18) rv_12 rc_13 (by decide)
        refine g_aload_n C 0 dX12_restore_66 rfl rfl ?_
        refine g_getR C K hLx hkx f_12_28 hb_4 dX12_restore_67 ?_
        refine g_iload_n C 2 dX12_restore_70 rfl rfl ?_
        refine g_aload_n C 0 dX12_restore_71 rfl rfl ?_
        refine g_getR C K hLx hkx f_12_35 hb_5 dX12_restore_72 ?_
        refine g_bipush C (v := 13) dX12_restore_75 (by decide) ?_
        refine g_iload_n C 1 dX12_restore_77 rfl rfl ?_
        obtain ⟨x_24, hx_24, rx_24, tx_24⟩ := ex_mulT 0 13 rc_13 r_11 (by decide) (by decide) (by decide) (by decide) (by decide)
        refine g_imul C (v := x_24) dX12_restore_78 hx_24 ?_
        refine g_iload_n C 2 dX12_restore_79 rfl rfl ?_
        obtain ⟨x_25, hx_25, rx_25, tx_25⟩ := ex_add 0 25 rx_24 r_23 (by decide) (by decide) (by decide) (by decide)
        refine g_iadd C (v := x_25) dX12_restore_80 hx_25 ?_
        obtain ⟨y_26, hy_26⟩ : ∃ z, J_7 b_5 (x_25.toNatClampNeg) = z := ⟨_, rfl⟩
        refine h_lald C K hb_5L hb_5k (v := y_26) (x_25.toNatClampNeg) (rfl) (ix_0 rx_25 (by decide)) (ix_lt rx_25 (by decide) hb_5n (by decide)) hy_26 dX12_restore_81 ?_
        refine h_last C K hb_4L hb_4k (v_12.toNatClampNeg) (rfl) (ix_0 r_23 (by decide)) (ix_lt r_23 (by decide) hb_4n (by decide)) dX12_restore_82 (fun J_27 hJ_27 => ?_)
        have hG_28 := fq_puta hG_10 hJ_27 (ro_a hb_4k (by decide) hb_4o hkx rfl) (by decide) (by decide)
        obtain ⟨x_29, hx_29, rx_29, tx_29⟩ := ex_add (y := 1) 1 13 r_23 rc_1 (by decide) (by decide) (by decide) (by decide)
        refine g_iinc C dX12_restore_83 (k := 2) (v := x_29) rfl hx_29 (by decide) (lo2 := [(2, .int x_29), (0, .ref x), (1, .int a0)]) rfl ?_
        refine g_goto C (tgt := 60) dX12_restore_86 (by decide) ?_
        refine g_lo (is := [1, 2, 0]) (lo2 := [(0, .ref x), (1, .int a0), (2, .int x_29)]) rfl ?_
        exact ih_60 I_6 J_27 hU_8 hF_9 hG_28 (r_11) x_29 (rg_w rx_29 (by decide) (by decide)) q_13 hj_14 tk_15 (kq_c (kq_st kj_16 hb_4 hb_5 (nz_ro (ro_a hb_4k (by decide) hb_4o hkx rfl) (ro_a hb_5k (by decide) hb_5o hkx rfl) (by decide)) hJ_27 hy_26 rfl (show x_25.toNatClampNeg = 13 * a0.toNatClampNeg + v_12.toNatClampNeg from by rw [nx_a tx_25 rx_24 r_23 (by decide), nx_m (k := 13) tx_24 r_11 (by decide)] <;> omega)) (show x_29.toNatClampNeg = v_12.toNatClampNeg + 1 from nx_a tx_29 r_23 rc_1 (by decide))) (ms_1 hm_17 (ti_k tx_29 rc_1) (by decide))
  refine g_aload_n C 0 dX12_restore_0 rfl rfl ?_
  refine g_iconst C (v := 0) dX12_restore_1 (by decide) ?_
  refine h_putI C K hLx hkx f_12_82 p_12_0 dX12_restore_2 (fun I_30 hI_30 => ?_)
  have hU_31 := iw_put W9 hU hI_30 (ro_o hkx (by decide)) (lo := (-2147483648)) (hi := 2147483647) (rfl) (rg_all _) rfl
  have hF_32 := fq_puto hF hI_30 hkx (by decide) (by decide)
  refine g_iload_n C 1 dX12_restore_5 rfl rfl ?_
  refine g_iconst C (v := 0) dX12_restore_6 (by decide) ?_
  refine g_iconst C (v := 1) dX12_restore_7 (by decide) ?_
  refine g_callSI C K (c_X12_isIn W9 a0 0 1 (rg_w rc_0 (by decide) (by decide)) (rg_w rc_1 (by decide) (by decide)) hU_31) s_12_149 rfl ⟨rfl, rfl⟩ ⟨Nat.le_of_ble_eq_true rfl, Nat.le_of_ble_eq_true rfl⟩ (Nat.le_of_ble_eq_true rfl) ⟨Nat.le_of_ble_eq_true rfl, Nat.le_of_ble_eq_true rfl⟩ dX12_restore_8 rfl (st := []) (fun x_33 I_34 J_35 h_36 => ?_)
  obtain ⟨rfl, rfl, rx_33, fx_33, ex_33⟩ := h_36
  refine g_if_eq C (tgt := 23) dX12_restore_11 (by decide) (fun h_37 => ?_) (fun h_37 => ?_)
  · skip
    have r_38 := (⟨(rx_33).1, (eq_rg (h_37) rc_0).2⟩ : Rg 0 0 x_33)
    refine g_iconst C (v := 0) dX12_restore_23 (by decide) ?_
    exact g_zret (ty := .boolean) (r := 0) B K rfl (rfl) ⟨hU_31, hF_32, hG, rg_w rc_0 (by decide) (by decide), (fun kp hk => Or.inr (Or.inr ⟨(fun e => absurd (fx_33.symm.trans (rg_1k r_38 rc_0)) (by rw [e]; decide)), (fun e => absurd (fx_33.symm.trans (rg_1k r_38 rc_0)) (by rw [e]; decide)), rfl⟩)), ⟨fun z => absurd z (by decide), fun _ => (hd_u (r := 0) W9 hLx hkx hd_rf hI_30 (Or.inl (ro_o hkx (by decide))))⟩, ⟨fun z => absurd z (by decide), fun _ => rj_rf⟩⟩ dX12_restore_24
  · skip
    have n_39 : ¬ x_33 = 0 := h_37
    have r_40 := ne_lo (lo := 1) n_39 rx_33 rc_0 rfl (by decide)
    have r_41 := le_r (((ex_33.1) n_39)) rc_0 (rg_all a0)
    have r_42 := le_l (((ex_33.2) n_39)) r_41 rc_1
    refine g_aload_n C 0 dX12_restore_14 rfl rfl ?_
    refine g_getR C K hLx hkx f_12_38 hb_1 dX12_restore_15 ?_
    refine g_iload_n C 1 dX12_restore_18 rfl rfl ?_
    obtain ⟨x_43, hx_43, rx_43⟩ := ex_getw (I := I_30) (a := b_1) (j := a0.toNatClampNeg) (lo := 0) (hi := 1) hU_31.1 hb_1L (ro_a hb_1k (by decide) hb_1o hkx rfl) (rfl)
    refine h_zald C K hb_1L hb_1k (v := x_43) (a0.toNatClampNeg) (rfl) (ix_0 r_42 (by decide)) (ix_lt r_42 (by decide) hb_1n (by decide)) hx_43 dX12_restore_19 ?_
    refine g_if_ne C (tgt := 25) dX12_restore_20 (by decide) (fun h_44 => ?_) (fun h_44 => ?_)
    · skip
      have n_45 : ¬ x_43 = 0 := h_44
      have r_46 := ne_lo (lo := 1) n_45 rx_43 rc_0 rfl (by decide)
      refine g_iconst C (v := 0) dX12_restore_25 (by decide) ?_
      refine g_istore_n C dX12_restore_26 rfl (by decide) (lo2 := [(2, .int 0), (0, .ref x), (1, .int a0)]) rfl ?_
      refine g_lo (is := [1, 2, 0]) (lo2 := [(0, .ref x), (1, .int a0), (2, .int 0)]) rfl ?_
      have ex_27 : ∀ (I_48 : Nat → Nat → Int32) (hI_48 : I_48 = cpn_ I_30 b_3 b_2 (389 * a0.toNatClampNeg) (0) 389) (v_47 : Int32) (rv_47 : Rg 389 389 v_47), WG p l e { frames := 1, cells := 0, slots := 0, locals := 22 } s m ([.ref x, .int a0] : List Value).toArray below meth c 3 0 0 (MQ below (Qi_ D cy L κ ln R (fun r I2 J2 => Iw L κ R ow I2 ∧ Fq L κ ow [1200, 1223, 83400] I I2 ∧ Fq L κ ow [83900] J J2 ∧ Rg 0 1 r ∧ (∀ kp, R x 22 = some kp → Tq_ a0 (I kp 0) (I kp 1) r) ∧ ((r = 1 → Kr_ R x I I2 a0.toNatClampNeg) ∧ (¬ r = 1 → Hd_ R x I I2)) ∧ ((r = 1 → Kq_ R x J J2 a0.toNatClampNeg 13) ∧ (¬ r = 1 → Rj_ R x J J2)))) ([.ref x, .int a0] : List Value).toArray s 0 0 (Al_ L)) D cy (Al_ L) s.heap L κ ln R I_48 J 58 [(0, .ref x), (1, .int a0), (2, .int v_47)] [] := by
        intro I_48 hI_48 v_47 rv_47
        have hF_49 := fq_cpn hF_32 hI_48 (ro_a hb_2k (by decide) hb_2o hkx rfl) (by decide) (by decide)
        have hU_50 := uw_cpn hU_31.1 hb_3L hI_48 (ro_a hb_2k (by decide) hb_2o hkx rfl) (ro_a hb_3k (by decide) hb_3o hkx rfl) (fun i hi => by rw [bn_834, bn_836, show (389 * a0.toNatClampNeg + i) % 389 = 0 + i by omega]; exact ⟨Int.le_refl _, Int.le_refl _⟩)
        have hU_51 := iw_rs (q0 := a0.toNatClampNeg) W9 hU_31 hU_50 hLx hkx hb_2 hb_3 (ix_lt (n := 2) (N := 2) r_42 (by decide) rfl (by decide)) hI_48
        refine g_iconst C (v := 0) dX12_restore_58 (by decide) ?_
        refine g_istore_n C dX12_restore_59 rfl (by decide) (lo2 := [(2, .int 0), (0, .ref x), (1, .int a0)]) rfl ?_
        refine g_lo (is := [1, 2, 0]) (lo2 := [(0, .ref x), (1, .int a0), (2, .int 0)]) rfl ?_
        exact l_60 14 I_48 J hU_51 hF_49 hG (r_42) 0 (rg_w rc_0 (by decide) (by decide)) (kp_cn (κ := κ) hI_48 (by rw [hkx, hb_2k]; decide) (kp_s hI_30)) (fun q => n_45 (Eq.trans hx_43.symm (Eq.trans (kp_k (κ := κ) hI_30 (by rw [hb_1k, hkx]; decide) rfl) q))) (kr_new (n := a0.toNatClampNeg) W9 hLx hkx (rw_u W9 hLx hkx rw_rf hI_30 (ro_o hkx (by decide)) (by decide)) hb_2 hb_3 hI_48) (kq_0 rj_rf (by decide)) (ms_s (a := 0) (b := 13) (N := 14) (rg_w rc_0 (by decide) (by decide)) (by decide))
      have l_27 : ∀ (m_27 : Nat) (v_52 : Int32) (I_53 : Nat → Nat → Int32), v_52.toInt + (m_27 : Int) = 389 → 0 ≤ v_52.toInt → I_53 = cpn_ I_30 b_3 b_2 (389 * a0.toNatClampNeg) (0) v_52.toNatClampNeg → WG p l e { frames := 1, cells := 0, slots := 0, locals := 22 } s m ([.ref x, .int a0] : List Value).toArray below meth c 3 0 0 (MQ below (Qi_ D cy L κ ln R (fun r I2 J2 => Iw L κ R ow I2 ∧ Fq L κ ow [1200, 1223, 83400] I I2 ∧ Fq L κ ow [83900] J J2 ∧ Rg 0 1 r ∧ (∀ kp, R x 22 = some kp → Tq_ a0 (I kp 0) (I kp 1) r) ∧ ((r = 1 → Kr_ R x I I2 a0.toNatClampNeg) ∧ (¬ r = 1 → Hd_ R x I I2)) ∧ ((r = 1 → Kq_ R x J J2 a0.toNatClampNeg 13) ∧ (¬ r = 1 → Rj_ R x J J2)))) ([.ref x, .int a0] : List Value).toArray s 0 0 (Al_ L)) D cy (Al_ L) s.heap L κ ln R I_53 J 27 [(0, .ref x), (1, .int a0), (2, .int v_52)] [] := by
        intro m_27
        induction m_27 with
        | zero =>
          intro v_52 I_53 hk_27 h0_27 hI_53
          have rv_52 : Rg 389 389 v_52 := by unfold Rg; omega
          refine g_iload_n C 2 dX12_restore_27 rfl rfl ?_
          refine g_sipush C (v := 389) dX12_restore_28 (by decide) ?_
          refine g_icmp_ge C (tgt := 58) dX12_restore_31 (by decide) (fun h_54 => ?_) (fun h_54 => ?_)
          · skip
            refine g_lo (is := [0, 1, 2]) (lo2 := [(0, .ref x), (1, .int a0), (2, .int v_52)]) rfl ?_
            exact ex_27 I_53 (hI_53.trans (congrArg (fun q => cpn_ I_30 b_3 b_2 (389 * a0.toNatClampNeg) (0) q) (show v_52.toNatClampNeg = 389 from by have := ix_n rv_52 (by decide); have := rv_52.1; have := rv_52.2; omega))) v_52 rv_52
          · skip
            have r_55 := lt_l (hi := 388) (nle h_54) rv_52 rc_389 (by decide)
            exact rg_no r_55 (by decide)
        | succ m_27 ih_27 =>
          intro v_52 I_53 hk_27 h0_27 hI_53
          have rv_52 : Rg 0 388 v_52 := by unfold Rg; omega
          refine g_iload_n C 2 dX12_restore_27 rfl rfl ?_
          refine g_sipush C (v := 389) dX12_restore_28 (by decide) ?_
          refine g_icmp_ge C (tgt := 58) dX12_restore_31 (by decide) (fun h_56 => ?_) (fun h_56 => ?_)
          · skip
            have r_57 := le_r (h_56) rc_389 rv_52
            exact rg_no r_57 (by decide)
          · skip
            refine g_aload_n C 0 dX12_restore_34 rfl rfl ?_
            refine g_getR C K hLx hkx f_12_13 hb_2 dX12_restore_35 ?_
            refine g_iload_n C 2 dX12_restore_38 rfl rfl ?_
            refine g_aload_n C 0 dX12_restore_39 rfl rfl ?_
            refine g_getR C K hLx hkx f_12_19 hb_3 dX12_restore_40 ?_
            refine g_sipush C (v := 389) dX12_restore_43 (by decide) ?_
            refine g_iload_n C 1 dX12_restore_46 rfl rfl ?_
            obtain ⟨x_58, hx_58, rx_58, tx_58⟩ := ex_mulT 0 389 rc_389 r_42 (by decide) (by decide) (by decide) (by decide) (by decide)
            refine g_imul C (v := x_58) dX12_restore_47 hx_58 ?_
            refine g_iload_n C 2 dX12_restore_48 rfl rfl ?_
            obtain ⟨x_59, hx_59, rx_59, tx_59⟩ := ex_add 0 777 rx_58 rv_52 (by decide) (by decide) (by decide) (by decide)
            refine g_iadd C (v := x_59) dX12_restore_49 hx_59 ?_
            obtain ⟨x_60, hx_60, rx_60⟩ := ex_any (z0 := I_53 b_3 (x_59.toNatClampNeg))
            refine h_iald C K hb_3L hb_3k (v := x_60) (x_59.toNatClampNeg) (rfl) (ix_0 rx_59 (by decide)) (ix_lt rx_59 (by decide) hb_3n (by decide)) hx_60 dX12_restore_50 ?_
            refine h_iast C K hb_2L hb_2k (v_52.toNatClampNeg) (rfl) (ix_0 rv_52 (by decide)) (ix_lt rv_52 (by decide) hb_2n (by decide)) dX12_restore_51 (fun I_61 hI_61 => ?_)
            obtain ⟨x_62, hx_62, rx_62, tx_62⟩ := ex_add (y := 1) 1 389 rv_52 rc_1 (by decide) (by decide) (by decide) (by decide)
            refine g_iinc C dX12_restore_52 (k := 2) (v := x_62) rfl hx_62 (by decide) (lo2 := [(2, .int x_62), (0, .ref x), (1, .int a0)]) rfl ?_
            refine g_goto C (tgt := 27) dX12_restore_55 (by decide) ?_
            refine g_lo (is := [1, 2, 0]) (lo2 := [(0, .ref x), (1, .int a0), (2, .int x_62)]) rfl ?_
            have kk_27 : x_62.toNatClampNeg = v_52.toNatClampNeg + 1 := by have q1 := ix_n rv_52 (by decide); have q2 := (ti_k tx_62 rc_1); have q3 : x_62.toNatClampNeg = x_62.toInt.toNat := rfl; omega
            exact ih_27 x_62 I_61 (by have := (ti_k tx_62 rc_1); omega) (by have := (ti_k tx_62 rc_1); omega) (by rw [kk_27]; exact cpn_s hI_53 hx_60 hI_61 (show x_59.toNatClampNeg = (389 * a0.toNatClampNeg) + v_52.toNatClampNeg from by rw [nx_a tx_59 rx_58 rv_52 (by decide), nx_m (k := 389) tx_58 r_42 (by decide)] <;> omega) (show v_52.toNatClampNeg = (0) + v_52.toNatClampNeg from by omega) (Or.inl (ne_ro (ro_a hb_3k (by decide) hb_3o hkx rfl) (ro_a hb_2k (by decide) hb_2o hkx rfl) (by decide))))
      exact l_27 389 0 I_30 (by decide) (by decide) cpn_0
    · skip
      have r_63 := (⟨(rx_43).1, (eq_rg (h_44) rc_0).2⟩ : Rg 0 0 x_43)
      refine g_iconst C (v := 0) dX12_restore_23 (by decide) ?_
      exact g_zret (ty := .boolean) (r := 0) B K rfl (rfl) ⟨hU_31, hF_32, hG, rg_w rc_0 (by decide) (by decide), (fun kp hk => by rw [hb_1] at hk; cases hk; exact tq_m (rg_01 (r_42)) (Or.inl ⟨Eq.trans (Eq.symm (kp_k (κ := κ) hI_30 (by rw [hb_1k, hkx]; decide) rfl)) (Eq.trans hx_43 (rg_1k r_63 rc_0)), rfl⟩)), ⟨fun z => absurd z (by decide), fun _ => (hd_u (r := 0) W9 hLx hkx hd_rf hI_30 (Or.inl (ro_o hkx (by decide))))⟩, ⟨fun z => absurd z (by decide), fun _ => rj_rf⟩⟩ dX12_restore_24
set_option maxRecDepth 100000 in
set_option maxHeartbeats 8000000 in
theorem c_X12_count {l : Launch} {D : va_G} {cy : Nat → ClassId} {L : List Nat} {κ ln : Nat → Nat} {R : Nat → Nat → Option Nat} {I : Nat → Nat → Int32} {J : Nat → Nat → Int64} {ow : Nat → Nat × Nat} (W9 : ∀ a ∈ L, Shp L κ ln R ow a) {x : Nat} (hLx : x ∈ L) (hkx : κ x = 12) (a0 : Int32) (hU : Iw L κ R ow I) : CtI l yX12_count cX12_count 2 (some .int) { frames := 0, cells := 0, slots := 0, locals := 0 } D cy L κ ln R I J [.ref x, .int a0] (fun r I2 J2 => Iw L κ R ow I2 ∧ Fq L κ ow [1200] I I2 ∧ Fq L κ ow [] J J2 ∧ Rg (-2147483648) 2147483647 r) := by
  refine CtI.of (by decide +kernel) (Nat.le_of_ble_eq_true rfl) ?_
  intro p e s m below meth c B K
  have C := B.1
  have hF : Fq L κ ow [1200] I I := fq_rf
  have hG : Fq L κ ow [] J J := fq_rf
  obtain ⟨b_1, hb_1, hb_1L, hb_1k, hb_1n, hb_1o⟩ := shp_a (W9 x hLx) hkx 14 14 389 rfl (by decide)
  refine g_lo (is := [0, 1]) (lo2 := [(0, .ref x), (1, .int a0)]) rfl ?_
  refine g_aload_n C 0 dX12_count_0 rfl rfl ?_
  refine g_iconst C (v := 0) dX12_count_1 (by decide) ?_
  refine h_putI C K hLx hkx f_12_82 p_12_0 dX12_count_2 (fun I_2 hI_2 => ?_)
  have hU_3 := iw_put W9 hU hI_2 (ro_o hkx (by decide)) (lo := (-2147483648)) (hi := 2147483647) (rfl) (rg_all _) rfl
  have hF_4 := fq_puto hF hI_2 hkx (by decide) (by decide)
  refine g_iload_n C 1 dX12_count_5 rfl rfl ?_
  by_cases c_5 : a0.toInt = 0
  · skip
    have r_6 := rg_of (a := 0) (b := 0) 0 c_5 (by decide) (by decide)
    refine g_tableIn C (tgt := 40) dX12_count_6 (by omega) (by omega) (off := 34) (by rw [c_5]; rfl) (by decide) ?_
    refine g_aload_n C 0 dX12_count_40 rfl rfl ?_
    refine g_getR C K hLx hkx f_12_13 hb_1 dX12_count_41 ?_
    refine g_iconst C (v := 0) dX12_count_44 (by decide) ?_
    obtain ⟨x_7, hx_7, rx_7⟩ := ex_getw (I := I_2) (a := b_1) (j := 0) (lo := 0) (hi := 7) hU_3.1 hb_1L (ro_a hb_1k (by decide) hb_1o hkx rfl) (by decide)
    refine h_iald C K hb_1L hb_1k (v := x_7) (0) (by decide) (by decide) (by rw [hb_1n]; decide) hx_7 dX12_count_45 ?_
    exact g_zret (ty := .int) (r := x_7) B K rfl (rfl) ⟨hU_3, hF_4, hG, rg_all _⟩ dX12_count_46
  by_cases c_8 : a0.toInt = 1
  · skip
    have r_9 := rg_of (a := 1) (b := 1) 1 c_8 (by decide) (by decide)
    refine g_tableIn C (tgt := 47) dX12_count_6 (by omega) (by omega) (off := 41) (by rw [c_8]; rfl) (by decide) ?_
    refine g_aload_n C 0 dX12_count_47 rfl rfl ?_
    refine g_getR C K hLx hkx f_12_13 hb_1 dX12_count_48 ?_
    refine g_iconst C (v := 1) dX12_count_51 (by decide) ?_
    obtain ⟨x_10, hx_10, rx_10⟩ := ex_getw (I := I_2) (a := b_1) (j := 1) (lo := 0) (hi := 6) hU_3.1 hb_1L (ro_a hb_1k (by decide) hb_1o hkx rfl) (by decide)
    refine h_iald C K hb_1L hb_1k (v := x_10) (1) (by decide) (by decide) (by rw [hb_1n]; decide) hx_10 dX12_count_52 ?_
    exact g_zret (ty := .int) (r := x_10) B K rfl (rfl) ⟨hU_3, hF_4, hG, rg_all _⟩ dX12_count_53
  by_cases c_11 : a0.toInt = 2
  · skip
    have r_12 := rg_of (a := 2) (b := 2) 2 c_11 (by decide) (by decide)
    refine g_tableIn C (tgt := 54) dX12_count_6 (by omega) (by omega) (off := 48) (by rw [c_11]; rfl) (by decide) ?_
    refine g_aload_n C 0 dX12_count_54 rfl rfl ?_
    refine g_getR C K hLx hkx f_12_13 hb_1 dX12_count_55 ?_
    refine g_iconst C (v := 2) dX12_count_58 (by decide) ?_
    obtain ⟨x_13, hx_13, rx_13⟩ := ex_any (z0 := I_2 b_1 (2))
    refine h_iald C K hb_1L hb_1k (v := x_13) (2) (by decide) (by decide) (by rw [hb_1n]; decide) hx_13 dX12_count_59 ?_
    exact g_zret (ty := .int) (r := x_13) B K rfl (rfl) ⟨hU_3, hF_4, hG, rx_13⟩ dX12_count_60
  by_cases c_14 : a0.toInt = 3
  · skip
    have r_15 := rg_of (a := 3) (b := 3) 3 c_14 (by decide) (by decide)
    refine g_tableIn C (tgt := 61) dX12_count_6 (by omega) (by omega) (off := 55) (by rw [c_14]; rfl) (by decide) ?_
    refine g_aload_n C 0 dX12_count_61 rfl rfl ?_
    refine g_getR C K hLx hkx f_12_13 hb_1 dX12_count_62 ?_
    refine g_iconst C (v := 3) dX12_count_65 (by decide) ?_
    obtain ⟨x_16, hx_16, rx_16⟩ := ex_getw (I := I_2) (a := b_1) (j := 3) (lo := 0) (hi := 9) hU_3.1 hb_1L (ro_a hb_1k (by decide) hb_1o hkx rfl) (by decide)
    refine h_iald C K hb_1L hb_1k (v := x_16) (3) (by decide) (by decide) (by rw [hb_1n]; decide) hx_16 dX12_count_66 ?_
    exact g_zret (ty := .int) (r := x_16) B K rfl (rfl) ⟨hU_3, hF_4, hG, rg_all _⟩ dX12_count_67
  by_cases c_17 : a0.toInt = 4
  · skip
    have r_18 := rg_of (a := 4) (b := 4) 4 c_17 (by decide) (by decide)
    refine g_tableIn C (tgt := 68) dX12_count_6 (by omega) (by omega) (off := 62) (by rw [c_17]; rfl) (by decide) ?_
    refine g_aload_n C 0 dX12_count_68 rfl rfl ?_
    obtain ⟨x_19, hx_19, rx_19⟩ := ex_getw (I := I_2) (a := x) (j := 2) (lo := 0) (hi := 940) hU_3.1 hLx (ro_o hkx (by decide)) rfl
    refine g_getI C K hLx hkx f_12_85 (v := x_19) hx_19 dX12_count_69 ?_
    exact g_zret (ty := .int) (r := x_19) B K rfl (rfl) ⟨hU_3, hF_4, hG, rg_all _⟩ dX12_count_72
  have n_21 : ¬ a0 = 0 := (fun q => c_5 (by rw [q]; decide))
  have n_22 : ¬ a0 = 1 := (fun q => c_8 (by rw [q]; decide))
  have n_23 : ¬ a0 = 2 := (fun q => c_11 (by rw [q]; decide))
  have n_24 : ¬ a0 = 3 := (fun q => c_14 (by rw [q]; decide))
  have n_25 : ¬ a0 = 4 := (fun q => c_17 (by rw [q]; decide))
  obtain ⟨q_201, q_202⟩ := id ((rg_all a0))
  refine g_tableOut C (tgt := 73) dX12_count_6 (by omega) (by decide) ?_
  refine g_iconst C (v := (-1)) dX12_count_73 (by decide) ?_
  exact g_zret (ty := .int) (r := (-1)) B K rfl (rfl) ⟨hU_3, hF_4, hG, rg_all _⟩ dX12_count_74
