theorem dX12_eaters_0 : decode cX12_eaters 0 = .ok (.aload_n 0, 1) := by decide +kernel
theorem dX12_eaters_1 : decode cX12_eaters 1 = .ok (.iconst 0, 1) := by decide +kernel
theorem dX12_eaters_2 : decode cX12_eaters 2 = .ok (.putfield 82, 3) := by decide +kernel
theorem dX12_eaters_5 : decode cX12_eaters 5 = .ok (.aload_n 0, 1) := by decide +kernel
theorem dX12_eaters_6 : decode cX12_eaters 6 = .ok (.invokevirtual 162, 3) := by decide +kernel
theorem dX12_eaters_9 : decode cX12_eaters 9 = .ok (.iconst 2, 1) := by decide +kernel
theorem dX12_eaters_10 : decode cX12_eaters 10 = .ok (.if_icmp .ne 16, 3) := by decide +kernel
theorem dX12_eaters_13 : decode cX12_eaters 13 = .ok (.aload_n 0, 1) := by decide +kernel
theorem dX12_eaters_14 : decode cX12_eaters 14 = .ok (.aload_n 0, 1) := by decide +kernel
theorem dX12_eaters_15 : decode cX12_eaters 15 = .ok (.getfield 7, 3) := by decide +kernel
theorem dX12_eaters_18 : decode cX12_eaters 18 = .ok (.iconst 0, 1) := by decide +kernel
theorem dX12_eaters_19 : decode cX12_eaters 19 = .ok (.iaload, 1) := by decide +kernel
theorem dX12_eaters_20 : decode cX12_eaters 20 = .ok (.invokevirtual 250, 3) := by decide +kernel
theorem dX12_eaters_23 : decode cX12_eaters 23 = .ok (.ifCond .ne 5, 3) := by decide +kernel
theorem dX12_eaters_26 : decode cX12_eaters 26 = .ok (.iconst (-1), 1) := by decide +kernel
theorem dX12_eaters_27 : decode cX12_eaters 27 = .ok (.ireturn, 1) := by decide +kernel
theorem dX12_eaters_28 : decode cX12_eaters 28 = .ok (.iconst 0, 1) := by decide +kernel
theorem dX12_eaters_29 : decode cX12_eaters 29 = .ok (.istore_n 1, 1) := by decide +kernel
theorem dX12_eaters_30 : decode cX12_eaters 30 = .ok (.iconst 1, 1) := by decide +kernel
theorem dX12_eaters_31 : decode cX12_eaters 31 = .ok (.aload_n 0, 1) := by decide +kernel
theorem dX12_eaters_32 : decode cX12_eaters 32 = .ok (.getfield 13, 3) := by decide +kernel
theorem dX12_eaters_35 : decode cX12_eaters 35 = .ok (.iconst 0, 1) := by decide +kernel
theorem dX12_eaters_36 : decode cX12_eaters 36 = .ok (.iaload, 1) := by decide +kernel
theorem dX12_eaters_37 : decode cX12_eaters 37 = .ok (.ishl, 1) := by decide +kernel
theorem dX12_eaters_38 : decode cX12_eaters 38 = .ok (.iconst 1, 1) := by decide +kernel
theorem dX12_eaters_39 : decode cX12_eaters 39 = .ok (.isub, 1) := by decide +kernel
theorem dX12_eaters_40 : decode cX12_eaters 40 = .ok (.istore_n 2, 1) := by decide +kernel
theorem dX12_eaters_41 : decode cX12_eaters 41 = .ok (.iconst 0, 1) := by decide +kernel
theorem dX12_eaters_42 : decode cX12_eaters 42 = .ok (.istore_n 3, 1) := by decide +kernel
theorem dX12_eaters_43 : decode cX12_eaters 43 = .ok (.iload_n 3, 1) := by decide +kernel
theorem dX12_eaters_44 : decode cX12_eaters 44 = .ok (.bipush 7, 2) := by decide +kernel
theorem dX12_eaters_46 : decode cX12_eaters 46 = .ok (.if_icmp .ge 16, 3) := by decide +kernel
theorem dX12_eaters_49 : decode cX12_eaters 49 = .ok (.aload_n 0, 1) := by decide +kernel
theorem dX12_eaters_50 : decode cX12_eaters 50 = .ok (.getfield 51, 3) := by decide +kernel
theorem dX12_eaters_53 : decode cX12_eaters 53 = .ok (.iload_n 3, 1) := by decide +kernel
theorem dX12_eaters_54 : decode cX12_eaters 54 = .ok (.iconst 0, 1) := by decide +kernel
theorem dX12_eaters_55 : decode cX12_eaters 55 = .ok (.iastore, 1) := by decide +kernel
theorem dX12_eaters_56 : decode cX12_eaters 56 = .ok (.iinc 3 1, 3) := by decide +kernel
theorem dX12_eaters_59 : decode cX12_eaters 59 = .ok (.goto (-16), 3) := by decide +kernel
theorem dX12_eaters_62 : decode cX12_eaters 62 = .ok (.iconst 0, 1) := by decide +kernel
theorem dX12_eaters_63 : decode cX12_eaters 63 = .ok (.istore_n 3, 1) := by decide +kernel
theorem dX12_eaters_64 : decode cX12_eaters 64 = .ok (.iload_n 3, 1) := by decide +kernel
theorem dX12_eaters_65 : decode cX12_eaters 65 = .ok (.iconst 1, 1) := by decide +kernel
theorem dX12_eaters_66 : decode cX12_eaters 66 = .ok (.aload_n 0, 1) := by decide +kernel
theorem dX12_eaters_67 : decode cX12_eaters 67 = .ok (.getfield 13, 3) := by decide +kernel
theorem dX12_eaters_70 : decode cX12_eaters 70 = .ok (.iconst 0, 1) := by decide +kernel
theorem dX12_eaters_71 : decode cX12_eaters 71 = .ok (.iaload, 1) := by decide +kernel
theorem dX12_eaters_72 : decode cX12_eaters 72 = .ok (.ishl, 1) := by decide +kernel
theorem dX12_eaters_73 : decode cX12_eaters 73 = .ok (.if_icmp .ge 111, 3) := by decide +kernel
theorem dX12_eaters_76 : decode cX12_eaters 76 = .ok (.iconst 0, 1) := by decide +kernel
theorem dX12_eaters_77 : decode cX12_eaters 77 = .ok (.istore 4, 2) := by decide +kernel
theorem dX12_eaters_79 : decode cX12_eaters 79 = .ok (.iconst 0, 1) := by decide +kernel
theorem dX12_eaters_80 : decode cX12_eaters 80 = .ok (.istore 5, 2) := by decide +kernel
theorem dX12_eaters_82 : decode cX12_eaters 82 = .ok (.iload 5, 2) := by decide +kernel
theorem dX12_eaters_84 : decode cX12_eaters 84 = .ok (.bipush 7, 2) := by decide +kernel
theorem dX12_eaters_86 : decode cX12_eaters 86 = .ok (.if_icmp .ge 35, 3) := by decide +kernel
theorem dX12_eaters_89 : decode cX12_eaters 89 = .ok (.iload_n 3, 1) := by decide +kernel
theorem dX12_eaters_90 : decode cX12_eaters 90 = .ok (.iload 5, 2) := by decide +kernel
theorem dX12_eaters_92 : decode cX12_eaters 92 = .ok (.invokestatic 231, 3) := by decide +kernel
theorem dX12_eaters_95 : decode cX12_eaters 95 = .ok (.ifCond .eq 20, 3) := by decide +kernel
theorem dX12_eaters_98 : decode cX12_eaters 98 = .ok (.iload 4, 2) := by decide +kernel
theorem dX12_eaters_100 : decode cX12_eaters 100 = .ok (.aload_n 0, 1) := by decide +kernel
theorem dX12_eaters_101 : decode cX12_eaters 101 = .ok (.iload 5, 2) := by decide +kernel
theorem dX12_eaters_103 : decode cX12_eaters 103 = .ok (.aload_n 0, 1) := by decide +kernel
theorem dX12_eaters_104 : decode cX12_eaters 104 = .ok (.getfield 7, 3) := by decide +kernel
theorem dX12_eaters_107 : decode cX12_eaters 107 = .ok (.iconst 0, 1) := by decide +kernel
theorem dX12_eaters_108 : decode cX12_eaters 108 = .ok (.iaload, 1) := by decide +kernel
theorem dX12_eaters_109 : decode cX12_eaters 109 = .ok (.invokevirtual 234, 3) := by decide +kernel
theorem dX12_eaters_112 : decode cX12_eaters 112 = .ok (.iadd, 1) := by decide +kernel
theorem dX12_eaters_113 : decode cX12_eaters 113 = .ok (.istore 4, 2) := by decide +kernel
theorem dX12_eaters_115 : decode cX12_eaters 115 = .ok (.iinc 5 1, 3) := by decide +kernel
theorem dX12_eaters_118 : decode cX12_eaters 118 = .ok (.goto (-36), 3) := by decide +kernel
theorem dX12_eaters_121 : decode cX12_eaters 121 = .ok (.iload 4, 2) := by decide +kernel
theorem dX12_eaters_123 : decode cX12_eaters 123 = .ok (.aload_n 0, 1) := by decide +kernel
theorem dX12_eaters_124 : decode cX12_eaters 124 = .ok (.getfield 7, 3) := by decide +kernel
theorem dX12_eaters_127 : decode cX12_eaters 127 = .ok (.iconst 1, 1) := by decide +kernel
theorem dX12_eaters_128 : decode cX12_eaters 128 = .ok (.iaload, 1) := by decide +kernel
theorem dX12_eaters_129 : decode cX12_eaters 129 = .ok (.if_icmp .eq 6, 3) := by decide +kernel
theorem dX12_eaters_132 : decode cX12_eaters 132 = .ok (.goto 46, 3) := by decide +kernel
theorem dX12_eaters_135 : decode cX12_eaters 135 = .ok (.iinc 1 1, 3) := by decide +kernel
theorem dX12_eaters_138 : decode cX12_eaters 138 = .ok (.iload_n 2, 1) := by decide +kernel
theorem dX12_eaters_139 : decode cX12_eaters 139 = .ok (.iload_n 3, 1) := by decide +kernel
theorem dX12_eaters_140 : decode cX12_eaters 140 = .ok (.iand, 1) := by decide +kernel
theorem dX12_eaters_141 : decode cX12_eaters 141 = .ok (.istore_n 2, 1) := by decide +kernel
theorem dX12_eaters_142 : decode cX12_eaters 142 = .ok (.iconst 0, 1) := by decide +kernel
theorem dX12_eaters_143 : decode cX12_eaters 143 = .ok (.istore 5, 2) := by decide +kernel
theorem dX12_eaters_145 : decode cX12_eaters 145 = .ok (.iload 5, 2) := by decide +kernel
theorem dX12_eaters_147 : decode cX12_eaters 147 = .ok (.bipush 7, 2) := by decide +kernel
theorem dX12_eaters_149 : decode cX12_eaters 149 = .ok (.if_icmp .ge 29, 3) := by decide +kernel
theorem dX12_eaters_152 : decode cX12_eaters 152 = .ok (.iload_n 3, 1) := by decide +kernel
theorem dX12_eaters_153 : decode cX12_eaters 153 = .ok (.iload 5, 2) := by decide +kernel
theorem dX12_eaters_155 : decode cX12_eaters 155 = .ok (.invokestatic 231, 3) := by decide +kernel
theorem dX12_eaters_158 : decode cX12_eaters 158 = .ok (.ifCond .eq 14, 3) := by decide +kernel
theorem dX12_eaters_161 : decode cX12_eaters 161 = .ok (.aload_n 0, 1) := by decide +kernel
theorem dX12_eaters_162 : decode cX12_eaters 162 = .ok (.getfield 51, 3) := by decide +kernel
theorem dX12_eaters_165 : decode cX12_eaters 165 = .ok (.iload 5, 2) := by decide +kernel
theorem dX12_eaters_167 : decode cX12_eaters 167 = .ok (.dup2, 1) := by decide +kernel
theorem dX12_eaters_168 : decode cX12_eaters 168 = .ok (.iaload, 1) := by decide +kernel
theorem dX12_eaters_169 : decode cX12_eaters 169 = .ok (.iconst 1, 1) := by decide +kernel
theorem dX12_eaters_170 : decode cX12_eaters 170 = .ok (.iadd, 1) := by decide +kernel
theorem dX12_eaters_171 : decode cX12_eaters 171 = .ok (.iastore, 1) := by decide +kernel
theorem dX12_eaters_172 : decode cX12_eaters 172 = .ok (.iinc 5 1, 3) := by decide +kernel
theorem dX12_eaters_175 : decode cX12_eaters 175 = .ok (.goto (-30), 3) := by decide +kernel
theorem dX12_eaters_178 : decode cX12_eaters 178 = .ok (.iinc 3 1, 3) := by decide +kernel
theorem dX12_eaters_181 : decode cX12_eaters 181 = .ok (.goto (-117), 3) := by decide +kernel
theorem dX12_eaters_184 : decode cX12_eaters 184 = .ok (.iload_n 1, 1) := by decide +kernel
theorem dX12_eaters_185 : decode cX12_eaters 185 = .ok (.ifCond .ne 5, 3) := by decide +kernel
theorem dX12_eaters_188 : decode cX12_eaters 188 = .ok (.iconst 0, 1) := by decide +kernel
theorem dX12_eaters_189 : decode cX12_eaters 189 = .ok (.ireturn, 1) := by decide +kernel
theorem dX12_eaters_190 : decode cX12_eaters 190 = .ok (.aload_n 0, 1) := by decide +kernel
theorem dX12_eaters_191 : decode cX12_eaters 191 = .ok (.iload_n 2, 1) := by decide +kernel
theorem dX12_eaters_192 : decode cX12_eaters 192 = .ok (.putfield 54, 3) := by decide +kernel
theorem dX12_eaters_195 : decode cX12_eaters 195 = .ok (.aload_n 0, 1) := by decide +kernel
theorem dX12_eaters_196 : decode cX12_eaters 196 = .ok (.iconst (-1), 1) := by decide +kernel
theorem dX12_eaters_197 : decode cX12_eaters 197 = .ok (.putfield 58, 3) := by decide +kernel
theorem dX12_eaters_200 : decode cX12_eaters 200 = .ok (.iconst 0, 1) := by decide +kernel
theorem dX12_eaters_201 : decode cX12_eaters 201 = .ok (.istore_n 3, 1) := by decide +kernel
theorem dX12_eaters_202 : decode cX12_eaters 202 = .ok (.iload_n 3, 1) := by decide +kernel
theorem dX12_eaters_203 : decode cX12_eaters 203 = .ok (.aload_n 0, 1) := by decide +kernel
theorem dX12_eaters_204 : decode cX12_eaters 204 = .ok (.getfield 13, 3) := by decide +kernel
theorem dX12_eaters_207 : decode cX12_eaters 207 = .ok (.iconst 0, 1) := by decide +kernel
theorem dX12_eaters_208 : decode cX12_eaters 208 = .ok (.iaload, 1) := by decide +kernel
theorem dX12_eaters_209 : decode cX12_eaters 209 = .ok (.if_icmp .ge 54, 3) := by decide +kernel
theorem dX12_eaters_212 : decode cX12_eaters 212 = .ok (.aload_n 0, 1) := by decide +kernel
theorem dX12_eaters_213 : decode cX12_eaters 213 = .ok (.getfield 58, 3) := by decide +kernel
theorem dX12_eaters_216 : decode cX12_eaters 216 = .ok (.iconst (-1), 1) := by decide +kernel
theorem dX12_eaters_217 : decode cX12_eaters 217 = .ok (.if_icmp .eq 35, 3) := by decide +kernel
theorem dX12_eaters_220 : decode cX12_eaters 220 = .ok (.iconst 2, 1) := by decide +kernel
theorem dX12_eaters_221 : decode cX12_eaters 221 = .ok (.aload_n 0, 1) := by decide +kernel
theorem dX12_eaters_222 : decode cX12_eaters 222 = .ok (.getfield 51, 3) := by decide +kernel
theorem dX12_eaters_225 : decode cX12_eaters 225 = .ok (.iload_n 3, 1) := by decide +kernel
theorem dX12_eaters_226 : decode cX12_eaters 226 = .ok (.iaload, 1) := by decide +kernel
theorem dX12_eaters_227 : decode cX12_eaters 227 = .ok (.imul, 1) := by decide +kernel
theorem dX12_eaters_228 : decode cX12_eaters 228 = .ok (.iload_n 1, 1) := by decide +kernel
theorem dX12_eaters_229 : decode cX12_eaters 229 = .ok (.isub, 1) := by decide +kernel
theorem dX12_eaters_230 : decode cX12_eaters 230 = .ok (.invokestatic 318, 3) := by decide +kernel
theorem dX12_eaters_233 : decode cX12_eaters 233 = .ok (.iconst 2, 1) := by decide +kernel
theorem dX12_eaters_234 : decode cX12_eaters 234 = .ok (.aload_n 0, 1) := by decide +kernel
theorem dX12_eaters_235 : decode cX12_eaters 235 = .ok (.getfield 51, 3) := by decide +kernel
theorem dX12_eaters_238 : decode cX12_eaters 238 = .ok (.aload_n 0, 1) := by decide +kernel
theorem dX12_eaters_239 : decode cX12_eaters 239 = .ok (.getfield 58, 3) := by decide +kernel
theorem dX12_eaters_242 : decode cX12_eaters 242 = .ok (.iaload, 1) := by decide +kernel
theorem dX12_eaters_243 : decode cX12_eaters 243 = .ok (.imul, 1) := by decide +kernel
theorem dX12_eaters_244 : decode cX12_eaters 244 = .ok (.iload_n 1, 1) := by decide +kernel
theorem dX12_eaters_245 : decode cX12_eaters 245 = .ok (.isub, 1) := by decide +kernel
theorem dX12_eaters_246 : decode cX12_eaters 246 = .ok (.invokestatic 318, 3) := by decide +kernel
theorem dX12_eaters_249 : decode cX12_eaters 249 = .ok (.if_icmp .ge 8, 3) := by decide +kernel
theorem dX12_eaters_252 : decode cX12_eaters 252 = .ok (.aload_n 0, 1) := by decide +kernel
theorem dX12_eaters_253 : decode cX12_eaters 253 = .ok (.iload_n 3, 1) := by decide +kernel
theorem dX12_eaters_254 : decode cX12_eaters 254 = .ok (.putfield 58, 3) := by decide +kernel
theorem dX12_eaters_257 : decode cX12_eaters 257 = .ok (.iinc 3 1, 3) := by decide +kernel
theorem dX12_eaters_260 : decode cX12_eaters 260 = .ok (.goto (-58), 3) := by decide +kernel
theorem dX12_eaters_263 : decode cX12_eaters 263 = .ok (.iload_n 1, 1) := by decide +kernel
theorem dX12_eaters_264 : decode cX12_eaters 264 = .ok (.ireturn, 1) := by decide +kernel
theorem dX12_end_0 : decode cX12_end 0 = .ok (.aload_n 0, 1) := by decide +kernel
theorem dX12_end_1 : decode cX12_end 1 = .ok (.iconst 0, 1) := by decide +kernel
theorem dX12_end_2 : decode cX12_end 2 = .ok (.putfield 82, 3) := by decide +kernel
theorem dX12_end_5 : decode cX12_end 5 = .ok (.iload_n 1, 1) := by decide +kernel
theorem dX12_end_6 : decode cX12_end 6 = .ok (.ifCond .lt 11, 3) := by decide +kernel
theorem dX12_end_9 : decode cX12_end 9 = .ok (.iload_n 1, 1) := by decide +kernel
theorem dX12_end_10 : decode cX12_end 10 = .ok (.aload_n 0, 1) := by decide +kernel
theorem dX12_end_11 : decode cX12_end 11 = .ok (.getfield 85, 3) := by decide +kernel
theorem dX12_end_14 : decode cX12_end 14 = .ok (.if_icmp .le 5, 3) := by decide +kernel
theorem dX12_end_17 : decode cX12_end 17 = .ok (.iconst 0, 1) := by decide +kernel
theorem dX12_end_18 : decode cX12_end 18 = .ok (.ireturn, 1) := by decide +kernel
theorem dX12_end_19 : decode cX12_end 19 = .ok (.aload_n 0, 1) := by decide +kernel
theorem dX12_end_20 : decode cX12_end 20 = .ok (.iload_n 1, 1) := by decide +kernel
theorem dX12_end_21 : decode cX12_end 21 = .ok (.putfield 85, 3) := by decide +kernel
theorem dX12_end_24 : decode cX12_end 24 = .ok (.iconst 1, 1) := by decide +kernel
theorem dX12_end_25 : decode cX12_end 25 = .ok (.ireturn, 1) := by decide +kernel
theorem dX12_size_0 : decode cX12_size 0 = .ok (.iload_n 0, 1) := by decide +kernel
theorem dX12_size_1 : decode cX12_size 1 = .ok (.ifCond .ge 8, 3) := by decide +kernel
theorem dX12_size_4 : decode cX12_size 4 = .ok (.iload_n 0, 1) := by decide +kernel
theorem dX12_size_5 : decode cX12_size 5 = .ok (.ineg, 1) := by decide +kernel
theorem dX12_size_6 : decode cX12_size 6 = .ok (.goto 4, 3) := by decide +kernel
theorem dX12_size_9 : decode cX12_size 9 = .ok (.iload_n 0, 1) := by decide +kernel
theorem dX12_size_10 : decode cX12_size 10 = .ok (.ireturn, 1) := by decide +kernel
theorem dX12_take_0 : decode cX12_take 0 = .ok (.aload_n 0, 1) := by decide +kernel
theorem dX12_take_1 : decode cX12_take 1 = .ok (.getfield 85, 3) := by decide +kernel
theorem dX12_take_4 : decode cX12_take 4 = .ok (.istore_n 1, 1) := by decide +kernel
theorem dX12_take_5 : decode cX12_take 5 = .ok (.aload_n 0, 1) := by decide +kernel
theorem dX12_take_6 : decode cX12_take 6 = .ok (.iconst 0, 1) := by decide +kernel
theorem dX12_take_7 : decode cX12_take 7 = .ok (.putfield 85, 3) := by decide +kernel
theorem dX12_take_10 : decode cX12_take 10 = .ok (.iload_n 1, 1) := by decide +kernel
theorem dX12_take_11 : decode cX12_take 11 = .ok (.ireturn, 1) := by decide +kernel
set_option maxRecDepth 100000 in
set_option maxHeartbeats 8000000 in
theorem c_X12_size {l : Launch} {D : va_G} {cy : Nat → ClassId} {L : List Nat} {κ ln : Nat → Nat} {R : Nat → Nat → Option Nat} {I : Nat → Nat → Int32} {J : Nat → Nat → Int64} {ow : Nat → Nat × Nat} (W9 : ∀ a ∈ L, Shp L κ ln R ow a) (a0 : Int32) (hU : Iw L κ R ow I) : CtI l yX12_size cX12_size 1 (some .int) { frames := 0, cells := 0, slots := 0, locals := 0 } D cy L κ ln R I J [.int a0] (fun r I2 J2 => I = I2 ∧ J = J2 ∧ Rg (-2147483648) 2147483647 r) := by
  refine CtI.of (by decide +kernel) (Nat.le_of_ble_eq_true rfl) ?_
  intro p e s m below meth c B K
  have C := B.1
  refine g_lo (is := [0]) (lo2 := [(0, .int a0)]) rfl ?_
  refine g_iload_n C 0 dX12_size_0 rfl rfl ?_
  refine g_if_ge C (tgt := 9) dX12_size_1 (by decide) (fun h_1 => ?_) (fun h_1 => ?_)
  · skip
    have r_2 := le_r (h_1) rc_0 (rg_all a0)
    refine g_iload_n C 0 dX12_size_9 rfl rfl ?_
    exact g_zret (ty := .int) (r := a0) B K rfl (rfl) ⟨rfl, rfl, rg_all _⟩ dX12_size_10
  · skip
    have r_3 := lt_l (hi := (-1)) (nle h_1) (rg_all a0) rc_0 (by decide)
    refine g_iload_n C 0 dX12_size_4 rfl rfl ?_
    obtain ⟨x_4, hx_4, rx_4⟩ := ex_any (z0 := -a0)
    refine g_ineg C (v := x_4) dX12_size_5 hx_4 ?_
    refine g_goto C (tgt := 10) dX12_size_6 (by decide) ?_
    exact g_zret (ty := .int) (r := x_4) B K rfl (rfl) ⟨rfl, rfl, rx_4⟩ dX12_size_10
set_option maxRecDepth 100000 in
set_option maxHeartbeats 8000000 in
theorem c_X12_take {l : Launch} {D : va_G} {cy : Nat → ClassId} {L : List Nat} {κ ln : Nat → Nat} {R : Nat → Nat → Option Nat} {I : Nat → Nat → Int32} {J : Nat → Nat → Int64} {ow : Nat → Nat × Nat} (W9 : ∀ a ∈ L, Shp L κ ln R ow a) {x : Nat} (hLx : x ∈ L) (hkx : κ x = 12) (hU : Iw L κ R ow I) : CtI l yX12_take cX12_take 2 (some .int) { frames := 0, cells := 0, slots := 0, locals := 0 } D cy L κ ln R I J [.ref x] (fun r I2 J2 => Iw L κ R ow I2 ∧ Fq L κ ow [1202] I I2 ∧ Fq L κ ow [] J J2 ∧ Rg 0 940 r) := by
  refine CtI.of (by decide +kernel) (Nat.le_of_ble_eq_true rfl) ?_
  intro p e s m below meth c B K
  have C := B.1
  have hF : Fq L κ ow [1202] I I := fq_rf
  have hG : Fq L κ ow [] J J := fq_rf
  refine g_lo (is := [0]) (lo2 := [(0, .ref x)]) rfl ?_
  refine g_aload_n C 0 dX12_take_0 rfl rfl ?_
  obtain ⟨x_1, hx_1, rx_1⟩ := ex_getw (I := I) (a := x) (j := 2) (lo := 0) (hi := 940) hU.1 hLx (ro_o hkx (by decide)) rfl
  refine g_getI C K hLx hkx f_12_85 (v := x_1) hx_1 dX12_take_1 ?_
  refine g_istore_n C dX12_take_4 rfl (by decide) (lo2 := [(1, .int x_1), (0, .ref x)]) rfl ?_
  refine g_aload_n C 1 dX12_take_5 rfl rfl ?_
  refine g_iconst C (v := 0) dX12_take_6 (by decide) ?_
  refine h_putI C K hLx hkx f_12_85 p_12_2 dX12_take_7 (fun I_2 hI_2 => ?_)
  have hU_3 := iw_put W9 hU hI_2 (ro_o hkx (by decide)) (lo := 0) (hi := 940) (rfl) (rg_w rc_0 (by decide) (by decide)) rfl
  have hF_4 := fq_puto hF hI_2 hkx (by decide) (by decide)
  refine g_iload_n C 0 dX12_take_10 rfl rfl ?_
  exact g_zret (ty := .int) (r := x_1) B K rfl (rfl) ⟨hU_3, hF_4, hG, rx_1⟩ dX12_take_11
set_option maxRecDepth 100000 in
set_option maxHeartbeats 8000000 in
theorem c_X12_eaters {l : Launch} {D : va_G} {cy : Nat → ClassId} {L : List Nat} {κ ln : Nat → Nat} {R : Nat → Nat → Option Nat} {I : Nat → Nat → Int32} {J : Nat → Nat → Int64} {ow : Nat → Nat × Nat} (W9 : ∀ a ∈ L, Shp L κ ln R ow a) {x : Nat} (hLx : x ∈ L) (hkx : κ x = 12) (hU : Iw L κ R ow I) : CtI l yX12_eaters cX12_eaters 6 (some .int) { frames := 2, cells := 0, slots := 0, locals := 43 } D cy L κ ln R I J [.ref x] (fun r I2 J2 => Iw L κ R ow I2 ∧ Fq L κ ow [1200, 1202, 1232, 1233, 85100] I I2 ∧ Fq L κ ow [] J J2 ∧ Rg (-2147483648) 2147483647 r) := by
  refine CtI.of (by decide +kernel) (Nat.le_of_ble_eq_true rfl) ?_
  intro p e s m below meth c B K
  have C := B.1
  have hF : Fq L κ ow [1200, 1202, 1232, 1233, 85100] I I := fq_rf
  have hG : Fq L κ ow [] J J := fq_rf
  obtain ⟨b_1, hb_1, hb_1L, hb_1k, hb_1n, hb_1o⟩ := shp_a (W9 x hLx) hkx 1 14 940 rfl (by decide)
  obtain ⟨b_2, hb_2, hb_2L, hb_2k, hb_2n, hb_2o⟩ := shp_a (W9 x hLx) hkx 31 14 7 rfl (by decide)
  obtain ⟨b_3, hb_3, hb_3L, hb_3k, hb_3n, hb_3o⟩ := shp_a (W9 x hLx) hkx 14 14 389 rfl (by decide)
  refine g_lo (is := [0]) (lo2 := [(0, .ref x)]) rfl ?_
  have l_202 : ∀ (n_202 : Nat) (I_4 : Nat → Nat → Int32) (J_5 : Nat → Nat → Int64) (hU_6 : Iw L κ R ow I_4) (hF_7 : Fq L κ ow [1200, 1202, 1232, 1233, 85100] I I_4) (hG_8 : Fq L κ ow [] J J_5) (v_9 : Int32) (nv_9_0 : ¬ v_9 = 0) (v_10 : Int32) (rv_10 : Rg 0 127 v_10) (v_11 : Int32) (rv_11 : Rg 0 7 v_11) (v_12 : Int32) (rv_12 : Rg (-1) 6 v_12) (v_13 : Int32) (rv_13 : Rg 0 5 v_13) (q_14 : I_4 x 0 = 0) (q_15 : I_4 x 32 = v_10) (q_16 : I_4 x 33 = v_12) (q_17 : I_4 b_1 0 = v_13) (hm_18 : 7 < (v_11 : Int32).toInt + (n_202 : Int)), WG p l e { frames := 2, cells := 0, slots := 0, locals := 43 } s m ([.ref x] : List Value).toArray below meth c 6 0 0 (MQ below (Qi_ D cy L κ ln R (fun r I2 J2 => Iw L κ R ow I2 ∧ Fq L κ ow [1200, 1202, 1232, 1233, 85100] I I2 ∧ Fq L κ ow [] J J2 ∧ Rg (-2147483648) 2147483647 r)) ([.ref x] : List Value).toArray s 0 0 (Al_ L)) D cy (Al_ L) s.heap L κ ln R I_4 J_5 202 [(0, .ref x), (1, .int v_9), (2, .int v_10), (3, .int v_11)] [] := by
    intro n_202
    induction n_202 with
    | zero =>
      intro I_4 J_5 hU_6 hF_7 hG_8 v_9 nv_9_0 v_10 rv_10 v_11 rv_11 v_12 rv_12 v_13 rv_13 q_14 q_15 q_16 q_17 hm_18
      exact ms_0 rv_11 hm_18
    | succ n_202 ih_202 =>
      intro I_4 J_5 hU_6 hF_7 hG_8 v_9 nv_9_0 v_10 rv_10 v_11 rv_11 v_12 rv_12 v_13 rv_13 q_14 q_15 q_16 q_17 hm_18
      have j_257 : ∀ (I_19 : Nat → Nat → Int32) (J_20 : Nat → Nat → Int64) (hU_21 : Iw L κ R ow I_19) (hF_22 : Fq L κ ow [1200, 1202, 1232, 1233, 85100] I I_19) (hG_23 : Fq L κ ow [] J J_20) (v_24 : Int32) (nv_24_0 : ¬ v_24 = 0) (v_25 : Int32) (rv_25 : Rg 0 127 v_25) (v_26 : Int32) (rv_26 : Rg 0 6 v_26) (v_27 : Int32) (rv_27 : Rg 0 6 v_27) (nv_27_m1 : ¬ v_27 = (-1)) (v_28 : Int32) (rv_28 : Rg 0 5 v_28) (q_29 : I_19 x 0 = 0) (q_30 : I_19 x 32 = v_25) (q_31 : I_19 x 33 = v_27) (q_32 : I_19 b_1 0 = v_28) (hm_33 : 7 < (v_26 : Int32).toInt + ((n_202 + 1 : Nat) : Int)), WG p l e { frames := 2, cells := 0, slots := 0, locals := 43 } s m ([.ref x] : List Value).toArray below meth c 6 0 0 (MQ below (Qi_ D cy L κ ln R (fun r I2 J2 => Iw L κ R ow I2 ∧ Fq L κ ow [1200, 1202, 1232, 1233, 85100] I I2 ∧ Fq L κ ow [] J J2 ∧ Rg (-2147483648) 2147483647 r)) ([.ref x] : List Value).toArray s 0 0 (Al_ L)) D cy (Al_ L) s.heap L κ ln R I_19 J_20 257 [(0, .ref x), (1, .int v_24), (2, .int v_25), (3, .int v_26)] [] := by
        intro I_19 J_20 hU_21 hF_22 hG_23 v_24 nv_24_0 v_25 rv_25 v_26 rv_26 v_27 rv_27 nv_27_m1 v_28 rv_28 q_29 q_30 q_31 q_32 hm_33
        obtain ⟨x_34, hx_34, rx_34, tx_34⟩ := ex_add (y := 1) 1 7 rv_26 rc_1 (by decide) (by decide) (by decide) (by decide)
        refine g_iinc C dX12_eaters_257 (k := 3) (v := x_34) rfl hx_34 (by decide) (lo2 := [(3, .int x_34), (0, .ref x), (1, .int v_24), (2, .int v_25)]) rfl ?_
        refine g_goto C (tgt := 202) dX12_eaters_260 (by decide) ?_
        refine g_lo (is := [1, 2, 3, 0]) (lo2 := [(0, .ref x), (1, .int v_24), (2, .int v_25), (3, .int x_34)]) rfl ?_
        exact ih_202 I_19 J_20 hU_21 hF_22 hG_23 v_24 (nv_24_0) v_25 (rv_25) x_34 (rg_w rx_34 (by decide) (by decide)) v_27 (rg_w rv_27 (by decide) (by decide)) v_28 (rv_28) q_29 q_30 q_31 q_32 (ms_1 hm_33 (ti_k tx_34 rc_1) (by decide))
      have j_252 : ∀ (I_35 : Nat → Nat → Int32) (J_36 : Nat → Nat → Int64) (hU_37 : Iw L κ R ow I_35) (hF_38 : Fq L κ ow [1200, 1202, 1232, 1233, 85100] I I_35) (hG_39 : Fq L κ ow [] J J_36) (v_40 : Int32) (nv_40_0 : ¬ v_40 = 0) (v_41 : Int32) (rv_41 : Rg 0 127 v_41) (v_42 : Int32) (rv_42 : Rg 0 6 v_42) (v_43 : Int32) (rv_43 : Rg (-1) 6 v_43) (v_44 : Int32) (rv_44 : Rg 0 5 v_44) (q_45 : I_35 x 0 = 0) (q_46 : I_35 x 32 = v_41) (q_47 : I_35 x 33 = v_43) (q_48 : I_35 b_1 0 = v_44) (hm_49 : 7 < (v_42 : Int32).toInt + ((n_202 + 1 : Nat) : Int)), WG p l e { frames := 2, cells := 0, slots := 0, locals := 43 } s m ([.ref x] : List Value).toArray below meth c 6 0 0 (MQ below (Qi_ D cy L κ ln R (fun r I2 J2 => Iw L κ R ow I2 ∧ Fq L κ ow [1200, 1202, 1232, 1233, 85100] I I2 ∧ Fq L κ ow [] J J2 ∧ Rg (-2147483648) 2147483647 r)) ([.ref x] : List Value).toArray s 0 0 (Al_ L)) D cy (Al_ L) s.heap L κ ln R I_35 J_36 252 [(0, .ref x), (1, .int v_40), (2, .int v_41), (3, .int v_42)] [] := by
        intro I_35 J_36 hU_37 hF_38 hG_39 v_40 nv_40_0 v_41 rv_41 v_42 rv_42 v_43 rv_43 v_44 rv_44 q_45 q_46 q_47 q_48 hm_49
        refine g_aload_n C 0 dX12_eaters_252 rfl rfl ?_
        refine g_iload_n C 3 dX12_eaters_253 rfl rfl ?_
        refine h_putI C K hLx hkx f_12_58 p_12_33 dX12_eaters_254 (fun I_50 hI_50 => ?_)
        have hU_51 := iw_put W9 hU_37 hI_50 (ro_o hkx (by decide)) (lo := (-2147483648)) (hi := 2147483647) (rfl) (rg_all _) rfl
        have hF_52 := fq_puto hF_38 hI_50 hkx (by decide) (by decide)
        refine g_lo (is := [0, 1, 2, 3]) (lo2 := [(0, .ref x), (1, .int v_40), (2, .int v_41), (3, .int v_42)]) rfl ?_
        exact j_257 I_50 J_36 hU_51 hF_52 hG_39 v_40 (nv_40_0) v_41 (rv_41) v_42 (rv_42) v_42 (rv_42) (rg_nek rv_42 rc_m1 (by decide)) v_44 (rv_44) (kp_j hI_50 (by decide) q_45) (kp_j hI_50 (by decide) q_46) (kp_s hI_50) (kp_k (κ := κ) hI_50 (by rw [hb_1k, hkx]; decide) q_48) hm_49
      refine g_iload_n C 3 dX12_eaters_202 rfl rfl ?_
      refine g_aload_n C 0 dX12_eaters_203 rfl rfl ?_
      refine g_getR C K hLx hkx f_12_13 hb_3 dX12_eaters_204 ?_
      refine g_iconst C (v := 0) dX12_eaters_207 (by decide) ?_
      obtain ⟨x_53, hx_53, rx_53⟩ := ex_getw (I := I_4) (a := b_3) (j := 0) (lo := 0) (hi := 7) hU_6.1 hb_3L (ro_a hb_3k (by decide) hb_3o hkx rfl) (by decide)
      refine h_iald C K hb_3L hb_3k (v := x_53) (0) (by decide) (by decide) (by rw [hb_3n]; decide) hx_53 dX12_eaters_208 ?_
      refine g_icmp_ge C (tgt := 263) dX12_eaters_209 (by decide) (fun h_54 => ?_) (fun h_54 => ?_)
      · skip
        refine g_iload_n C 1 dX12_eaters_263 rfl rfl ?_
        exact g_zret (ty := .int) (r := v_9) B K rfl (rfl) ⟨hU_6, hF_7, hG_8, (rg_all v_9)⟩ dX12_eaters_264
      · skip
        have r_55 := lt_l (hi := 6) (nle h_54) rv_11 rx_53 (by decide)
        have r_56 := lt_r (lo := 1) (nle h_54) rv_11 rx_53 (by decide)
        refine g_aload_n C 0 dX12_eaters_212 rfl rfl ?_
        refine g_getI C K hLx hkx f_12_58 (v := v_12) q_16 dX12_eaters_213 ?_
        refine g_iconst C (v := (-1)) dX12_eaters_216 (by decide) ?_
        refine g_icmp_eq C (tgt := 252) dX12_eaters_217 (by decide) (fun h_57 => ?_) (fun h_57 => ?_)
        · skip
          have r_58 := (⟨(rv_12).1, (eq_rg (h_57) rc_m1).2⟩ : Rg (-1) (-1) v_12)
          refine g_lo (is := [0, 1, 2, 3]) (lo2 := [(0, .ref x), (1, .int v_9), (2, .int v_10), (3, .int v_11)]) rfl ?_
          exact j_252 I_4 J_5 hU_6 hF_7 hG_8 v_9 (nv_9_0) v_10 (rv_10) v_11 (r_55) v_12 (rg_w r_58 (by decide) (by decide)) v_13 (rv_13) q_14 q_15 q_16 q_17 hm_18
        · skip
          have n_59 : ¬ v_12 = (-1) := h_57
          have r_60 := ne_lo (lo := 0) n_59 rv_12 rc_m1 rfl (by decide)
          refine g_iconst C (v := 2) dX12_eaters_220 (by decide) ?_
          refine g_aload_n C 0 dX12_eaters_221 rfl rfl ?_
          refine g_getR C K hLx hkx f_12_51 hb_2 dX12_eaters_222 ?_
          refine g_iload_n C 3 dX12_eaters_225 rfl rfl ?_
          obtain ⟨x_61, hx_61, rx_61⟩ := ex_any (z0 := I_4 b_2 (v_11.toNatClampNeg))
          refine h_iald C K hb_2L hb_2k (v := x_61) (v_11.toNatClampNeg) (rfl) (ix_0 r_55 (by decide)) (ix_lt r_55 (by decide) hb_2n (by decide)) hx_61 dX12_eaters_226 ?_
          obtain ⟨x_62, hx_62, rx_62⟩ := ex_any (z0 := 2 * x_61)
          refine g_imul C (v := x_62) dX12_eaters_227 hx_62 ?_
          refine g_iload_n C 1 dX12_eaters_228 rfl rfl ?_
          obtain ⟨x_63, hx_63, rx_63⟩ := ex_any (z0 := x_62 - v_9)
          refine g_isub C (v := x_63) dX12_eaters_229 hx_63 ?_
          refine g_callSI C K (c_X12_size W9 x_63  hU_6) s_12_318 rfl ⟨rfl, rfl⟩ ⟨Nat.le_of_ble_eq_true rfl, Nat.le_of_ble_eq_true rfl⟩ (Nat.le_of_ble_eq_true rfl) ⟨Nat.le_of_ble_eq_true rfl, Nat.le_of_ble_eq_true rfl⟩ dX12_eaters_230 rfl (st := []) (fun x_64 I_65 J_66 h_67 => ?_)
          obtain ⟨rfl, rfl, rx_64⟩ := h_67
          refine g_iconst C (v := 2) dX12_eaters_233 (by decide) ?_
          refine g_aload_n C 0 dX12_eaters_234 rfl rfl ?_
          refine g_getR C K hLx hkx f_12_51 hb_2 dX12_eaters_235 ?_
          refine g_aload_n C 0 dX12_eaters_238 rfl rfl ?_
          refine g_getI C K hLx hkx f_12_58 (v := v_12) q_16 dX12_eaters_239 ?_
          obtain ⟨x_68, hx_68, rx_68⟩ := ex_any (z0 := I_4 b_2 (v_12.toNatClampNeg))
          refine h_iald C K hb_2L hb_2k (v := x_68) (v_12.toNatClampNeg) (rfl) (ix_0 r_60 (by decide)) (ix_lt r_60 (by decide) hb_2n (by decide)) hx_68 dX12_eaters_242 ?_
          obtain ⟨x_69, hx_69, rx_69⟩ := ex_any (z0 := 2 * x_68)
          refine g_imul C (v := x_69) dX12_eaters_243 hx_69 ?_
          refine g_iload_n C 1 dX12_eaters_244 rfl rfl ?_
          obtain ⟨x_70, hx_70, rx_70⟩ := ex_any (z0 := x_69 - v_9)
          refine g_isub C (v := x_70) dX12_eaters_245 hx_70 ?_
          refine g_callSI C K (c_X12_size W9 x_70  hU_6) s_12_318 rfl ⟨rfl, rfl⟩ ⟨Nat.le_of_ble_eq_true rfl, Nat.le_of_ble_eq_true rfl⟩ (Nat.le_of_ble_eq_true rfl) ⟨Nat.le_of_ble_eq_true rfl, Nat.le_of_ble_eq_true rfl⟩ dX12_eaters_246 rfl (st := [.int x_64]) (fun x_71 I_72 J_73 h_74 => ?_)
          obtain ⟨rfl, rfl, rx_71⟩ := h_74
          refine g_icmp_ge C (tgt := 257) dX12_eaters_249 (by decide) (fun h_75 => ?_) (fun h_75 => ?_)
          · skip
            refine g_lo (is := [0, 1, 2, 3]) (lo2 := [(0, .ref x), (1, .int v_9), (2, .int v_10), (3, .int v_11)]) rfl ?_
            exact j_257 I_4 J_5 hU_6 hF_7 hG_8 v_9 (nv_9_0) v_10 (rv_10) v_11 (r_55) v_12 (r_60) (n_59) v_13 (rv_13) q_14 q_15 q_16 q_17 hm_18
          · skip
            have r_76 := lt_l (hi := 2147483646) (nle h_75) rx_64 rx_71 (by decide)
            have r_77 := lt_r (lo := (-2147483647)) (nle h_75) rx_64 rx_71 (by decide)
            refine g_lo (is := [0, 1, 2, 3]) (lo2 := [(0, .ref x), (1, .int v_9), (2, .int v_10), (3, .int v_11)]) rfl ?_
            exact j_252 I_4 J_5 hU_6 hF_7 hG_8 v_9 (nv_9_0) v_10 (rv_10) v_11 (r_55) v_12 (rg_w r_60 (by decide) (by decide)) v_13 (rv_13) q_14 q_15 q_16 q_17 hm_18
  have l_64 : ∀ (n_64 : Nat) (I_78 : Nat → Nat → Int32) (J_79 : Nat → Nat → Int64) (hU_80 : Iw L κ R ow I_78) (hF_81 : Fq L κ ow [1200, 1202, 1232, 1233, 85100] I I_78) (hG_82 : Fq L κ ow [] J J_79) (v_83 : Int32) (v_84 : Int32) (rv_84 : Rg 0 127 v_84) (v_85 : Int32) (rv_85 : Rg 0 128 v_85) (v_86 : Int32) (rv_86 : Rg 0 5 v_86) (q_87 : I_78 x 0 = 0) (q_88 : I_78 b_1 0 = v_86) (hm_89 : 128 < (v_85 : Int32).toInt + (n_64 : Int)), WG p l e { frames := 2, cells := 0, slots := 0, locals := 43 } s m ([.ref x] : List Value).toArray below meth c 6 0 0 (MQ below (Qi_ D cy L κ ln R (fun r I2 J2 => Iw L κ R ow I2 ∧ Fq L κ ow [1200, 1202, 1232, 1233, 85100] I I2 ∧ Fq L κ ow [] J J2 ∧ Rg (-2147483648) 2147483647 r)) ([.ref x] : List Value).toArray s 0 0 (Al_ L)) D cy (Al_ L) s.heap L κ ln R I_78 J_79 64 [(0, .ref x), (1, .int v_83), (2, .int v_84), (3, .int v_85)] [] := by
    intro n_64
    induction n_64 with
    | zero =>
      intro I_78 J_79 hU_80 hF_81 hG_82 v_83 v_84 rv_84 v_85 rv_85 v_86 rv_86 q_87 q_88 hm_89
      exact ms_0 rv_85 hm_89
    | succ n_64 ih_64 =>
      intro I_78 J_79 hU_80 hF_81 hG_82 v_83 v_84 rv_84 v_85 rv_85 v_86 rv_86 q_87 q_88 hm_89
      have j_178 : ∀ (I_90 : Nat → Nat → Int32) (J_91 : Nat → Nat → Int64) (hU_92 : Iw L κ R ow I_90) (hF_93 : Fq L κ ow [1200, 1202, 1232, 1233, 85100] I I_90) (hG_94 : Fq L κ ow [] J J_91) (v_95 : Int32) (v_96 : Int32) (rv_96 : Rg 0 127 v_96) (v_97 : Int32) (rv_97 : Rg 0 127 v_97) (v_98 : Int32) (v_99 : Int32) (rv_99 : Rg 7 7 v_99) (v_100 : Int32) (rv_100 : Rg 0 5 v_100) (q_101 : I_90 x 0 = 0) (q_102 : I_90 b_1 0 = v_100) (hm_103 : 128 < (v_97 : Int32).toInt + ((n_64 + 1 : Nat) : Int)), WG p l e { frames := 2, cells := 0, slots := 0, locals := 43 } s m ([.ref x] : List Value).toArray below meth c 6 0 0 (MQ below (Qi_ D cy L κ ln R (fun r I2 J2 => Iw L κ R ow I2 ∧ Fq L κ ow [1200, 1202, 1232, 1233, 85100] I I2 ∧ Fq L κ ow [] J J2 ∧ Rg (-2147483648) 2147483647 r)) ([.ref x] : List Value).toArray s 0 0 (Al_ L)) D cy (Al_ L) s.heap L κ ln R I_90 J_91 178 [(0, .ref x), (1, .int v_95), (2, .int v_96), (3, .int v_97), (4, .int v_98), (5, .int v_99)] [] := by
        intro I_90 J_91 hU_92 hF_93 hG_94 v_95 v_96 rv_96 v_97 rv_97 v_98 v_99 rv_99 v_100 rv_100 q_101 q_102 hm_103
        obtain ⟨x_104, hx_104, rx_104, tx_104⟩ := ex_add (y := 1) 1 128 rv_97 rc_1 (by decide) (by decide) (by decide) (by decide)
        refine g_iinc C dX12_eaters_178 (k := 3) (v := x_104) rfl hx_104 (by decide) (lo2 := [(3, .int x_104), (0, .ref x), (1, .int v_95), (2, .int v_96), (4, .int v_98), (5, .int v_99)]) rfl ?_
        refine g_goto C (tgt := 64) dX12_eaters_181 (by decide) ?_
        refine g_lo (is := [1, 2, 3, 0]) (lo2 := [(0, .ref x), (1, .int v_95), (2, .int v_96), (3, .int x_104)]) rfl ?_
        exact ih_64 I_90 J_91 hU_92 hF_93 hG_94 v_95 v_96 (rv_96) x_104 (rg_w rx_104 (by decide) (by decide)) v_100 (rv_100) q_101 q_102 (ms_1 hm_103 (ti_k tx_104 rc_1) (by decide))
      have l_145 : ∀ (n_145 : Nat) (I_105 : Nat → Nat → Int32) (J_106 : Nat → Nat → Int64) (hU_107 : Iw L κ R ow I_105) (hF_108 : Fq L κ ow [1200, 1202, 1232, 1233, 85100] I I_105) (hG_109 : Fq L κ ow [] J J_106) (v_110 : Int32) (v_111 : Int32) (rv_111 : Rg 0 127 v_111) (v_112 : Int32) (rv_112 : Rg 0 127 v_112) (v_113 : Int32) (rv_113 : Rg 0 255 v_113) (v_114 : Int32) (rv_114 : Rg 0 7 v_114) (v_115 : Int32) (rv_115 : Rg 0 5 v_115) (q_116 : I_105 x 0 = 0) (q_117 : I_105 b_1 0 = v_115) (hm_118 : 128 < (v_112 : Int32).toInt + ((n_64 + 1 : Nat) : Int)) (hm_119 : 7 < (v_114 : Int32).toInt + (n_145 : Int)), WG p l e { frames := 2, cells := 0, slots := 0, locals := 43 } s m ([.ref x] : List Value).toArray below meth c 6 0 0 (MQ below (Qi_ D cy L κ ln R (fun r I2 J2 => Iw L κ R ow I2 ∧ Fq L κ ow [1200, 1202, 1232, 1233, 85100] I I2 ∧ Fq L κ ow [] J J2 ∧ Rg (-2147483648) 2147483647 r)) ([.ref x] : List Value).toArray s 0 0 (Al_ L)) D cy (Al_ L) s.heap L κ ln R I_105 J_106 145 [(0, .ref x), (1, .int v_110), (2, .int v_111), (3, .int v_112), (4, .int v_113), (5, .int v_114)] [] := by
        intro n_145
        induction n_145 with
        | zero =>
          intro I_105 J_106 hU_107 hF_108 hG_109 v_110 v_111 rv_111 v_112 rv_112 v_113 rv_113 v_114 rv_114 v_115 rv_115 q_116 q_117 hm_118 hm_119
          exact ms_0 rv_114 hm_119
        | succ n_145 ih_145 =>
          intro I_105 J_106 hU_107 hF_108 hG_109 v_110 v_111 rv_111 v_112 rv_112 v_113 rv_113 v_114 rv_114 v_115 rv_115 q_116 q_117 hm_118 hm_119
          have j_172 : ∀ (I_120 : Nat → Nat → Int32) (J_121 : Nat → Nat → Int64) (hU_122 : Iw L κ R ow I_120) (hF_123 : Fq L κ ow [1200, 1202, 1232, 1233, 85100] I I_120) (hG_124 : Fq L κ ow [] J J_121) (v_125 : Int32) (v_126 : Int32) (rv_126 : Rg 0 127 v_126) (v_127 : Int32) (rv_127 : Rg 0 127 v_127) (v_128 : Int32) (rv_128 : Rg 0 255 v_128) (v_129 : Int32) (rv_129 : Rg 0 6 v_129) (v_130 : Int32) (rv_130 : Rg 0 5 v_130) (q_131 : I_120 x 0 = 0) (q_132 : I_120 b_1 0 = v_130) (hm_133 : 128 < (v_127 : Int32).toInt + ((n_64 + 1 : Nat) : Int)) (hm_134 : 7 < (v_129 : Int32).toInt + ((n_145 + 1 : Nat) : Int)), WG p l e { frames := 2, cells := 0, slots := 0, locals := 43 } s m ([.ref x] : List Value).toArray below meth c 6 0 0 (MQ below (Qi_ D cy L κ ln R (fun r I2 J2 => Iw L κ R ow I2 ∧ Fq L κ ow [1200, 1202, 1232, 1233, 85100] I I2 ∧ Fq L κ ow [] J J2 ∧ Rg (-2147483648) 2147483647 r)) ([.ref x] : List Value).toArray s 0 0 (Al_ L)) D cy (Al_ L) s.heap L κ ln R I_120 J_121 172 [(0, .ref x), (1, .int v_125), (2, .int v_126), (3, .int v_127), (4, .int v_128), (5, .int v_129)] [] := by
            intro I_120 J_121 hU_122 hF_123 hG_124 v_125 v_126 rv_126 v_127 rv_127 v_128 rv_128 v_129 rv_129 v_130 rv_130 q_131 q_132 hm_133 hm_134
            obtain ⟨x_135, hx_135, rx_135, tx_135⟩ := ex_add (y := 1) 1 7 rv_129 rc_1 (by decide) (by decide) (by decide) (by decide)
            refine g_iinc C dX12_eaters_172 (k := 5) (v := x_135) rfl hx_135 (by decide) (lo2 := [(5, .int x_135), (0, .ref x), (1, .int v_125), (2, .int v_126), (3, .int v_127), (4, .int v_128)]) rfl ?_
            refine g_goto C (tgt := 145) dX12_eaters_175 (by decide) ?_
            refine g_lo (is := [1, 2, 3, 4, 5, 0]) (lo2 := [(0, .ref x), (1, .int v_125), (2, .int v_126), (3, .int v_127), (4, .int v_128), (5, .int x_135)]) rfl ?_
            exact ih_145 I_120 J_121 hU_122 hF_123 hG_124 v_125 v_126 (rv_126) v_127 (rv_127) v_128 (rv_128) x_135 (rg_w rx_135 (by decide) (by decide)) v_130 (rv_130) q_131 q_132 hm_133 (ms_1 hm_134 (ti_k tx_135 rc_1) (by decide))
          refine g_iload C 5 dX12_eaters_145 rfl ?_
          refine g_bipush C (v := 7) dX12_eaters_147 (by decide) ?_
          refine g_icmp_ge C (tgt := 178) dX12_eaters_149 (by decide) (fun h_136 => ?_) (fun h_136 => ?_)
          · skip
            have r_137 := le_r (h_136) rc_7 rv_114
            refine g_lo (is := [0, 1, 2, 3, 4, 5]) (lo2 := [(0, .ref x), (1, .int v_110), (2, .int v_111), (3, .int v_112), (4, .int v_113), (5, .int v_114)]) rfl ?_
            exact j_178 I_105 J_106 hU_107 hF_108 hG_109 v_110 v_111 (rv_111) v_112 (rv_112) v_113 v_114 (r_137) v_115 (rv_115) q_116 q_117 hm_118
          · skip
            have r_138 := lt_l (hi := 6) (nle h_136) rv_114 rc_7 (by decide)
            refine g_iload_n C 3 dX12_eaters_152 rfl rfl ?_
            refine g_iload C 5 dX12_eaters_153 rfl ?_
            refine g_callSI C K (c_X12_has W9 v_112 v_114  hU_107) s_12_231 rfl ⟨rfl, rfl⟩ ⟨Nat.le_of_ble_eq_true rfl, Nat.le_of_ble_eq_true rfl⟩ (Nat.le_of_ble_eq_true rfl) ⟨Nat.le_of_ble_eq_true rfl, Nat.le_of_ble_eq_true rfl⟩ dX12_eaters_155 rfl (st := []) (fun x_139 I_140 J_141 h_142 => ?_)
            obtain ⟨rfl, rfl, rx_139⟩ := h_142
            refine g_if_eq C (tgt := 172) dX12_eaters_158 (by decide) (fun h_143 => ?_) (fun h_143 => ?_)
            · skip
              have r_144 := (⟨(rx_139).1, (eq_rg (h_143) rc_0).2⟩ : Rg 0 0 x_139)
              refine g_lo (is := [0, 1, 2, 3, 4, 5]) (lo2 := [(0, .ref x), (1, .int v_110), (2, .int v_111), (3, .int v_112), (4, .int v_113), (5, .int v_114)]) rfl ?_
              exact j_172 I_105 J_106 hU_107 hF_108 hG_109 v_110 v_111 (rv_111) v_112 (rv_112) v_113 (rv_113) v_114 (r_138) v_115 (rv_115) q_116 q_117 hm_118 hm_119
            · skip
              have n_145 : ¬ x_139 = 0 := h_143
              have r_146 := ne_lo (lo := 1) n_145 rx_139 rc_0 rfl (by decide)
              refine g_aload_n C 0 dX12_eaters_161 rfl rfl ?_
              refine g_getR C K hLx hkx f_12_51 hb_2 dX12_eaters_162 ?_
              refine g_iload C 5 dX12_eaters_165 rfl ?_
              refine g_dup2 C dX12_eaters_167 rfl rfl ?_
              obtain ⟨x_147, hx_147, rx_147⟩ := ex_any (z0 := I_105 b_2 (v_114.toNatClampNeg))
              refine h_iald C K hb_2L hb_2k (v := x_147) (v_114.toNatClampNeg) (rfl) (ix_0 r_138 (by decide)) (ix_lt r_138 (by decide) hb_2n (by decide)) hx_147 dX12_eaters_168 ?_
              refine g_iconst C (v := 1) dX12_eaters_169 (by decide) ?_
              obtain ⟨x_148, hx_148, rx_148⟩ := ex_any (z0 := x_147 + 1)
              refine g_iadd C (v := x_148) dX12_eaters_170 hx_148 ?_
              refine h_iast C K hb_2L hb_2k (v_114.toNatClampNeg) (rfl) (ix_0 r_138 (by decide)) (ix_lt r_138 (by decide) hb_2n (by decide)) dX12_eaters_171 (fun I_149 hI_149 => ?_)
              have hU_150 := iw_put W9 hU_107 hI_149 (ro_a hb_2k (by decide) hb_2o hkx rfl) (lo := (-2147483648)) (hi := 2147483647) (rfl) (rx_148) rfl
              have hF_151 := fq_puta hF_108 hI_149 (ro_a hb_2k (by decide) hb_2o hkx rfl) (by decide) (by decide)
              refine g_lo (is := [0, 1, 2, 3, 4, 5]) (lo2 := [(0, .ref x), (1, .int v_110), (2, .int v_111), (3, .int v_112), (4, .int v_113), (5, .int v_114)]) rfl ?_
              exact j_172 I_149 J_106 hU_150 hF_151 hG_109 v_110 v_111 (rv_111) v_112 (rv_112) v_113 (rv_113) v_114 (r_138) v_115 (rv_115) (kp_k (κ := κ) hI_149 (by rw [hkx, hb_2k]; decide) q_116) (kp_r hI_149 (ro_a hb_1k (by decide) hb_1o hkx rfl) (ro_a hb_2k (by decide) hb_2o hkx rfl) (by decide) q_117) hm_118 hm_119
      have l_82 : ∀ (n_82 : Nat) (I_152 : Nat → Nat → Int32) (J_153 : Nat → Nat → Int64) (hU_154 : Iw L κ R ow I_152) (hF_155 : Fq L κ ow [1200, 1202, 1232, 1233, 85100] I I_152) (hG_156 : Fq L κ ow [] J J_153) (v_157 : Int32) (v_158 : Int32) (rv_158 : Rg 0 127 v_158) (v_159 : Int32) (rv_159 : Rg 0 127 v_159) (v_160 : Int32) (v_161 : Int32) (rv_161 : Rg 0 7 v_161) (v_162 : Int32) (rv_162 : Rg 0 5 v_162) (q_163 : I_152 x 0 = 0) (q_164 : I_152 b_1 0 = v_162) (hm_165 : 128 < (v_159 : Int32).toInt + ((n_64 + 1 : Nat) : Int)) (hm_166 : 7 < (v_161 : Int32).toInt + (n_82 : Int)), WG p l e { frames := 2, cells := 0, slots := 0, locals := 43 } s m ([.ref x] : List Value).toArray below meth c 6 0 0 (MQ below (Qi_ D cy L κ ln R (fun r I2 J2 => Iw L κ R ow I2 ∧ Fq L κ ow [1200, 1202, 1232, 1233, 85100] I I2 ∧ Fq L κ ow [] J J2 ∧ Rg (-2147483648) 2147483647 r)) ([.ref x] : List Value).toArray s 0 0 (Al_ L)) D cy (Al_ L) s.heap L κ ln R I_152 J_153 82 [(0, .ref x), (1, .int v_157), (2, .int v_158), (3, .int v_159), (4, .int v_160), (5, .int v_161)] [] := by
        intro n_82
        induction n_82 with
        | zero =>
          intro I_152 J_153 hU_154 hF_155 hG_156 v_157 v_158 rv_158 v_159 rv_159 v_160 v_161 rv_161 v_162 rv_162 q_163 q_164 hm_165 hm_166
          exact ms_0 rv_161 hm_166
        | succ n_82 ih_82 =>
          intro I_152 J_153 hU_154 hF_155 hG_156 v_157 v_158 rv_158 v_159 rv_159 v_160 v_161 rv_161 v_162 rv_162 q_163 q_164 hm_165 hm_166
          have j_115 : ∀ (I_167 : Nat → Nat → Int32) (J_168 : Nat → Nat → Int64) (hU_169 : Iw L κ R ow I_167) (hF_170 : Fq L κ ow [1200, 1202, 1232, 1233, 85100] I I_167) (hG_171 : Fq L κ ow [] J J_168) (v_172 : Int32) (v_173 : Int32) (rv_173 : Rg 0 127 v_173) (v_174 : Int32) (rv_174 : Rg 0 127 v_174) (v_175 : Int32) (v_176 : Int32) (rv_176 : Rg 0 6 v_176) (v_177 : Int32) (rv_177 : Rg 0 5 v_177) (q_178 : I_167 x 0 = 0) (q_179 : I_167 b_1 0 = v_177) (hm_180 : 128 < (v_174 : Int32).toInt + ((n_64 + 1 : Nat) : Int)) (hm_181 : 7 < (v_176 : Int32).toInt + ((n_82 + 1 : Nat) : Int)), WG p l e { frames := 2, cells := 0, slots := 0, locals := 43 } s m ([.ref x] : List Value).toArray below meth c 6 0 0 (MQ below (Qi_ D cy L κ ln R (fun r I2 J2 => Iw L κ R ow I2 ∧ Fq L κ ow [1200, 1202, 1232, 1233, 85100] I I2 ∧ Fq L κ ow [] J J2 ∧ Rg (-2147483648) 2147483647 r)) ([.ref x] : List Value).toArray s 0 0 (Al_ L)) D cy (Al_ L) s.heap L κ ln R I_167 J_168 115 [(0, .ref x), (1, .int v_172), (2, .int v_173), (3, .int v_174), (4, .int v_175), (5, .int v_176)] [] := by
            intro I_167 J_168 hU_169 hF_170 hG_171 v_172 v_173 rv_173 v_174 rv_174 v_175 v_176 rv_176 v_177 rv_177 q_178 q_179 hm_180 hm_181
            obtain ⟨x_182, hx_182, rx_182, tx_182⟩ := ex_add (y := 1) 1 7 rv_176 rc_1 (by decide) (by decide) (by decide) (by decide)
            refine g_iinc C dX12_eaters_115 (k := 5) (v := x_182) rfl hx_182 (by decide) (lo2 := [(5, .int x_182), (0, .ref x), (1, .int v_172), (2, .int v_173), (3, .int v_174), (4, .int v_175)]) rfl ?_
            refine g_goto C (tgt := 82) dX12_eaters_118 (by decide) ?_
            refine g_lo (is := [1, 2, 3, 4, 5, 0]) (lo2 := [(0, .ref x), (1, .int v_172), (2, .int v_173), (3, .int v_174), (4, .int v_175), (5, .int x_182)]) rfl ?_
            exact ih_82 I_167 J_168 hU_169 hF_170 hG_171 v_172 v_173 (rv_173) v_174 (rv_174) v_175 x_182 (rg_w rx_182 (by decide) (by decide)) v_177 (rv_177) q_178 q_179 hm_180 (ms_1 hm_181 (ti_k tx_182 rc_1) (by decide))
          refine g_iload C 5 dX12_eaters_82 rfl ?_
          refine g_bipush C (v := 7) dX12_eaters_84 (by decide) ?_
          refine g_icmp_ge C (tgt := 121) dX12_eaters_86 (by decide) (fun h_183 => ?_) (fun h_183 => ?_)
          · skip
            have r_184 := le_r (h_183) rc_7 rv_161
            refine g_iload C 4 dX12_eaters_121 rfl ?_
            refine g_aload_n C 0 dX12_eaters_123 rfl rfl ?_
            refine g_getR C K hLx hkx f_12_7 hb_1 dX12_eaters_124 ?_
            refine g_iconst C (v := 1) dX12_eaters_127 (by decide) ?_
            obtain ⟨x_185, hx_185, rx_185⟩ := ex_getw (I := I_152) (a := b_1) (j := 1) (lo := 0) (hi := 255) hU_154.1 hb_1L (ro_a hb_1k (by decide) hb_1o hkx rfl) (rfl)
            refine h_iald C K hb_1L hb_1k (v := x_185) (1) (by decide) (by decide) (by rw [hb_1n]; decide) hx_185 dX12_eaters_128 ?_
            refine g_icmp_eq C (tgt := 135) dX12_eaters_129 (by decide) (fun h_186 => ?_) (fun h_186 => ?_)
            · skip
              have r_187 := (⟨(eq_rg (h_186) rx_185).1, (eq_rg (h_186) rx_185).2⟩ : Rg 0 255 v_160)
              obtain ⟨x_188, hx_188, rx_188⟩ := ex_any (z0 := v_157 + 1)
              refine g_iinc C dX12_eaters_135 (k := 1) (v := x_188) rfl hx_188 (by decide) (lo2 := [(1, .int x_188), (0, .ref x), (2, .int v_158), (3, .int v_159), (4, .int v_160), (5, .int v_161)]) rfl ?_
              refine g_iload_n C 2 dX12_eaters_138 rfl rfl ?_
              refine g_iload_n C 3 dX12_eaters_139 rfl rfl ?_
              obtain ⟨x_189, hx_189, rx_189⟩ := ex_andl (x := v_158) (y := v_159) (b := 127) (rv_158)
              refine g_iand C (v := x_189) dX12_eaters_140 hx_189 ?_
              refine g_istore_n C dX12_eaters_141 rfl (by decide) (lo2 := [(2, .int x_189), (1, .int x_188), (0, .ref x), (3, .int v_159), (4, .int v_160), (5, .int v_161)]) rfl ?_
              refine g_iconst C (v := 0) dX12_eaters_142 (by decide) ?_
              refine g_istore C dX12_eaters_143 (by decide) (lo2 := [(5, .int 0), (2, .int x_189), (1, .int x_188), (0, .ref x), (3, .int v_159), (4, .int v_160)]) rfl ?_
              refine g_lo (is := [3, 2, 1, 4, 5, 0]) (lo2 := [(0, .ref x), (1, .int x_188), (2, .int x_189), (3, .int v_159), (4, .int v_160), (5, .int 0)]) rfl ?_
              exact l_145 8 I_152 J_153 hU_154 hF_155 hG_156 x_188 x_189 (rx_189) v_159 (rv_159) v_160 (r_187) 0 (rg_w rc_0 (by decide) (by decide)) v_162 (rv_162) q_163 q_164 hm_165 (ms_s (a := 0) (b := 7) (N := 8) (rg_w rc_0 (by decide) (by decide)) (by decide))
            · skip
              refine g_goto C (tgt := 178) dX12_eaters_132 (by decide) ?_
              refine g_lo (is := [0, 1, 2, 3, 4, 5]) (lo2 := [(0, .ref x), (1, .int v_157), (2, .int v_158), (3, .int v_159), (4, .int v_160), (5, .int v_161)]) rfl ?_
              exact j_178 I_152 J_153 hU_154 hF_155 hG_156 v_157 v_158 (rv_158) v_159 (rv_159) v_160 v_161 (r_184) v_162 (rv_162) q_163 q_164 hm_165
          · skip
            have r_190 := lt_l (hi := 6) (nle h_183) rv_161 rc_7 (by decide)
            refine g_iload_n C 3 dX12_eaters_89 rfl rfl ?_
            refine g_iload C 5 dX12_eaters_90 rfl ?_
            refine g_callSI C K (c_X12_has W9 v_159 v_161  hU_154) s_12_231 rfl ⟨rfl, rfl⟩ ⟨Nat.le_of_ble_eq_true rfl, Nat.le_of_ble_eq_true rfl⟩ (Nat.le_of_ble_eq_true rfl) ⟨Nat.le_of_ble_eq_true rfl, Nat.le_of_ble_eq_true rfl⟩ dX12_eaters_92 rfl (st := []) (fun x_191 I_192 J_193 h_194 => ?_)
            obtain ⟨rfl, rfl, rx_191⟩ := h_194
            refine g_if_eq C (tgt := 115) dX12_eaters_95 (by decide) (fun h_195 => ?_) (fun h_195 => ?_)
            · skip
              have r_196 := (⟨(rx_191).1, (eq_rg (h_195) rc_0).2⟩ : Rg 0 0 x_191)
              refine g_lo (is := [0, 1, 2, 3, 4, 5]) (lo2 := [(0, .ref x), (1, .int v_157), (2, .int v_158), (3, .int v_159), (4, .int v_160), (5, .int v_161)]) rfl ?_
              exact j_115 I_152 J_153 hU_154 hF_155 hG_156 v_157 v_158 (rv_158) v_159 (rv_159) v_160 v_161 (r_190) v_162 (rv_162) q_163 q_164 hm_165 hm_166
            · skip
              have n_197 : ¬ x_191 = 0 := h_195
              have r_198 := ne_lo (lo := 1) n_197 rx_191 rc_0 rfl (by decide)
              refine g_iload C 4 dX12_eaters_98 rfl ?_
              refine g_aload_n C 0 dX12_eaters_100 rfl rfl ?_
              refine g_iload C 5 dX12_eaters_101 rfl ?_
              refine g_aload_n C 0 dX12_eaters_103 rfl rfl ?_
              refine g_getR C K hLx hkx f_12_7 hb_1 dX12_eaters_104 ?_
              refine g_iconst C (v := 0) dX12_eaters_107 (by decide) ?_
              refine h_iald C K hb_1L hb_1k (v := v_162) (0) (by decide) (by decide) (by rw [hb_1n]; decide) q_164 dX12_eaters_108 ?_
              refine g_callVI C K (c_X12_onPlate W9 hLx hkx v_161 v_162 (r_190) (rv_162) hU_154) hLx hkx (by decide) rfl v_12_234 rfl ⟨rfl, rfl⟩ ⟨Nat.le_of_ble_eq_true rfl, Nat.le_of_ble_eq_true rfl⟩ (Nat.le_of_ble_eq_true rfl) ⟨Nat.le_of_ble_eq_true rfl, Nat.le_of_ble_eq_true rfl⟩ dX12_eaters_109 rfl (st := [.int v_160]) (fun x_200 I_201 J_202 h_203 => ?_)
              obtain ⟨rfl, rfl, rx_200⟩ := h_203
              obtain ⟨x_204, hx_204, rx_204⟩ := ex_any (z0 := v_160 + x_200)
              refine g_iadd C (v := x_204) dX12_eaters_112 hx_204 ?_
              refine g_istore C dX12_eaters_113 (by decide) (lo2 := [(4, .int x_204), (0, .ref x), (1, .int v_157), (2, .int v_158), (3, .int v_159), (5, .int v_161)]) rfl ?_
              refine g_lo (is := [1, 2, 3, 4, 0, 5]) (lo2 := [(0, .ref x), (1, .int v_157), (2, .int v_158), (3, .int v_159), (4, .int x_204), (5, .int v_161)]) rfl ?_
              exact j_115 I_152 J_153 hU_154 hF_155 hG_156 v_157 v_158 (rv_158) v_159 (rv_159) x_204 v_161 (r_190) v_162 (rv_162) q_163 q_164 hm_165 hm_166
      refine g_iload_n C 3 dX12_eaters_64 rfl rfl ?_
      refine g_iconst C (v := 1) dX12_eaters_65 (by decide) ?_
      refine g_aload_n C 0 dX12_eaters_66 rfl rfl ?_
      refine g_getR C K hLx hkx f_12_13 hb_3 dX12_eaters_67 ?_
      refine g_iconst C (v := 0) dX12_eaters_70 (by decide) ?_
      obtain ⟨x_205, hx_205, rx_205⟩ := ex_getw (I := I_78) (a := b_3) (j := 0) (lo := 0) (hi := 7) hU_80.1 hb_3L (ro_a hb_3k (by decide) hb_3o hkx rfl) (by decide)
      refine h_iald C K hb_3L hb_3k (v := x_205) (0) (by decide) (by decide) (by rw [hb_3n]; decide) hx_205 dX12_eaters_71 ?_
      obtain ⟨x_206, hx_206, rx_206⟩ := ex_shl (x := 1) (y := x_205) 7 128 rfl (rx_205) (by decide)
      refine g_ishl C (v := x_206) dX12_eaters_72 hx_206 ?_
      refine g_icmp_ge C (tgt := 184) dX12_eaters_73 (by decide) (fun h_207 => ?_) (fun h_207 => ?_)
      · skip
        have r_208 := le_r (h_207) rx_206 rv_85
        refine g_iload_n C 1 dX12_eaters_184 rfl rfl ?_
        refine g_if_ne C (tgt := 190) dX12_eaters_185 (by decide) (fun h_209 => ?_) (fun h_209 => ?_)
        · skip
          have n_210 : ¬ v_83 = 0 := h_209
          refine g_aload_n C 0 dX12_eaters_190 rfl rfl ?_
          refine g_iload_n C 2 dX12_eaters_191 rfl rfl ?_
          refine h_putI C K hLx hkx f_12_54 p_12_32 dX12_eaters_192 (fun I_211 hI_211 => ?_)
          have hU_212 := iw_put W9 hU_80 hI_211 (ro_o hkx (by decide)) (lo := (-2147483648)) (hi := 2147483647) (rfl) (rg_all _) rfl
          have hF_213 := fq_puto hF_81 hI_211 hkx (by decide) (by decide)
          refine g_aload_n C 0 dX12_eaters_195 rfl rfl ?_
          refine g_iconst C (v := (-1)) dX12_eaters_196 (by decide) ?_
          refine h_putI C K hLx hkx f_12_58 p_12_33 dX12_eaters_197 (fun I_214 hI_214 => ?_)
          have hU_215 := iw_put W9 hU_212 hI_214 (ro_o hkx (by decide)) (lo := (-2147483648)) (hi := 2147483647) (rfl) (rg_all _) rfl
          have hF_216 := fq_puto hF_213 hI_214 hkx (by decide) (by decide)
          refine g_iconst C (v := 0) dX12_eaters_200 (by decide) ?_
          refine g_istore_n C dX12_eaters_201 rfl (by decide) (lo2 := [(3, .int 0), (0, .ref x), (1, .int v_83), (2, .int v_84)]) rfl ?_
          refine g_lo (is := [1, 2, 3, 0]) (lo2 := [(0, .ref x), (1, .int v_83), (2, .int v_84), (3, .int 0)]) rfl ?_
          exact l_202 8 I_214 J_79 hU_215 hF_216 hG_82 v_83 (n_210) v_84 (rv_84) 0 (rg_w rc_0 (by decide) (by decide)) (-1) (rg_w rc_m1 (by decide) (by decide)) v_86 (rv_86) (kp_j hI_214 (by decide) (kp_j hI_211 (by decide) q_87)) (kp_j hI_214 (by decide) (kp_s hI_211)) (kp_s hI_214) (kp_k (κ := κ) hI_214 (by rw [hb_1k, hkx]; decide) (kp_k (κ := κ) hI_211 (by rw [hb_1k, hkx]; decide) q_88)) (ms_s (a := 0) (b := 7) (N := 8) (rg_w rc_0 (by decide) (by decide)) (by decide))
        · skip
          have r_217 := (⟨(eq_rg (h_209) rc_0).1, (eq_rg (h_209) rc_0).2⟩ : Rg 0 0 v_83)
          refine g_iconst C (v := 0) dX12_eaters_188 (by decide) ?_
          exact g_zret (ty := .int) (r := 0) B K rfl (rfl) ⟨hU_80, hF_81, hG_82, rg_all _⟩ dX12_eaters_189
      · skip
        have r_218 := lt_l (hi := 127) (nle h_207) rv_85 rx_206 (by decide)
        refine g_iconst C (v := 0) dX12_eaters_76 (by decide) ?_
        refine g_istore C dX12_eaters_77 (by decide) (lo2 := [(4, .int 0), (0, .ref x), (1, .int v_83), (2, .int v_84), (3, .int v_85)]) rfl ?_
        refine g_iconst C (v := 0) dX12_eaters_79 (by decide) ?_
        refine g_istore C dX12_eaters_80 (by decide) (lo2 := [(5, .int 0), (4, .int 0), (0, .ref x), (1, .int v_83), (2, .int v_84), (3, .int v_85)]) rfl ?_
        refine g_lo (is := [2, 3, 4, 5, 1, 0]) (lo2 := [(0, .ref x), (1, .int v_83), (2, .int v_84), (3, .int v_85), (4, .int 0), (5, .int 0)]) rfl ?_
        exact l_82 8 I_78 J_79 hU_80 hF_81 hG_82 v_83 v_84 (rv_84) v_85 (r_218) 0 0 (rg_w rc_0 (by decide) (by decide)) v_86 (rv_86) q_87 q_88 hm_89 (ms_s (a := 0) (b := 7) (N := 8) (rg_w rc_0 (by decide) (by decide)) (by decide))
  have l_43 : ∀ (n_43 : Nat) (I_219 : Nat → Nat → Int32) (J_220 : Nat → Nat → Int64) (hU_221 : Iw L κ R ow I_219) (hF_222 : Fq L κ ow [1200, 1202, 1232, 1233, 85100] I I_219) (hG_223 : Fq L κ ow [] J J_220) (v_224 : Int32) (rv_224 : Rg 0 127 v_224) (v_225 : Int32) (rv_225 : Rg 0 7 v_225) (v_226 : Int32) (rv_226 : Rg 0 5 v_226) (q_227 : I_219 x 0 = 0) (q_228 : I_219 b_1 0 = v_226) (hm_229 : 7 < (v_225 : Int32).toInt + (n_43 : Int)), WG p l e { frames := 2, cells := 0, slots := 0, locals := 43 } s m ([.ref x] : List Value).toArray below meth c 6 0 0 (MQ below (Qi_ D cy L κ ln R (fun r I2 J2 => Iw L κ R ow I2 ∧ Fq L κ ow [1200, 1202, 1232, 1233, 85100] I I2 ∧ Fq L κ ow [] J J2 ∧ Rg (-2147483648) 2147483647 r)) ([.ref x] : List Value).toArray s 0 0 (Al_ L)) D cy (Al_ L) s.heap L κ ln R I_219 J_220 43 [(0, .ref x), (1, .int 0), (2, .int v_224), (3, .int v_225)] [] := by
    intro n_43
    induction n_43 with
    | zero =>
      intro I_219 J_220 hU_221 hF_222 hG_223 v_224 rv_224 v_225 rv_225 v_226 rv_226 q_227 q_228 hm_229
      exact ms_0 rv_225 hm_229
    | succ n_43 ih_43 =>
      intro I_219 J_220 hU_221 hF_222 hG_223 v_224 rv_224 v_225 rv_225 v_226 rv_226 q_227 q_228 hm_229
      refine g_iload_n C 3 dX12_eaters_43 rfl rfl ?_
      refine g_bipush C (v := 7) dX12_eaters_44 (by decide) ?_
      refine g_icmp_ge C (tgt := 62) dX12_eaters_46 (by decide) (fun h_230 => ?_) (fun h_230 => ?_)
      · skip
        have r_231 := le_r (h_230) rc_7 rv_225
        refine g_iconst C (v := 0) dX12_eaters_62 (by decide) ?_
        refine g_istore_n C dX12_eaters_63 rfl (by decide) (lo2 := [(3, .int 0), (0, .ref x), (1, .int 0), (2, .int v_224)]) rfl ?_
        refine g_lo (is := [1, 2, 3, 0]) (lo2 := [(0, .ref x), (1, .int 0), (2, .int v_224), (3, .int 0)]) rfl ?_
        exact l_64 129 I_219 J_220 hU_221 hF_222 hG_223 0 v_224 (rv_224) 0 (rg_w rc_0 (by decide) (by decide)) v_226 (rv_226) q_227 q_228 (ms_s (a := 0) (b := 128) (N := 129) (rg_w rc_0 (by decide) (by decide)) (by decide))
      · skip
        have r_232 := lt_l (hi := 6) (nle h_230) rv_225 rc_7 (by decide)
        refine g_aload_n C 0 dX12_eaters_49 rfl rfl ?_
        refine g_getR C K hLx hkx f_12_51 hb_2 dX12_eaters_50 ?_
        refine g_iload_n C 3 dX12_eaters_53 rfl rfl ?_
        refine g_iconst C (v := 0) dX12_eaters_54 (by decide) ?_
        refine h_iast C K hb_2L hb_2k (v_225.toNatClampNeg) (rfl) (ix_0 r_232 (by decide)) (ix_lt r_232 (by decide) hb_2n (by decide)) dX12_eaters_55 (fun I_233 hI_233 => ?_)
        have hU_234 := iw_put W9 hU_221 hI_233 (ro_a hb_2k (by decide) hb_2o hkx rfl) (lo := (-2147483648)) (hi := 2147483647) (rfl) (rg_all _) rfl
        have hF_235 := fq_puta hF_222 hI_233 (ro_a hb_2k (by decide) hb_2o hkx rfl) (by decide) (by decide)
        obtain ⟨x_236, hx_236, rx_236, tx_236⟩ := ex_add (y := 1) 1 7 r_232 rc_1 (by decide) (by decide) (by decide) (by decide)
        refine g_iinc C dX12_eaters_56 (k := 3) (v := x_236) rfl hx_236 (by decide) (lo2 := [(3, .int x_236), (0, .ref x), (1, .int 0), (2, .int v_224)]) rfl ?_
        refine g_goto C (tgt := 43) dX12_eaters_59 (by decide) ?_
        refine g_lo (is := [1, 2, 3, 0]) (lo2 := [(0, .ref x), (1, .int 0), (2, .int v_224), (3, .int x_236)]) rfl ?_
        exact ih_43 I_233 J_220 hU_234 hF_235 hG_223 v_224 (rv_224) x_236 (rg_w rx_236 (by decide) (by decide)) v_226 (rv_226) (kp_k (κ := κ) hI_233 (by rw [hkx, hb_2k]; decide) q_227) (kp_r hI_233 (ro_a hb_1k (by decide) hb_1o hkx rfl) (ro_a hb_2k (by decide) hb_2o hkx rfl) (by decide) q_228) (ms_1 hm_229 (ti_k tx_236 rc_1) (by decide))
  refine g_aload_n C 0 dX12_eaters_0 rfl rfl ?_
  refine g_iconst C (v := 0) dX12_eaters_1 (by decide) ?_
  refine h_putI C K hLx hkx f_12_82 p_12_0 dX12_eaters_2 (fun I_237 hI_237 => ?_)
  have hU_238 := iw_put W9 hU hI_237 (ro_o hkx (by decide)) (lo := (-2147483648)) (hi := 2147483647) (rfl) (rg_all _) rfl
  have hF_239 := fq_puto hF hI_237 hkx (by decide) (by decide)
  refine g_aload_n C 0 dX12_eaters_5 rfl rfl ?_
  refine g_callVI C K (c_X12_take W9 hLx hkx   hU_238) hLx hkx (by decide) rfl v_12_162 rfl ⟨rfl, rfl⟩ ⟨Nat.le_of_ble_eq_true rfl, Nat.le_of_ble_eq_true rfl⟩ (Nat.le_of_ble_eq_true rfl) ⟨Nat.le_of_ble_eq_true rfl, Nat.le_of_ble_eq_true rfl⟩ dX12_eaters_6 rfl (st := []) (fun x_240 I_241 J_242 h_243 => ?_)
  obtain ⟨hUI_241, hFI_241, hGJ_242, rx_240⟩ := h_243
  have hF_244 := fq_tr hF_239 hFI_241 (by decide)
  have hG_245 := fq_tr hG hGJ_242 (by decide)
  refine g_iconst C (v := 2) dX12_eaters_9 (by decide) ?_
  refine g_icmp_ne C (tgt := 26) dX12_eaters_10 (by decide) (fun h_246 => ?_) (fun h_246 => ?_)
  · skip
    have n_247 : ¬ x_240 = 2 := h_246
    refine g_iconst C (v := (-1)) dX12_eaters_26 (by decide) ?_
    exact g_zret (ty := .int) (r := (-1)) B K rfl (rfl) ⟨hUI_241, hF_244, hG_245, rg_all _⟩ dX12_eaters_27
  · skip
    have r_248 := (⟨(eq_rg (h_246) rc_2).1, (eq_rg (h_246) rc_2).2⟩ : Rg 2 2 x_240)
    refine g_aload_n C 0 dX12_eaters_13 rfl rfl ?_
    refine g_aload_n C 0 dX12_eaters_14 rfl rfl ?_
    refine g_getR C K hLx hkx f_12_7 hb_1 dX12_eaters_15 ?_
    refine g_iconst C (v := 0) dX12_eaters_18 (by decide) ?_
    obtain ⟨x_249, hx_249, rx_249⟩ := ex_getw (I := I_241) (a := b_1) (j := 0) (lo := 0) (hi := 255) hUI_241.1 hb_1L (ro_a hb_1k (by decide) hb_1o hkx rfl) (rfl)
    refine h_iald C K hb_1L hb_1k (v := x_249) (0) (by decide) (by decide) (by rw [hb_1n]; decide) hx_249 dX12_eaters_19 ?_
    refine g_callVI C K (c_X12_isDish W9 hLx hkx x_249  hUI_241) hLx hkx (by decide) rfl v_12_250 rfl ⟨rfl, rfl⟩ ⟨Nat.le_of_ble_eq_true rfl, Nat.le_of_ble_eq_true rfl⟩ (Nat.le_of_ble_eq_true rfl) ⟨Nat.le_of_ble_eq_true rfl, Nat.le_of_ble_eq_true rfl⟩ dX12_eaters_20 rfl (st := []) (fun x_250 I_251 J_252 h_253 => ?_)
    obtain ⟨rfl, rfl, rx_250, ex_250⟩ := h_253
    refine g_if_ne C (tgt := 28) dX12_eaters_23 (by decide) (fun h_254 => ?_) (fun h_254 => ?_)
    · skip
      have n_255 : ¬ x_250 = 0 := h_254
      have r_256 := ne_lo (lo := 1) n_255 rx_250 rc_0 rfl (by decide)
      have r_257 := rg_i rx_249 ((ex_250) n_255) (lo := 0) (hi := 5) (by decide) (by decide)
      refine g_iconst C (v := 0) dX12_eaters_28 (by decide) ?_
      refine g_istore_n C dX12_eaters_29 rfl (by decide) (lo2 := [(1, .int 0), (0, .ref x)]) rfl ?_
      refine g_iconst C (v := 1) dX12_eaters_30 (by decide) ?_
      refine g_aload_n C 1 dX12_eaters_31 rfl rfl ?_
      refine g_getR C K hLx hkx f_12_13 hb_3 dX12_eaters_32 ?_
      refine g_iconst C (v := 0) dX12_eaters_35 (by decide) ?_
      obtain ⟨x_258, hx_258, rx_258⟩ := ex_getw (I := I_241) (a := b_3) (j := 0) (lo := 0) (hi := 7) hUI_241.1 hb_3L (ro_a hb_3k (by decide) hb_3o hkx rfl) (by decide)
      refine h_iald C K hb_3L hb_3k (v := x_258) (0) (by decide) (by decide) (by rw [hb_3n]; decide) hx_258 dX12_eaters_36 ?_
      obtain ⟨x_259, hx_259, rx_259⟩ := ex_shl (x := 1) (y := x_258) 7 128 rfl (rx_258) (by decide)
      refine g_ishl C (v := x_259) dX12_eaters_37 hx_259 ?_
      refine g_iconst C (v := 1) dX12_eaters_38 (by decide) ?_
      obtain ⟨x_260, hx_260, rx_260, tx_260⟩ := ex_sub 0 127 rx_259 rc_1 (by decide) (by decide) (by decide) (by decide)
      refine g_isub C (v := x_260) dX12_eaters_39 hx_260 ?_
      refine g_istore_n C dX12_eaters_40 rfl (by decide) (lo2 := [(2, .int x_260), (1, .int 0), (0, .ref x)]) rfl ?_
      refine g_iconst C (v := 0) dX12_eaters_41 (by decide) ?_
      refine g_istore_n C dX12_eaters_42 rfl (by decide) (lo2 := [(3, .int 0), (2, .int x_260), (1, .int 0), (0, .ref x)]) rfl ?_
      refine g_lo (is := [3, 2, 1, 0]) (lo2 := [(0, .ref x), (1, .int 0), (2, .int x_260), (3, .int 0)]) rfl ?_
      exact l_43 8 I_241 J_242 hUI_241 hF_244 hG_245 x_260 (rx_260) 0 (rg_w rc_0 (by decide) (by decide)) x_249 (r_257) (fq_at hFI_241 hLx hkx (by decide) (by decide) (kp_s hI_237)) hx_249 (ms_s (a := 0) (b := 7) (N := 8) (rg_w rc_0 (by decide) (by decide)) (by decide))
    · skip
      have r_261 := (⟨(rx_250).1, (eq_rg (h_254) rc_0).2⟩ : Rg 0 0 x_250)
      refine g_iconst C (v := (-1)) dX12_eaters_26 (by decide) ?_
      exact g_zret (ty := .int) (r := (-1)) B K rfl (rfl) ⟨hUI_241, hF_244, hG_245, rg_all _⟩ dX12_eaters_27
set_option maxRecDepth 100000 in
set_option maxHeartbeats 8000000 in
theorem c_X12_end {l : Launch} {D : va_G} {cy : Nat → ClassId} {L : List Nat} {κ ln : Nat → Nat} {R : Nat → Nat → Option Nat} {I : Nat → Nat → Int32} {J : Nat → Nat → Int64} {ow : Nat → Nat × Nat} (W9 : ∀ a ∈ L, Shp L κ ln R ow a) {x : Nat} (hLx : x ∈ L) (hkx : κ x = 12) (a0 : Int32) (hU : Iw L κ R ow I) : CtI l yX12_end cX12_end 2 (some .boolean) { frames := 0, cells := 0, slots := 0, locals := 0 } D cy L κ ln R I J [.ref x, .int a0] (fun r I2 J2 => Iw L κ R ow I2 ∧ Fq L κ ow [1200, 1202] I I2 ∧ Fq L κ ow [] J J2 ∧ Rg 0 1 r) := by
  refine CtI.of (by decide +kernel) (Nat.le_of_ble_eq_true rfl) ?_
  intro p e s m below meth c B K
  have C := B.1
  have hF : Fq L κ ow [1200, 1202] I I := fq_rf
  have hG : Fq L κ ow [] J J := fq_rf
  refine g_lo (is := [0, 1]) (lo2 := [(0, .ref x), (1, .int a0)]) rfl ?_
  refine g_aload_n C 0 dX12_end_0 rfl rfl ?_
  refine g_iconst C (v := 0) dX12_end_1 (by decide) ?_
  refine h_putI C K hLx hkx f_12_82 p_12_0 dX12_end_2 (fun I_1 hI_1 => ?_)
  have hU_2 := iw_put W9 hU hI_1 (ro_o hkx (by decide)) (lo := (-2147483648)) (hi := 2147483647) (rfl) (rg_all _) rfl
  have hF_3 := fq_puto hF hI_1 hkx (by decide) (by decide)
  refine g_iload_n C 1 dX12_end_5 rfl rfl ?_
  refine g_if_lt C (tgt := 17) dX12_end_6 (by decide) (fun h_4 => ?_) (fun h_4 => ?_)
  · skip
    have r_5 := lt_l (hi := (-1)) (h_4) (rg_all a0) rc_0 (by decide)
    refine g_iconst C (v := 0) dX12_end_17 (by decide) ?_
    exact g_zret (ty := .boolean) (r := 0) B K rfl (rfl) ⟨hU_2, hF_3, hG, rg_w rc_0 (by decide) (by decide)⟩ dX12_end_18
  · skip
    have r_6 := le_r (nlt h_4) rc_0 (rg_all a0)
    refine g_iload_n C 1 dX12_end_9 rfl rfl ?_
    refine g_aload_n C 0 dX12_end_10 rfl rfl ?_
    obtain ⟨x_7, hx_7, rx_7⟩ := ex_getw (I := I_1) (a := x) (j := 2) (lo := 0) (hi := 940) hU_2.1 hLx (ro_o hkx (by decide)) rfl
    refine g_getI C K hLx hkx f_12_85 (v := x_7) hx_7 dX12_end_11 ?_
    refine g_icmp_le C (tgt := 19) dX12_end_14 (by decide) (fun h_8 => ?_) (fun h_8 => ?_)
    · skip
      have r_9 := le_l (h_8) r_6 rx_7
      refine g_aload_n C 0 dX12_end_19 rfl rfl ?_
      refine g_iload_n C 1 dX12_end_20 rfl rfl ?_
      refine h_putI C K hLx hkx f_12_85 p_12_2 dX12_end_21 (fun I_10 hI_10 => ?_)
      have hU_11 := iw_put W9 hU_2 hI_10 (ro_o hkx (by decide)) (lo := 0) (hi := 940) (rfl) (r_9) rfl
      have hF_12 := fq_puto hF_3 hI_10 hkx (by decide) (by decide)
      refine g_iconst C (v := 1) dX12_end_24 (by decide) ?_
      exact g_zret (ty := .boolean) (r := 1) B K rfl (rfl) ⟨hU_11, hF_12, hG, rg_w rc_1 (by decide) (by decide)⟩ dX12_end_25
    · skip
      have r_13 := lt_r (lo := 1) (nle h_8) rx_7 r_6 (by decide)
      refine g_iconst C (v := 0) dX12_end_17 (by decide) ?_
      exact g_zret (ty := .boolean) (r := 0) B K rfl (rfl) ⟨hU_2, hF_3, hG, rg_w rc_0 (by decide) (by decide)⟩ dX12_end_18
