theorem dX12_bad_0 : decode cX12_bad 0 = .ok (.aload_n 0, 1) := by decide +kernel
theorem dX12_bad_1 : decode cX12_bad 1 = .ok (.aload_n 0, 1) := by decide +kernel
theorem dX12_bad_2 : decode cX12_bad 2 = .ok (.getfield 104, 3) := by decide +kernel
theorem dX12_bad_5 : decode cX12_bad 5 = .ok (.iconst 1, 1) := by decide +kernel
theorem dX12_bad_6 : decode cX12_bad 6 = .ok (.if_icmp .ne 7, 3) := by decide +kernel
theorem dX12_bad_9 : decode cX12_bad 9 = .ok (.iconst 1, 1) := by decide +kernel
theorem dX12_bad_10 : decode cX12_bad 10 = .ok (.goto 4, 3) := by decide +kernel
theorem dX12_bad_13 : decode cX12_bad 13 = .ok (.iload_n 1, 1) := by decide +kernel
theorem dX12_bad_14 : decode cX12_bad 14 = .ok (.putfield 140, 3) := by decide +kernel
theorem dX12_bad_17 : decode cX12_bad 17 = .ok (.aload_n 0, 1) := by decide +kernel
theorem dX12_bad_18 : decode cX12_bad 18 = .ok (.aload_n 0, 1) := by decide +kernel
theorem dX12_bad_19 : decode cX12_bad 19 = .ok (.getfield 98, 3) := by decide +kernel
theorem dX12_bad_22 : decode cX12_bad 22 = .ok (.putfield 143, 3) := by decide +kernel
theorem dX12_bad_25 : decode cX12_bad 25 = .ok (.iconst 0, 1) := by decide +kernel
theorem dX12_bad_26 : decode cX12_bad 26 = .ok (.ireturn, 1) := by decide +kernel
theorem dX12_begin_0 : decode cX12_begin 0 = .ok (.aload_n 0, 1) := by decide +kernel
theorem dX12_begin_1 : decode cX12_begin 1 = .ok (.iconst 0, 1) := by decide +kernel
theorem dX12_begin_2 : decode cX12_begin 2 = .ok (.putfield 82, 3) := by decide +kernel
theorem dX12_begin_5 : decode cX12_begin 5 = .ok (.aload_n 0, 1) := by decide +kernel
theorem dX12_begin_6 : decode cX12_begin 6 = .ok (.aload_n 0, 1) := by decide +kernel
theorem dX12_begin_7 : decode cX12_begin 7 = .ok (.invokevirtual 162, 3) := by decide +kernel
theorem dX12_begin_10 : decode cX12_begin 10 = .ok (.putfield 92, 3) := by decide +kernel
theorem dX12_begin_13 : decode cX12_begin 13 = .ok (.aload_n 0, 1) := by decide +kernel
theorem dX12_begin_14 : decode cX12_begin 14 = .ok (.iload_n 1, 1) := by decide +kernel
theorem dX12_begin_15 : decode cX12_begin 15 = .ok (.putfield 101, 3) := by decide +kernel
theorem dX12_begin_18 : decode cX12_begin 18 = .ok (.aload_n 0, 1) := by decide +kernel
theorem dX12_begin_19 : decode cX12_begin 19 = .ok (.iconst 0, 1) := by decide +kernel
theorem dX12_begin_20 : decode cX12_begin 20 = .ok (.putfield 140, 3) := by decide +kernel
theorem dX12_begin_23 : decode cX12_begin 23 = .ok (.aload_n 0, 1) := by decide +kernel
theorem dX12_begin_24 : decode cX12_begin 24 = .ok (.iconst 0, 1) := by decide +kernel
theorem dX12_begin_25 : decode cX12_begin 25 = .ok (.putfield 95, 3) := by decide +kernel
theorem dX12_begin_28 : decode cX12_begin 28 = .ok (.aload_n 0, 1) := by decide +kernel
theorem dX12_begin_29 : decode cX12_begin 29 = .ok (.invokevirtual 156, 3) := by decide +kernel
theorem dX12_begin_32 : decode cX12_begin 32 = .ok (.return_, 1) := by decide +kernel
theorem dX12_come_0 : decode cX12_come 0 = .ok (.bipush 24, 2) := by decide +kernel
theorem dX12_come_2 : decode cX12_come 2 = .ok (.istore_n 2, 1) := by decide +kernel
theorem dX12_come_3 : decode cX12_come 3 = .ok (.iload_n 2, 1) := by decide +kernel
theorem dX12_come_4 : decode cX12_come 4 = .ok (.ifCond .lt 35, 3) := by decide +kernel
theorem dX12_come_7 : decode cX12_come 7 = .ok (.aload_n 0, 1) := by decide +kernel
theorem dX12_come_8 : decode cX12_come 8 = .ok (.getfield 7, 3) := by decide +kernel
theorem dX12_come_11 : decode cX12_come 11 = .ok (.aload_n 0, 1) := by decide +kernel
theorem dX12_come_12 : decode cX12_come 12 = .ok (.getfield 85, 3) := by decide +kernel
theorem dX12_come_15 : decode cX12_come 15 = .ok (.iload_n 1, 1) := by decide +kernel
theorem dX12_come_16 : decode cX12_come 16 = .ok (.iload_n 2, 1) := by decide +kernel
theorem dX12_come_17 : decode cX12_come 17 = .ok (.iushr, 1) := by decide +kernel
theorem dX12_come_18 : decode cX12_come 18 = .ok (.sipush 255, 3) := by decide +kernel
theorem dX12_come_21 : decode cX12_come 21 = .ok (.iand, 1) := by decide +kernel
theorem dX12_come_22 : decode cX12_come 22 = .ok (.iastore, 1) := by decide +kernel
theorem dX12_come_23 : decode cX12_come 23 = .ok (.aload_n 0, 1) := by decide +kernel
theorem dX12_come_24 : decode cX12_come 24 = .ok (.dup, 1) := by decide +kernel
theorem dX12_come_25 : decode cX12_come 25 = .ok (.getfield 85, 3) := by decide +kernel
theorem dX12_come_28 : decode cX12_come 28 = .ok (.iconst 1, 1) := by decide +kernel
theorem dX12_come_29 : decode cX12_come 29 = .ok (.iadd, 1) := by decide +kernel
theorem dX12_come_30 : decode cX12_come 30 = .ok (.putfield 85, 3) := by decide +kernel
theorem dX12_come_33 : decode cX12_come 33 = .ok (.iinc 2 (-8), 3) := by decide +kernel
theorem dX12_come_36 : decode cX12_come 36 = .ok (.goto (-33), 3) := by decide +kernel
theorem dX12_come_39 : decode cX12_come 39 = .ok (.return_, 1) := by decide +kernel
theorem dX12_end_0 : decode cX12_end 0 = .ok (.aload_n 0, 1) := by decide +kernel
theorem dX12_end_1 : decode cX12_end 1 = .ok (.iconst 0, 1) := by decide +kernel
theorem dX12_end_2 : decode cX12_end 2 = .ok (.putfield 82, 3) := by decide +kernel
theorem dX12_end_5 : decode cX12_end 5 = .ok (.iload_n 1, 1) := by decide +kernel
theorem dX12_end_6 : decode cX12_end 6 = .ok (.ifCond .lt 11, 3) := by decide +kernel
theorem dX12_end_9 : decode cX12_end 9 = .ok (.iload_n 1, 1) := by decide +kernel
theorem dX12_end_10 : decode cX12_end 10 = .ok (.aload_n 0, 1) := by decide +kernel
theorem dX12_end_11 : decode cX12_end 11 = .ok (.getfield 85, 3) := by decide +kernel
theorem dX12_end_14 : decode cX12_end 14 = .ok (.if_icmp .le 5, 3) := by decide +kernel
theorem dX12_end_17 : decode cX12_end 17 = .ok (.iconst 0, 1) := by decide +kernel
theorem dX12_end_18 : decode cX12_end 18 = .ok (.ireturn, 1) := by decide +kernel
theorem dX12_end_19 : decode cX12_end 19 = .ok (.aload_n 0, 1) := by decide +kernel
theorem dX12_end_20 : decode cX12_end 20 = .ok (.iload_n 1, 1) := by decide +kernel
theorem dX12_end_21 : decode cX12_end 21 = .ok (.putfield 85, 3) := by decide +kernel
theorem dX12_end_24 : decode cX12_end 24 = .ok (.iconst 1, 1) := by decide +kernel
theorem dX12_end_25 : decode cX12_end 25 = .ok (.ireturn, 1) := by decide +kernel
theorem dX12_feed_0 : decode cX12_feed 0 = .ok (.aload_n 0, 1) := by decide +kernel
theorem dX12_feed_1 : decode cX12_feed 1 = .ok (.iconst 0, 1) := by decide +kernel
theorem dX12_feed_2 : decode cX12_feed 2 = .ok (.putfield 82, 3) := by decide +kernel
theorem dX12_feed_5 : decode cX12_feed 5 = .ok (.aload_n 0, 1) := by decide +kernel
theorem dX12_feed_6 : decode cX12_feed 6 = .ok (.getfield 85, 3) := by decide +kernel
theorem dX12_feed_9 : decode cX12_feed 9 = .ok (.bipush 20, 2) := by decide +kernel
theorem dX12_feed_11 : decode cX12_feed 11 = .ok (.iadd, 1) := by decide +kernel
theorem dX12_feed_12 : decode cX12_feed 12 = .ok (.sipush 940, 3) := by decide +kernel
theorem dX12_feed_15 : decode cX12_feed 15 = .ok (.if_icmp .le 5, 3) := by decide +kernel
theorem dX12_feed_18 : decode cX12_feed 18 = .ok (.iconst (-1), 1) := by decide +kernel
theorem dX12_feed_19 : decode cX12_feed 19 = .ok (.ireturn, 1) := by decide +kernel
theorem dX12_feed_20 : decode cX12_feed 20 = .ok (.aload_n 0, 1) := by decide +kernel
theorem dX12_feed_21 : decode cX12_feed 21 = .ok (.iload_n 1, 1) := by decide +kernel
theorem dX12_feed_22 : decode cX12_feed 22 = .ok (.invokevirtual 88, 3) := by decide +kernel
theorem dX12_feed_25 : decode cX12_feed 25 = .ok (.aload_n 0, 1) := by decide +kernel
theorem dX12_feed_26 : decode cX12_feed 26 = .ok (.iload_n 2, 1) := by decide +kernel
theorem dX12_feed_27 : decode cX12_feed 27 = .ok (.invokevirtual 88, 3) := by decide +kernel
theorem dX12_feed_30 : decode cX12_feed 30 = .ok (.aload_n 0, 1) := by decide +kernel
theorem dX12_feed_31 : decode cX12_feed 31 = .ok (.iload_n 3, 1) := by decide +kernel
theorem dX12_feed_32 : decode cX12_feed 32 = .ok (.invokevirtual 88, 3) := by decide +kernel
theorem dX12_feed_35 : decode cX12_feed 35 = .ok (.aload_n 0, 1) := by decide +kernel
theorem dX12_feed_36 : decode cX12_feed 36 = .ok (.iload 4, 2) := by decide +kernel
theorem dX12_feed_38 : decode cX12_feed 38 = .ok (.invokevirtual 88, 3) := by decide +kernel
theorem dX12_feed_41 : decode cX12_feed 41 = .ok (.aload_n 0, 1) := by decide +kernel
theorem dX12_feed_42 : decode cX12_feed 42 = .ok (.iload 5, 2) := by decide +kernel
theorem dX12_feed_44 : decode cX12_feed 44 = .ok (.invokevirtual 88, 3) := by decide +kernel
theorem dX12_feed_47 : decode cX12_feed 47 = .ok (.aload_n 0, 1) := by decide +kernel
theorem dX12_feed_48 : decode cX12_feed 48 = .ok (.getfield 85, 3) := by decide +kernel
theorem dX12_feed_51 : decode cX12_feed 51 = .ok (.ireturn, 1) := by decide +kernel
theorem dX12_go_0 : decode cX12_go 0 = .ok (.aload_n 0, 1) := by decide +kernel
theorem dX12_go_1 : decode cX12_go 1 = .ok (.getfield 95, 3) := by decide +kernel
theorem dX12_go_4 : decode cX12_go 4 = .ok (.aload_n 0, 1) := by decide +kernel
theorem dX12_go_5 : decode cX12_go 5 = .ok (.getfield 92, 3) := by decide +kernel
theorem dX12_go_8 : decode cX12_go 8 = .ok (.if_icmp .ge 44, 3) := by decide +kernel
theorem dX12_go_11 : decode cX12_go 11 = .ok (.aload_n 0, 1) := by decide +kernel
theorem dX12_go_12 : decode cX12_go 12 = .ok (.getfield 7, 3) := by decide +kernel
theorem dX12_go_15 : decode cX12_go 15 = .ok (.aload_n 0, 1) := by decide +kernel
theorem dX12_go_16 : decode cX12_go 16 = .ok (.getfield 95, 3) := by decide +kernel
theorem dX12_go_19 : decode cX12_go 19 = .ok (.iaload, 1) := by decide +kernel
theorem dX12_go_20 : decode cX12_go 20 = .ok (.bipush 32, 2) := by decide +kernel
theorem dX12_go_22 : decode cX12_go 22 = .ok (.if_icmp .eq 17, 3) := by decide +kernel
theorem dX12_go_25 : decode cX12_go 25 = .ok (.aload_n 0, 1) := by decide +kernel
theorem dX12_go_26 : decode cX12_go 26 = .ok (.getfield 7, 3) := by decide +kernel
theorem dX12_go_29 : decode cX12_go 29 = .ok (.aload_n 0, 1) := by decide +kernel
theorem dX12_go_30 : decode cX12_go 30 = .ok (.getfield 95, 3) := by decide +kernel
theorem dX12_go_33 : decode cX12_go 33 = .ok (.iaload, 1) := by decide +kernel
theorem dX12_go_34 : decode cX12_go 34 = .ok (.bipush 10, 2) := by decide +kernel
theorem dX12_go_36 : decode cX12_go 36 = .ok (.if_icmp .ne 16, 3) := by decide +kernel
theorem dX12_go_39 : decode cX12_go 39 = .ok (.aload_n 0, 1) := by decide +kernel
theorem dX12_go_40 : decode cX12_go 40 = .ok (.dup, 1) := by decide +kernel
theorem dX12_go_41 : decode cX12_go 41 = .ok (.getfield 95, 3) := by decide +kernel
theorem dX12_go_44 : decode cX12_go 44 = .ok (.iconst 1, 1) := by decide +kernel
theorem dX12_go_45 : decode cX12_go 45 = .ok (.iadd, 1) := by decide +kernel
theorem dX12_go_46 : decode cX12_go 46 = .ok (.putfield 95, 3) := by decide +kernel
theorem dX12_go_49 : decode cX12_go 49 = .ok (.goto (-49), 3) := by decide +kernel
theorem dX12_go_52 : decode cX12_go 52 = .ok (.aload_n 0, 1) := by decide +kernel
theorem dX12_go_53 : decode cX12_go 53 = .ok (.aload_n 0, 1) := by decide +kernel
theorem dX12_go_54 : decode cX12_go 54 = .ok (.getfield 95, 3) := by decide +kernel
theorem dX12_go_57 : decode cX12_go 57 = .ok (.putfield 98, 3) := by decide +kernel
theorem dX12_go_60 : decode cX12_go 60 = .ok (.aload_n 0, 1) := by decide +kernel
theorem dX12_go_61 : decode cX12_go 61 = .ok (.getfield 92, 3) := by decide +kernel
theorem dX12_go_64 : decode cX12_go 64 = .ok (.aload_n 0, 1) := by decide +kernel
theorem dX12_go_65 : decode cX12_go 65 = .ok (.getfield 101, 3) := by decide +kernel
theorem dX12_go_68 : decode cX12_go 68 = .ok (.if_icmp .le 28, 3) := by decide +kernel
theorem dX12_go_71 : decode cX12_go 71 = .ok (.aload_n 0, 1) := by decide +kernel
theorem dX12_go_72 : decode cX12_go 72 = .ok (.getfield 98, 3) := by decide +kernel
theorem dX12_go_75 : decode cX12_go 75 = .ok (.aload_n 0, 1) := by decide +kernel
theorem dX12_go_76 : decode cX12_go 76 = .ok (.getfield 101, 3) := by decide +kernel
theorem dX12_go_79 : decode cX12_go 79 = .ok (.if_icmp .lt 17, 3) := by decide +kernel
theorem dX12_go_82 : decode cX12_go 82 = .ok (.aload_n 0, 1) := by decide +kernel
theorem dX12_go_83 : decode cX12_go 83 = .ok (.aload_n 0, 1) := by decide +kernel
theorem dX12_go_84 : decode cX12_go 84 = .ok (.getfield 101, 3) := by decide +kernel
theorem dX12_go_87 : decode cX12_go 87 = .ok (.putfield 98, 3) := by decide +kernel
theorem dX12_go_90 : decode cX12_go 90 = .ok (.aload_n 0, 1) := by decide +kernel
theorem dX12_go_91 : decode cX12_go 91 = .ok (.iconst 1, 1) := by decide +kernel
theorem dX12_go_92 : decode cX12_go 92 = .ok (.putfield 104, 3) := by decide +kernel
theorem dX12_go_95 : decode cX12_go 95 = .ok (.return_, 1) := by decide +kernel
theorem dX12_go_96 : decode cX12_go 96 = .ok (.aload_n 0, 1) := by decide +kernel
theorem dX12_go_97 : decode cX12_go 97 = .ok (.getfield 95, 3) := by decide +kernel
theorem dX12_go_100 : decode cX12_go 100 = .ok (.aload_n 0, 1) := by decide +kernel
theorem dX12_go_101 : decode cX12_go 101 = .ok (.getfield 92, 3) := by decide +kernel
theorem dX12_go_104 : decode cX12_go 104 = .ok (.if_icmp .lt 9, 3) := by decide +kernel
theorem dX12_go_107 : decode cX12_go 107 = .ok (.aload_n 0, 1) := by decide +kernel
theorem dX12_go_108 : decode cX12_go 108 = .ok (.iconst 0, 1) := by decide +kernel
theorem dX12_go_109 : decode cX12_go 109 = .ok (.putfield 104, 3) := by decide +kernel
theorem dX12_go_112 : decode cX12_go 112 = .ok (.return_, 1) := by decide +kernel
theorem dX12_go_113 : decode cX12_go 113 = .ok (.aload_n 0, 1) := by decide +kernel
theorem dX12_go_114 : decode cX12_go 114 = .ok (.getfield 7, 3) := by decide +kernel
theorem dX12_go_117 : decode cX12_go 117 = .ok (.aload_n 0, 1) := by decide +kernel
theorem dX12_go_118 : decode cX12_go 118 = .ok (.getfield 95, 3) := by decide +kernel
theorem dX12_go_121 : decode cX12_go 121 = .ok (.iaload, 1) := by decide +kernel
theorem dX12_go_122 : decode cX12_go 122 = .ok (.istore_n 1, 1) := by decide +kernel
theorem dX12_go_123 : decode cX12_go 123 = .ok (.iload_n 1, 1) := by decide +kernel
theorem dX12_go_124 : decode cX12_go 124 = .ok (.invokestatic 107, 3) := by decide +kernel
theorem dX12_go_127 : decode cX12_go 127 = .ok (.ifCond .ne 71, 3) := by decide +kernel
theorem dX12_go_130 : decode cX12_go 130 = .ok (.iload_n 1, 1) := by decide +kernel
theorem dX12_go_131 : decode cX12_go 131 = .ok (.invokestatic 111, 3) := by decide +kernel
theorem dX12_go_134 : decode cX12_go 134 = .ok (.ifCond .ne 64, 3) := by decide +kernel
theorem dX12_go_137 : decode cX12_go 137 = .ok (.aload_n 0, 1) := by decide +kernel
theorem dX12_go_138 : decode cX12_go 138 = .ok (.iload_n 1, 1) := by decide +kernel
theorem dX12_go_139 : decode cX12_go 139 = .ok (.bipush 59, 2) := by decide +kernel
theorem dX12_go_141 : decode cX12_go 141 = .ok (.if_icmp .eq 33, 3) := by decide +kernel
theorem dX12_go_144 : decode cX12_go 144 = .ok (.iload_n 1, 1) := by decide +kernel
theorem dX12_go_145 : decode cX12_go 145 = .ok (.bipush 60, 2) := by decide +kernel
theorem dX12_go_147 : decode cX12_go 147 = .ok (.if_icmp .eq 27, 3) := by decide +kernel
theorem dX12_go_150 : decode cX12_go 150 = .ok (.iload_n 1, 1) := by decide +kernel
theorem dX12_go_151 : decode cX12_go 151 = .ok (.bipush 61, 2) := by decide +kernel
theorem dX12_go_153 : decode cX12_go 153 = .ok (.if_icmp .eq 21, 3) := by decide +kernel
theorem dX12_go_156 : decode cX12_go 156 = .ok (.iload_n 1, 1) := by decide +kernel
theorem dX12_go_157 : decode cX12_go 157 = .ok (.bipush 62, 2) := by decide +kernel
theorem dX12_go_159 : decode cX12_go 159 = .ok (.if_icmp .eq 15, 3) := by decide +kernel
theorem dX12_go_162 : decode cX12_go 162 = .ok (.iload_n 1, 1) := by decide +kernel
theorem dX12_go_163 : decode cX12_go 163 = .ok (.bipush 40, 2) := by decide +kernel
theorem dX12_go_165 : decode cX12_go 165 = .ok (.if_icmp .eq 9, 3) := by decide +kernel
theorem dX12_go_168 : decode cX12_go 168 = .ok (.iload_n 1, 1) := by decide +kernel
theorem dX12_go_169 : decode cX12_go 169 = .ok (.bipush 41, 2) := by decide +kernel
theorem dX12_go_171 : decode cX12_go 171 = .ok (.if_icmp .ne 7, 3) := by decide +kernel
theorem dX12_go_174 : decode cX12_go 174 = .ok (.iconst 4, 1) := by decide +kernel
theorem dX12_go_175 : decode cX12_go 175 = .ok (.goto 4, 3) := by decide +kernel
theorem dX12_go_178 : decode cX12_go 178 = .ok (.iconst 1, 1) := by decide +kernel
theorem dX12_go_179 : decode cX12_go 179 = .ok (.putfield 104, 3) := by decide +kernel
theorem dX12_go_182 : decode cX12_go 182 = .ok (.aload_n 0, 1) := by decide +kernel
theorem dX12_go_183 : decode cX12_go 183 = .ok (.iload_n 1, 1) := by decide +kernel
theorem dX12_go_184 : decode cX12_go 184 = .ok (.putfield 114, 3) := by decide +kernel
theorem dX12_go_187 : decode cX12_go 187 = .ok (.aload_n 0, 1) := by decide +kernel
theorem dX12_go_188 : decode cX12_go 188 = .ok (.dup, 1) := by decide +kernel
theorem dX12_go_189 : decode cX12_go 189 = .ok (.getfield 95, 3) := by decide +kernel
theorem dX12_go_192 : decode cX12_go 192 = .ok (.iconst 1, 1) := by decide +kernel
theorem dX12_go_193 : decode cX12_go 193 = .ok (.iadd, 1) := by decide +kernel
theorem dX12_go_194 : decode cX12_go 194 = .ok (.putfield 95, 3) := by decide +kernel
theorem dX12_go_197 : decode cX12_go 197 = .ok (.return_, 1) := by decide +kernel
theorem dX12_go_198 : decode cX12_go 198 = .ok (.iload_n 1, 1) := by decide +kernel
theorem dX12_go_199 : decode cX12_go 199 = .ok (.invokestatic 107, 3) := by decide +kernel
theorem dX12_go_202 : decode cX12_go 202 = .ok (.istore_n 2, 1) := by decide +kernel
theorem dX12_go_203 : decode cX12_go 203 = .ok (.iconst 1, 1) := by decide +kernel
theorem dX12_go_204 : decode cX12_go 204 = .ok (.istore_n 3, 1) := by decide +kernel
theorem dX12_go_205 : decode cX12_go 205 = .ok (.aload_n 0, 1) := by decide +kernel
theorem dX12_go_206 : decode cX12_go 206 = .ok (.lconst 0, 1) := by decide +kernel
theorem dX12_go_207 : decode cX12_go 207 = .ok (.putfield 117, 3) := by decide +kernel
theorem dX12_go_210 : decode cX12_go 210 = .ok (.aload_n 0, 1) := by decide +kernel
theorem dX12_go_211 : decode cX12_go 211 = .ok (.iconst 0, 1) := by decide +kernel
theorem dX12_go_212 : decode cX12_go 212 = .ok (.putfield 121, 3) := by decide +kernel
theorem dX12_go_215 : decode cX12_go 215 = .ok (.aload_n 0, 1) := by decide +kernel
theorem dX12_go_216 : decode cX12_go 216 = .ok (.aload_n 0, 1) := by decide +kernel
theorem dX12_go_217 : decode cX12_go 217 = .ok (.getfield 95, 3) := by decide +kernel
theorem dX12_go_220 : decode cX12_go 220 = .ok (.invokevirtual 124, 3) := by decide +kernel
theorem dX12_go_223 : decode cX12_go 223 = .ok (.invokestatic 107, 3) := by decide +kernel
theorem dX12_go_226 : decode cX12_go 226 = .ok (.ifCond .ne 17, 3) := by decide +kernel
theorem dX12_go_229 : decode cX12_go 229 = .ok (.aload_n 0, 1) := by decide +kernel
theorem dX12_go_230 : decode cX12_go 230 = .ok (.aload_n 0, 1) := by decide +kernel
theorem dX12_go_231 : decode cX12_go 231 = .ok (.getfield 95, 3) := by decide +kernel
theorem dX12_go_234 : decode cX12_go 234 = .ok (.invokevirtual 124, 3) := by decide +kernel
theorem dX12_go_237 : decode cX12_go 237 = .ok (.invokestatic 111, 3) := by decide +kernel
theorem dX12_go_240 : decode cX12_go 240 = .ok (.ifCond .eq 110, 3) := by decide +kernel
theorem dX12_go_243 : decode cX12_go 243 = .ok (.aload_n 0, 1) := by decide +kernel
theorem dX12_go_244 : decode cX12_go 244 = .ok (.getfield 7, 3) := by decide +kernel
theorem dX12_go_247 : decode cX12_go 247 = .ok (.aload_n 0, 1) := by decide +kernel
theorem dX12_go_248 : decode cX12_go 248 = .ok (.getfield 95, 3) := by decide +kernel
theorem dX12_go_251 : decode cX12_go 251 = .ok (.iaload, 1) := by decide +kernel
theorem dX12_go_252 : decode cX12_go 252 = .ok (.istore 4, 2) := by decide +kernel
theorem dX12_go_254 : decode cX12_go 254 = .ok (.iload_n 3, 1) := by decide +kernel
theorem dX12_go_255 : decode cX12_go 255 = .ok (.ifCond .eq 16, 3) := by decide +kernel
theorem dX12_go_258 : decode cX12_go 258 = .ok (.iload 4, 2) := by decide +kernel
theorem dX12_go_260 : decode cX12_go 260 = .ok (.invokestatic 107, 3) := by decide +kernel
theorem dX12_go_263 : decode cX12_go 263 = .ok (.iload_n 2, 1) := by decide +kernel
theorem dX12_go_264 : decode cX12_go 264 = .ok (.if_icmp .ne 7, 3) := by decide +kernel
theorem dX12_go_267 : decode cX12_go 267 = .ok (.iconst 1, 1) := by decide +kernel
theorem dX12_go_268 : decode cX12_go 268 = .ok (.goto 4, 3) := by decide +kernel
theorem dX12_go_271 : decode cX12_go 271 = .ok (.iconst 0, 1) := by decide +kernel
theorem dX12_go_272 : decode cX12_go 272 = .ok (.istore_n 3, 1) := by decide +kernel
theorem dX12_go_273 : decode cX12_go 273 = .ok (.aload_n 0, 1) := by decide +kernel
theorem dX12_go_274 : decode cX12_go 274 = .ok (.getfield 95, 3) := by decide +kernel
theorem dX12_go_277 : decode cX12_go 277 = .ok (.aload_n 0, 1) := by decide +kernel
theorem dX12_go_278 : decode cX12_go 278 = .ok (.getfield 98, 3) := by decide +kernel
theorem dX12_go_281 : decode cX12_go 281 = .ok (.isub, 1) := by decide +kernel
theorem dX12_go_282 : decode cX12_go 282 = .ok (.bipush 7, 2) := by decide +kernel
theorem dX12_go_284 : decode cX12_go 284 = .ok (.if_icmp .ge 23, 3) := by decide +kernel
theorem dX12_go_287 : decode cX12_go 287 = .ok (.aload_n 0, 1) := by decide +kernel
theorem dX12_go_288 : decode cX12_go 288 = .ok (.ldc2_w 128, 3) := by decide +kernel
theorem dX12_go_291 : decode cX12_go 291 = .ok (.aload_n 0, 1) := by decide +kernel
theorem dX12_go_292 : decode cX12_go 292 = .ok (.getfield 117, 3) := by decide +kernel
theorem dX12_go_295 : decode cX12_go 295 = .ok (.lmul, 1) := by decide +kernel
theorem dX12_go_296 : decode cX12_go 296 = .ok (.iload 4, 2) := by decide +kernel
theorem dX12_go_298 : decode cX12_go 298 = .ok (.i2l, 1) := by decide +kernel
theorem dX12_go_299 : decode cX12_go 299 = .ok (.ladd, 1) := by decide +kernel
theorem dX12_go_300 : decode cX12_go 300 = .ok (.ldc2_w 130, 3) := by decide +kernel
theorem dX12_go_303 : decode cX12_go 303 = .ok (.lsub, 1) := by decide +kernel
theorem dX12_go_304 : decode cX12_go 304 = .ok (.putfield 117, 3) := by decide +kernel
theorem dX12_go_307 : decode cX12_go 307 = .ok (.aload_n 0, 1) := by decide +kernel
theorem dX12_go_308 : decode cX12_go 308 = .ok (.getfield 95, 3) := by decide +kernel
theorem dX12_go_311 : decode cX12_go 311 = .ok (.aload_n 0, 1) := by decide +kernel
theorem dX12_go_312 : decode cX12_go 312 = .ok (.getfield 98, 3) := by decide +kernel
theorem dX12_go_315 : decode cX12_go 315 = .ok (.isub, 1) := by decide +kernel
theorem dX12_go_316 : decode cX12_go 316 = .ok (.iconst 3, 1) := by decide +kernel
theorem dX12_go_317 : decode cX12_go 317 = .ok (.if_icmp .ge 20, 3) := by decide +kernel
theorem dX12_go_320 : decode cX12_go 320 = .ok (.aload_n 0, 1) := by decide +kernel
theorem dX12_go_321 : decode cX12_go 321 = .ok (.bipush 10, 2) := by decide +kernel
theorem dX12_go_323 : decode cX12_go 323 = .ok (.aload_n 0, 1) := by decide +kernel
theorem dX12_go_324 : decode cX12_go 324 = .ok (.getfield 121, 3) := by decide +kernel
theorem dX12_go_327 : decode cX12_go 327 = .ok (.imul, 1) := by decide +kernel
theorem dX12_go_328 : decode cX12_go 328 = .ok (.iload 4, 2) := by decide +kernel
theorem dX12_go_330 : decode cX12_go 330 = .ok (.iadd, 1) := by decide +kernel
theorem dX12_go_331 : decode cX12_go 331 = .ok (.bipush 48, 2) := by decide +kernel
theorem dX12_go_333 : decode cX12_go 333 = .ok (.isub, 1) := by decide +kernel
theorem dX12_go_334 : decode cX12_go 334 = .ok (.putfield 121, 3) := by decide +kernel
theorem dX12_go_337 : decode cX12_go 337 = .ok (.aload_n 0, 1) := by decide +kernel
theorem dX12_go_338 : decode cX12_go 338 = .ok (.dup, 1) := by decide +kernel
theorem dX12_go_339 : decode cX12_go 339 = .ok (.getfield 95, 3) := by decide +kernel
theorem dX12_go_342 : decode cX12_go 342 = .ok (.iconst 1, 1) := by decide +kernel
theorem dX12_go_343 : decode cX12_go 343 = .ok (.iadd, 1) := by decide +kernel
theorem dX12_go_344 : decode cX12_go 344 = .ok (.putfield 95, 3) := by decide +kernel
theorem dX12_go_347 : decode cX12_go 347 = .ok (.goto (-132), 3) := by decide +kernel
theorem dX12_go_350 : decode cX12_go 350 = .ok (.aload_n 0, 1) := by decide +kernel
theorem dX12_go_351 : decode cX12_go 351 = .ok (.iload_n 3, 1) := by decide +kernel
theorem dX12_go_352 : decode cX12_go 352 = .ok (.ifCond .eq 25, 3) := by decide +kernel
theorem dX12_go_355 : decode cX12_go 355 = .ok (.aload_n 0, 1) := by decide +kernel
theorem dX12_go_356 : decode cX12_go 356 = .ok (.getfield 95, 3) := by decide +kernel
theorem dX12_go_359 : decode cX12_go 359 = .ok (.aload_n 0, 1) := by decide +kernel
theorem dX12_go_360 : decode cX12_go 360 = .ok (.getfield 98, 3) := by decide +kernel
theorem dX12_go_363 : decode cX12_go 363 = .ok (.isub, 1) := by decide +kernel
theorem dX12_go_364 : decode cX12_go 364 = .ok (.iload_n 2, 1) := by decide +kernel
theorem dX12_go_365 : decode cX12_go 365 = .ok (.ifCond .eq 8, 3) := by decide +kernel
theorem dX12_go_368 : decode cX12_go 368 = .ok (.bipush 7, 2) := by decide +kernel
theorem dX12_go_370 : decode cX12_go 370 = .ok (.goto 4, 3) := by decide +kernel
theorem dX12_go_373 : decode cX12_go 373 = .ok (.iconst 3, 1) := by decide +kernel
theorem dX12_go_374 : decode cX12_go 374 = .ok (.if_icmp .le 7, 3) := by decide +kernel
theorem dX12_go_377 : decode cX12_go 377 = .ok (.iconst 1, 1) := by decide +kernel
theorem dX12_go_378 : decode cX12_go 378 = .ok (.goto 12, 3) := by decide +kernel
theorem dX12_go_381 : decode cX12_go 381 = .ok (.iload_n 2, 1) := by decide +kernel
theorem dX12_go_382 : decode cX12_go 382 = .ok (.ifCond .eq 7, 3) := by decide +kernel
theorem dX12_go_385 : decode cX12_go 385 = .ok (.iconst 2, 1) := by decide +kernel
theorem dX12_go_386 : decode cX12_go 386 = .ok (.goto 4, 3) := by decide +kernel
theorem dX12_go_389 : decode cX12_go 389 = .ok (.iconst 3, 1) := by decide +kernel
theorem dX12_go_390 : decode cX12_go 390 = .ok (.putfield 104, 3) := by decide +kernel
theorem dX12_go_393 : decode cX12_go 393 = .ok (.return_, 1) := by decide +kernel
theorem dX12_isDigit_0 : decode cX12_isDigit 0 = .ok (.iload_n 0, 1) := by decide +kernel
theorem dX12_isDigit_1 : decode cX12_isDigit 1 = .ok (.bipush 48, 2) := by decide +kernel
theorem dX12_isDigit_3 : decode cX12_isDigit 3 = .ok (.if_icmp .lt 13, 3) := by decide +kernel
theorem dX12_isDigit_6 : decode cX12_isDigit 6 = .ok (.iload_n 0, 1) := by decide +kernel
theorem dX12_isDigit_7 : decode cX12_isDigit 7 = .ok (.bipush 57, 2) := by decide +kernel
theorem dX12_isDigit_9 : decode cX12_isDigit 9 = .ok (.if_icmp .gt 7, 3) := by decide +kernel
theorem dX12_isDigit_12 : decode cX12_isDigit 12 = .ok (.iconst 1, 1) := by decide +kernel
theorem dX12_isDigit_13 : decode cX12_isDigit 13 = .ok (.goto 4, 3) := by decide +kernel
theorem dX12_isDigit_16 : decode cX12_isDigit 16 = .ok (.iconst 0, 1) := by decide +kernel
theorem dX12_isDigit_17 : decode cX12_isDigit 17 = .ok (.ireturn, 1) := by decide +kernel
theorem dX12_isLetter_0 : decode cX12_isLetter 0 = .ok (.iload_n 0, 1) := by decide +kernel
theorem dX12_isLetter_1 : decode cX12_isLetter 1 = .ok (.bipush 97, 2) := by decide +kernel
theorem dX12_isLetter_3 : decode cX12_isLetter 3 = .ok (.if_icmp .lt 13, 3) := by decide +kernel
theorem dX12_isLetter_6 : decode cX12_isLetter 6 = .ok (.iload_n 0, 1) := by decide +kernel
theorem dX12_isLetter_7 : decode cX12_isLetter 7 = .ok (.bipush 122, 2) := by decide +kernel
theorem dX12_isLetter_9 : decode cX12_isLetter 9 = .ok (.if_icmp .gt 7, 3) := by decide +kernel
theorem dX12_isLetter_12 : decode cX12_isLetter 12 = .ok (.iconst 1, 1) := by decide +kernel
theorem dX12_isLetter_13 : decode cX12_isLetter 13 = .ok (.goto 4, 3) := by decide +kernel
theorem dX12_isLetter_16 : decode cX12_isLetter 16 = .ok (.iconst 0, 1) := by decide +kernel
theorem dX12_isLetter_17 : decode cX12_isLetter 17 = .ok (.ireturn, 1) := by decide +kernel
theorem dX12_isSign_0 : decode cX12_isSign 0 = .ok (.aload_n 0, 1) := by decide +kernel
theorem dX12_isSign_1 : decode cX12_isSign 1 = .ok (.getfield 104, 3) := by decide +kernel
theorem dX12_isSign_4 : decode cX12_isSign 4 = .ok (.iconst 4, 1) := by decide +kernel
theorem dX12_isSign_5 : decode cX12_isSign 5 = .ok (.if_icmp .ne 15, 3) := by decide +kernel
theorem dX12_isSign_8 : decode cX12_isSign 8 = .ok (.aload_n 0, 1) := by decide +kernel
theorem dX12_isSign_9 : decode cX12_isSign 9 = .ok (.getfield 114, 3) := by decide +kernel
theorem dX12_isSign_12 : decode cX12_isSign 12 = .ok (.iload_n 1, 1) := by decide +kernel
theorem dX12_isSign_13 : decode cX12_isSign 13 = .ok (.if_icmp .ne 7, 3) := by decide +kernel
theorem dX12_isSign_16 : decode cX12_isSign 16 = .ok (.iconst 1, 1) := by decide +kernel
theorem dX12_isSign_17 : decode cX12_isSign 17 = .ok (.goto 4, 3) := by decide +kernel
theorem dX12_isSign_20 : decode cX12_isSign 20 = .ok (.iconst 0, 1) := by decide +kernel
theorem dX12_isSign_21 : decode cX12_isSign 21 = .ok (.ireturn, 1) := by decide +kernel
theorem dX12_readEnd_0 : decode cX12_readEnd 0 = .ok (.aload_n 0, 1) := by decide +kernel
theorem dX12_readEnd_1 : decode cX12_readEnd 1 = .ok (.bipush 59, 2) := by decide +kernel
theorem dX12_readEnd_3 : decode cX12_readEnd 3 = .ok (.invokevirtual 159, 3) := by decide +kernel
theorem dX12_readEnd_6 : decode cX12_readEnd 6 = .ok (.ifCond .ne 9, 3) := by decide +kernel
theorem dX12_readEnd_9 : decode cX12_readEnd 9 = .ok (.aload_n 0, 1) := by decide +kernel
theorem dX12_readEnd_10 : decode cX12_readEnd 10 = .ok (.iconst 1, 1) := by decide +kernel
theorem dX12_readEnd_11 : decode cX12_readEnd 11 = .ok (.invokevirtual 146, 3) := by decide +kernel
theorem dX12_readEnd_14 : decode cX12_readEnd 14 = .ok (.ireturn, 1) := by decide +kernel
theorem dX12_readEnd_15 : decode cX12_readEnd 15 = .ok (.aload_n 0, 1) := by decide +kernel
theorem dX12_readEnd_16 : decode cX12_readEnd 16 = .ok (.invokevirtual 156, 3) := by decide +kernel
theorem dX12_readEnd_19 : decode cX12_readEnd 19 = .ok (.iconst 1, 1) := by decide +kernel
theorem dX12_readEnd_20 : decode cX12_readEnd 20 = .ok (.ireturn, 1) := by decide +kernel
theorem dX12_spelt_0 : decode cX12_spelt 0 = .ok (.ldc2_w 128, 3) := by decide +kernel
theorem dX12_spelt_3 : decode cX12_spelt 3 = .ok (.iload_n 0, 1) := by decide +kernel
theorem dX12_spelt_4 : decode cX12_spelt 4 = .ok (.i2l, 1) := by decide +kernel
theorem dX12_spelt_5 : decode cX12_spelt 5 = .ok (.ldc2_w 130, 3) := by decide +kernel
theorem dX12_spelt_8 : decode cX12_spelt 8 = .ok (.lsub, 1) := by decide +kernel
theorem dX12_spelt_9 : decode cX12_spelt 9 = .ok (.lmul, 1) := by decide +kernel
theorem dX12_spelt_10 : decode cX12_spelt 10 = .ok (.iload_n 1, 1) := by decide +kernel
theorem dX12_spelt_11 : decode cX12_spelt 11 = .ok (.i2l, 1) := by decide +kernel
theorem dX12_spelt_12 : decode cX12_spelt 12 = .ok (.ladd, 1) := by decide +kernel
theorem dX12_spelt_13 : decode cX12_spelt 13 = .ok (.ldc2_w 130, 3) := by decide +kernel
theorem dX12_spelt_16 : decode cX12_spelt 16 = .ok (.lsub, 1) := by decide +kernel
theorem dX12_spelt_17 : decode cX12_spelt 17 = .ok (.lstore 7, 2) := by decide +kernel
theorem dX12_spelt_19 : decode cX12_spelt 19 = .ok (.iload_n 2, 1) := by decide +kernel
theorem dX12_spelt_20 : decode cX12_spelt 20 = .ok (.ifCond .le 18, 3) := by decide +kernel
theorem dX12_spelt_23 : decode cX12_spelt 23 = .ok (.ldc2_w 128, 3) := by decide +kernel
theorem dX12_spelt_26 : decode cX12_spelt 26 = .ok (.lload 7, 2) := by decide +kernel
theorem dX12_spelt_28 : decode cX12_spelt 28 = .ok (.lmul, 1) := by decide +kernel
theorem dX12_spelt_29 : decode cX12_spelt 29 = .ok (.iload_n 2, 1) := by decide +kernel
theorem dX12_spelt_30 : decode cX12_spelt 30 = .ok (.i2l, 1) := by decide +kernel
theorem dX12_spelt_31 : decode cX12_spelt 31 = .ok (.ladd, 1) := by decide +kernel
theorem dX12_spelt_32 : decode cX12_spelt 32 = .ok (.ldc2_w 130, 3) := by decide +kernel
theorem dX12_spelt_35 : decode cX12_spelt 35 = .ok (.lsub, 1) := by decide +kernel
theorem dX12_spelt_36 : decode cX12_spelt 36 = .ok (.lstore 7, 2) := by decide +kernel
theorem dX12_spelt_38 : decode cX12_spelt 38 = .ok (.iload_n 3, 1) := by decide +kernel
theorem dX12_spelt_39 : decode cX12_spelt 39 = .ok (.ifCond .le 18, 3) := by decide +kernel
theorem dX12_spelt_42 : decode cX12_spelt 42 = .ok (.ldc2_w 128, 3) := by decide +kernel
theorem dX12_spelt_45 : decode cX12_spelt 45 = .ok (.lload 7, 2) := by decide +kernel
theorem dX12_spelt_47 : decode cX12_spelt 47 = .ok (.lmul, 1) := by decide +kernel
theorem dX12_spelt_48 : decode cX12_spelt 48 = .ok (.iload_n 3, 1) := by decide +kernel
theorem dX12_spelt_49 : decode cX12_spelt 49 = .ok (.i2l, 1) := by decide +kernel
theorem dX12_spelt_50 : decode cX12_spelt 50 = .ok (.ladd, 1) := by decide +kernel
theorem dX12_spelt_51 : decode cX12_spelt 51 = .ok (.ldc2_w 130, 3) := by decide +kernel
theorem dX12_spelt_54 : decode cX12_spelt 54 = .ok (.lsub, 1) := by decide +kernel
theorem dX12_spelt_55 : decode cX12_spelt 55 = .ok (.lstore 7, 2) := by decide +kernel
theorem dX12_spelt_57 : decode cX12_spelt 57 = .ok (.iload 4, 2) := by decide +kernel
theorem dX12_spelt_59 : decode cX12_spelt 59 = .ok (.ifCond .le 19, 3) := by decide +kernel
theorem dX12_spelt_62 : decode cX12_spelt 62 = .ok (.ldc2_w 128, 3) := by decide +kernel
theorem dX12_spelt_65 : decode cX12_spelt 65 = .ok (.lload 7, 2) := by decide +kernel
theorem dX12_spelt_67 : decode cX12_spelt 67 = .ok (.lmul, 1) := by decide +kernel
theorem dX12_spelt_68 : decode cX12_spelt 68 = .ok (.iload 4, 2) := by decide +kernel
theorem dX12_spelt_70 : decode cX12_spelt 70 = .ok (.i2l, 1) := by decide +kernel
theorem dX12_spelt_71 : decode cX12_spelt 71 = .ok (.ladd, 1) := by decide +kernel
theorem dX12_spelt_72 : decode cX12_spelt 72 = .ok (.ldc2_w 130, 3) := by decide +kernel
theorem dX12_spelt_75 : decode cX12_spelt 75 = .ok (.lsub, 1) := by decide +kernel
theorem dX12_spelt_76 : decode cX12_spelt 76 = .ok (.lstore 7, 2) := by decide +kernel
theorem dX12_spelt_78 : decode cX12_spelt 78 = .ok (.iload 5, 2) := by decide +kernel
theorem dX12_spelt_80 : decode cX12_spelt 80 = .ok (.ifCond .le 19, 3) := by decide +kernel
theorem dX12_spelt_83 : decode cX12_spelt 83 = .ok (.ldc2_w 128, 3) := by decide +kernel
theorem dX12_spelt_86 : decode cX12_spelt 86 = .ok (.lload 7, 2) := by decide +kernel
theorem dX12_spelt_88 : decode cX12_spelt 88 = .ok (.lmul, 1) := by decide +kernel
theorem dX12_spelt_89 : decode cX12_spelt 89 = .ok (.iload 5, 2) := by decide +kernel
theorem dX12_spelt_91 : decode cX12_spelt 91 = .ok (.i2l, 1) := by decide +kernel
theorem dX12_spelt_92 : decode cX12_spelt 92 = .ok (.ladd, 1) := by decide +kernel
theorem dX12_spelt_93 : decode cX12_spelt 93 = .ok (.ldc2_w 130, 3) := by decide +kernel
theorem dX12_spelt_96 : decode cX12_spelt 96 = .ok (.lsub, 1) := by decide +kernel
theorem dX12_spelt_97 : decode cX12_spelt 97 = .ok (.lstore 7, 2) := by decide +kernel
theorem dX12_spelt_99 : decode cX12_spelt 99 = .ok (.iload 6, 2) := by decide +kernel
theorem dX12_spelt_101 : decode cX12_spelt 101 = .ok (.ifCond .le 19, 3) := by decide +kernel
theorem dX12_spelt_104 : decode cX12_spelt 104 = .ok (.ldc2_w 128, 3) := by decide +kernel
theorem dX12_spelt_107 : decode cX12_spelt 107 = .ok (.lload 7, 2) := by decide +kernel
theorem dX12_spelt_109 : decode cX12_spelt 109 = .ok (.lmul, 1) := by decide +kernel
theorem dX12_spelt_110 : decode cX12_spelt 110 = .ok (.iload 6, 2) := by decide +kernel
theorem dX12_spelt_112 : decode cX12_spelt 112 = .ok (.i2l, 1) := by decide +kernel
theorem dX12_spelt_113 : decode cX12_spelt 113 = .ok (.ladd, 1) := by decide +kernel
theorem dX12_spelt_114 : decode cX12_spelt 114 = .ok (.ldc2_w 130, 3) := by decide +kernel
theorem dX12_spelt_117 : decode cX12_spelt 117 = .ok (.lsub, 1) := by decide +kernel
theorem dX12_spelt_118 : decode cX12_spelt 118 = .ok (.lstore 7, 2) := by decide +kernel
theorem dX12_spelt_120 : decode cX12_spelt 120 = .ok (.lload 7, 2) := by decide +kernel
theorem dX12_spelt_122 : decode cX12_spelt 122 = .ok (.lreturn, 1) := by decide +kernel
theorem dX12_take_0 : decode cX12_take 0 = .ok (.aload_n 0, 1) := by decide +kernel
theorem dX12_take_1 : decode cX12_take 1 = .ok (.getfield 85, 3) := by decide +kernel
theorem dX12_take_4 : decode cX12_take 4 = .ok (.istore_n 1, 1) := by decide +kernel
theorem dX12_take_5 : decode cX12_take 5 = .ok (.aload_n 0, 1) := by decide +kernel
theorem dX12_take_6 : decode cX12_take 6 = .ok (.iconst 0, 1) := by decide +kernel
theorem dX12_take_7 : decode cX12_take 7 = .ok (.putfield 85, 3) := by decide +kernel
theorem dX12_take_10 : decode cX12_take 10 = .ok (.iload_n 1, 1) := by decide +kernel
theorem dX12_take_11 : decode cX12_take 11 = .ok (.ireturn, 1) := by decide +kernel
theorem dX12_tapeAt_0 : decode cX12_tapeAt 0 = .ok (.iload_n 1, 1) := by decide +kernel
theorem dX12_tapeAt_1 : decode cX12_tapeAt 1 = .ok (.aload_n 0, 1) := by decide +kernel
theorem dX12_tapeAt_2 : decode cX12_tapeAt 2 = .ok (.getfield 92, 3) := by decide +kernel
theorem dX12_tapeAt_5 : decode cX12_tapeAt 5 = .ok (.if_icmp .ge 12, 3) := by decide +kernel
theorem dX12_tapeAt_8 : decode cX12_tapeAt 8 = .ok (.aload_n 0, 1) := by decide +kernel
theorem dX12_tapeAt_9 : decode cX12_tapeAt 9 = .ok (.getfield 7, 3) := by decide +kernel
theorem dX12_tapeAt_12 : decode cX12_tapeAt 12 = .ok (.iload_n 1, 1) := by decide +kernel
theorem dX12_tapeAt_13 : decode cX12_tapeAt 13 = .ok (.iaload, 1) := by decide +kernel
theorem dX12_tapeAt_14 : decode cX12_tapeAt 14 = .ok (.goto 4, 3) := by decide +kernel
theorem dX12_tapeAt_17 : decode cX12_tapeAt 17 = .ok (.iconst 0, 1) := by decide +kernel
theorem dX12_tapeAt_18 : decode cX12_tapeAt 18 = .ok (.ireturn, 1) := by decide +kernel
theorem dX12_wordOf_0 : decode cX12_wordOf 0 = .ok (.iload_n 0, 1) := by decide +kernel
theorem dX12_wordOf_1 : decode cX12_wordOf 1 = .ok (.tableswitch 544 0 26 #[123, 140, 155, 172, 188, 202, 217, 233, 249, 264, 279, 296, 312, 330, 348, 363, 378, 391, 405, 419, 434, 452, 468, 481, 495, 511, 527], 123) := by decide +kernel
theorem dX12_wordOf_124 : decode cX12_wordOf 124 = .ok (.bipush 112, 2) := by decide +kernel
theorem dX12_wordOf_126 : decode cX12_wordOf 126 = .ok (.bipush 101, 2) := by decide +kernel
theorem dX12_wordOf_128 : decode cX12_wordOf 128 = .ok (.bipush 114, 2) := by decide +kernel
theorem dX12_wordOf_130 : decode cX12_wordOf 130 = .ok (.bipush 115, 2) := by decide +kernel
theorem dX12_wordOf_132 : decode cX12_wordOf 132 = .ok (.bipush 111, 2) := by decide +kernel
theorem dX12_wordOf_134 : decode cX12_wordOf 134 = .ok (.bipush 110, 2) := by decide +kernel
theorem dX12_wordOf_136 : decode cX12_wordOf 136 = .ok (.iconst 0, 1) := by decide +kernel
theorem dX12_wordOf_137 : decode cX12_wordOf 137 = .ok (.invokestatic 132, 3) := by decide +kernel
theorem dX12_wordOf_140 : decode cX12_wordOf 140 = .ok (.lreturn, 1) := by decide +kernel
theorem dX12_wordOf_141 : decode cX12_wordOf 141 = .ok (.bipush 100, 2) := by decide +kernel
theorem dX12_wordOf_143 : decode cX12_wordOf 143 = .ok (.bipush 105, 2) := by decide +kernel
theorem dX12_wordOf_145 : decode cX12_wordOf 145 = .ok (.bipush 115, 2) := by decide +kernel
theorem dX12_wordOf_147 : decode cX12_wordOf 147 = .ok (.bipush 104, 2) := by decide +kernel
theorem dX12_wordOf_149 : decode cX12_wordOf 149 = .ok (.iconst 0, 1) := by decide +kernel
theorem dX12_wordOf_150 : decode cX12_wordOf 150 = .ok (.iconst 0, 1) := by decide +kernel
theorem dX12_wordOf_151 : decode cX12_wordOf 151 = .ok (.iconst 0, 1) := by decide +kernel
theorem dX12_wordOf_152 : decode cX12_wordOf 152 = .ok (.invokestatic 132, 3) := by decide +kernel
theorem dX12_wordOf_155 : decode cX12_wordOf 155 = .ok (.lreturn, 1) := by decide +kernel
theorem dX12_wordOf_156 : decode cX12_wordOf 156 = .ok (.bipush 115, 2) := by decide +kernel
theorem dX12_wordOf_158 : decode cX12_wordOf 158 = .ok (.bipush 112, 2) := by decide +kernel
theorem dX12_wordOf_160 : decode cX12_wordOf 160 = .ok (.bipush 111, 2) := by decide +kernel
theorem dX12_wordOf_162 : decode cX12_wordOf 162 = .ok (.bipush 105, 2) := by decide +kernel
theorem dX12_wordOf_164 : decode cX12_wordOf 164 = .ok (.bipush 108, 2) := by decide +kernel
theorem dX12_wordOf_166 : decode cX12_wordOf 166 = .ok (.bipush 115, 2) := by decide +kernel
theorem dX12_wordOf_168 : decode cX12_wordOf 168 = .ok (.iconst 0, 1) := by decide +kernel
theorem dX12_wordOf_169 : decode cX12_wordOf 169 = .ok (.invokestatic 132, 3) := by decide +kernel
theorem dX12_wordOf_172 : decode cX12_wordOf 172 = .ok (.lreturn, 1) := by decide +kernel
theorem dX12_wordOf_173 : decode cX12_wordOf 173 = .ok (.bipush 112, 2) := by decide +kernel
theorem dX12_wordOf_175 : decode cX12_wordOf 175 = .ok (.bipush 108, 2) := by decide +kernel
theorem dX12_wordOf_177 : decode cX12_wordOf 177 = .ok (.bipush 97, 2) := by decide +kernel
theorem dX12_wordOf_179 : decode cX12_wordOf 179 = .ok (.bipush 116, 2) := by decide +kernel
theorem dX12_wordOf_181 : decode cX12_wordOf 181 = .ok (.bipush 101, 2) := by decide +kernel
theorem dX12_wordOf_183 : decode cX12_wordOf 183 = .ok (.iconst 0, 1) := by decide +kernel
theorem dX12_wordOf_184 : decode cX12_wordOf 184 = .ok (.iconst 0, 1) := by decide +kernel
theorem dX12_wordOf_185 : decode cX12_wordOf 185 = .ok (.invokestatic 132, 3) := by decide +kernel
theorem dX12_wordOf_188 : decode cX12_wordOf 188 = .ok (.lreturn, 1) := by decide +kernel
theorem dX12_wordOf_189 : decode cX12_wordOf 189 = .ok (.bipush 108, 2) := by decide +kernel
theorem dX12_wordOf_191 : decode cX12_wordOf 191 = .ok (.bipush 97, 2) := by decide +kernel
theorem dX12_wordOf_193 : decode cX12_wordOf 193 = .ok (.bipush 119, 2) := by decide +kernel
theorem dX12_wordOf_195 : decode cX12_wordOf 195 = .ok (.iconst 0, 1) := by decide +kernel
theorem dX12_wordOf_196 : decode cX12_wordOf 196 = .ok (.iconst 0, 1) := by decide +kernel
theorem dX12_wordOf_197 : decode cX12_wordOf 197 = .ok (.iconst 0, 1) := by decide +kernel
theorem dX12_wordOf_198 : decode cX12_wordOf 198 = .ok (.iconst 0, 1) := by decide +kernel
theorem dX12_wordOf_199 : decode cX12_wordOf 199 = .ok (.invokestatic 132, 3) := by decide +kernel
theorem dX12_wordOf_202 : decode cX12_wordOf 202 = .ok (.lreturn, 1) := by decide +kernel
theorem dX12_wordOf_203 : decode cX12_wordOf 203 = .ok (.bipush 110, 2) := by decide +kernel
theorem dX12_wordOf_205 : decode cX12_wordOf 205 = .ok (.bipush 101, 2) := by decide +kernel
theorem dX12_wordOf_207 : decode cX12_wordOf 207 = .ok (.bipush 120, 2) := by decide +kernel
theorem dX12_wordOf_209 : decode cX12_wordOf 209 = .ok (.bipush 116, 2) := by decide +kernel
theorem dX12_wordOf_211 : decode cX12_wordOf 211 = .ok (.iconst 0, 1) := by decide +kernel
theorem dX12_wordOf_212 : decode cX12_wordOf 212 = .ok (.iconst 0, 1) := by decide +kernel
theorem dX12_wordOf_213 : decode cX12_wordOf 213 = .ok (.iconst 0, 1) := by decide +kernel
theorem dX12_wordOf_214 : decode cX12_wordOf 214 = .ok (.invokestatic 132, 3) := by decide +kernel
theorem dX12_wordOf_217 : decode cX12_wordOf 217 = .ok (.lreturn, 1) := by decide +kernel
theorem dX12_wordOf_218 : decode cX12_wordOf 218 = .ok (.bipush 99, 2) := by decide +kernel
theorem dX12_wordOf_220 : decode cX12_wordOf 220 = .ok (.bipush 104, 2) := by decide +kernel
theorem dX12_wordOf_222 : decode cX12_wordOf 222 = .ok (.bipush 105, 2) := by decide +kernel
theorem dX12_wordOf_224 : decode cX12_wordOf 224 = .ok (.bipush 108, 2) := by decide +kernel
theorem dX12_wordOf_226 : decode cX12_wordOf 226 = .ok (.bipush 100, 2) := by decide +kernel
theorem dX12_wordOf_228 : decode cX12_wordOf 228 = .ok (.iconst 0, 1) := by decide +kernel
theorem dX12_wordOf_229 : decode cX12_wordOf 229 = .ok (.iconst 0, 1) := by decide +kernel
theorem dX12_wordOf_230 : decode cX12_wordOf 230 = .ok (.invokestatic 132, 3) := by decide +kernel
theorem dX12_wordOf_233 : decode cX12_wordOf 233 = .ok (.lreturn, 1) := by decide +kernel
theorem dX12_wordOf_234 : decode cX12_wordOf 234 = .ok (.bipush 108, 2) := by decide +kernel
theorem dX12_wordOf_236 : decode cX12_wordOf 236 = .ok (.bipush 101, 2) := by decide +kernel
theorem dX12_wordOf_238 : decode cX12_wordOf 238 = .ok (.bipush 97, 2) := by decide +kernel
theorem dX12_wordOf_240 : decode cX12_wordOf 240 = .ok (.bipush 115, 2) := by decide +kernel
theorem dX12_wordOf_242 : decode cX12_wordOf 242 = .ok (.bipush 116, 2) := by decide +kernel
theorem dX12_wordOf_244 : decode cX12_wordOf 244 = .ok (.iconst 0, 1) := by decide +kernel
theorem dX12_wordOf_245 : decode cX12_wordOf 245 = .ok (.iconst 0, 1) := by decide +kernel
theorem dX12_wordOf_246 : decode cX12_wordOf 246 = .ok (.invokestatic 132, 3) := by decide +kernel
theorem dX12_wordOf_249 : decode cX12_wordOf 249 = .ok (.lreturn, 1) := by decide +kernel
theorem dX12_wordOf_250 : decode cX12_wordOf 250 = .ok (.bipush 100, 2) := by decide +kernel
theorem dX12_wordOf_252 : decode cX12_wordOf 252 = .ok (.bipush 111, 2) := by decide +kernel
theorem dX12_wordOf_254 : decode cX12_wordOf 254 = .ok (.bipush 103, 2) := by decide +kernel
theorem dX12_wordOf_256 : decode cX12_wordOf 256 = .ok (.bipush 115, 2) := by decide +kernel
theorem dX12_wordOf_258 : decode cX12_wordOf 258 = .ok (.iconst 0, 1) := by decide +kernel
theorem dX12_wordOf_259 : decode cX12_wordOf 259 = .ok (.iconst 0, 1) := by decide +kernel
theorem dX12_wordOf_260 : decode cX12_wordOf 260 = .ok (.iconst 0, 1) := by decide +kernel
theorem dX12_wordOf_261 : decode cX12_wordOf 261 = .ok (.invokestatic 132, 3) := by decide +kernel
theorem dX12_wordOf_264 : decode cX12_wordOf 264 = .ok (.lreturn, 1) := by decide +kernel
theorem dX12_wordOf_265 : decode cX12_wordOf 265 = .ok (.bipush 101, 2) := by decide +kernel
theorem dX12_wordOf_267 : decode cX12_wordOf 267 = .ok (.bipush 97, 2) := by decide +kernel
theorem dX12_wordOf_269 : decode cX12_wordOf 269 = .ok (.bipush 116, 2) := by decide +kernel
theorem dX12_wordOf_271 : decode cX12_wordOf 271 = .ok (.bipush 115, 2) := by decide +kernel
theorem dX12_wordOf_273 : decode cX12_wordOf 273 = .ok (.iconst 0, 1) := by decide +kernel
theorem dX12_wordOf_274 : decode cX12_wordOf 274 = .ok (.iconst 0, 1) := by decide +kernel
theorem dX12_wordOf_275 : decode cX12_wordOf 275 = .ok (.iconst 0, 1) := by decide +kernel
theorem dX12_wordOf_276 : decode cX12_wordOf 276 = .ok (.invokestatic 132, 3) := by decide +kernel
theorem dX12_wordOf_279 : decode cX12_wordOf 279 = .ok (.lreturn, 1) := by decide +kernel
theorem dX12_wordOf_280 : decode cX12_wordOf 280 = .ok (.bipush 115, 2) := by decide +kernel
theorem dX12_wordOf_282 : decode cX12_wordOf 282 = .ok (.bipush 101, 2) := by decide +kernel
theorem dX12_wordOf_284 : decode cX12_wordOf 284 = .ok (.bipush 114, 2) := by decide +kernel
theorem dX12_wordOf_286 : decode cX12_wordOf 286 = .ok (.bipush 118, 2) := by decide +kernel
theorem dX12_wordOf_288 : decode cX12_wordOf 288 = .ok (.bipush 101, 2) := by decide +kernel
theorem dX12_wordOf_290 : decode cX12_wordOf 290 = .ok (.bipush 100, 2) := by decide +kernel
theorem dX12_wordOf_292 : decode cX12_wordOf 292 = .ok (.iconst 0, 1) := by decide +kernel
theorem dX12_wordOf_293 : decode cX12_wordOf 293 = .ok (.invokestatic 132, 3) := by decide +kernel
theorem dX12_wordOf_296 : decode cX12_wordOf 296 = .ok (.lreturn, 1) := by decide +kernel
theorem dX12_wordOf_297 : decode cX12_wordOf 297 = .ok (.bipush 114, 2) := by decide +kernel
theorem dX12_wordOf_299 : decode cX12_wordOf 299 = .ok (.bipush 105, 2) := by decide +kernel
theorem dX12_wordOf_301 : decode cX12_wordOf 301 = .ok (.bipush 115, 2) := by decide +kernel
theorem dX12_wordOf_303 : decode cX12_wordOf 303 = .ok (.bipush 101, 2) := by decide +kernel
theorem dX12_wordOf_305 : decode cX12_wordOf 305 = .ok (.bipush 115, 2) := by decide +kernel
theorem dX12_wordOf_307 : decode cX12_wordOf 307 = .ok (.iconst 0, 1) := by decide +kernel
theorem dX12_wordOf_308 : decode cX12_wordOf 308 = .ok (.iconst 0, 1) := by decide +kernel
theorem dX12_wordOf_309 : decode cX12_wordOf 309 = .ok (.invokestatic 132, 3) := by decide +kernel
theorem dX12_wordOf_312 : decode cX12_wordOf 312 = .ok (.lreturn, 1) := by decide +kernel
theorem dX12_wordOf_313 : decode cX12_wordOf 313 = .ok (.bipush 114, 2) := by decide +kernel
theorem dX12_wordOf_315 : decode cX12_wordOf 315 = .ok (.bipush 101, 2) := by decide +kernel
theorem dX12_wordOf_317 : decode cX12_wordOf 317 = .ok (.bipush 102, 2) := by decide +kernel
theorem dX12_wordOf_319 : decode cX12_wordOf 319 = .ok (.bipush 117, 2) := by decide +kernel
theorem dX12_wordOf_321 : decode cX12_wordOf 321 = .ok (.bipush 115, 2) := by decide +kernel
theorem dX12_wordOf_323 : decode cX12_wordOf 323 = .ok (.bipush 101, 2) := by decide +kernel
theorem dX12_wordOf_325 : decode cX12_wordOf 325 = .ok (.bipush 115, 2) := by decide +kernel
theorem dX12_wordOf_327 : decode cX12_wordOf 327 = .ok (.invokestatic 132, 3) := by decide +kernel
theorem dX12_wordOf_330 : decode cX12_wordOf 330 = .ok (.lreturn, 1) := by decide +kernel
theorem dX12_wordOf_331 : decode cX12_wordOf 331 = .ok (.bipush 97, 2) := by decide +kernel
theorem dX12_wordOf_333 : decode cX12_wordOf 333 = .ok (.bipush 99, 2) := by decide +kernel
theorem dX12_wordOf_335 : decode cX12_wordOf 335 = .ok (.bipush 99, 2) := by decide +kernel
theorem dX12_wordOf_337 : decode cX12_wordOf 337 = .ok (.bipush 101, 2) := by decide +kernel
theorem dX12_wordOf_339 : decode cX12_wordOf 339 = .ok (.bipush 112, 2) := by decide +kernel
theorem dX12_wordOf_341 : decode cX12_wordOf 341 = .ok (.bipush 116, 2) := by decide +kernel
theorem dX12_wordOf_343 : decode cX12_wordOf 343 = .ok (.bipush 115, 2) := by decide +kernel
theorem dX12_wordOf_345 : decode cX12_wordOf 345 = .ok (.invokestatic 132, 3) := by decide +kernel
theorem dX12_wordOf_348 : decode cX12_wordOf 348 = .ok (.lreturn, 1) := by decide +kernel
theorem dX12_wordOf_349 : decode cX12_wordOf 349 = .ok (.bipush 100, 2) := by decide +kernel
theorem dX12_wordOf_351 : decode cX12_wordOf 351 = .ok (.bipush 105, 2) := by decide +kernel
theorem dX12_wordOf_353 : decode cX12_wordOf 353 = .ok (.bipush 101, 2) := by decide +kernel
theorem dX12_wordOf_355 : decode cX12_wordOf 355 = .ok (.bipush 115, 2) := by decide +kernel
theorem dX12_wordOf_357 : decode cX12_wordOf 357 = .ok (.iconst 0, 1) := by decide +kernel
theorem dX12_wordOf_358 : decode cX12_wordOf 358 = .ok (.iconst 0, 1) := by decide +kernel
theorem dX12_wordOf_359 : decode cX12_wordOf 359 = .ok (.iconst 0, 1) := by decide +kernel
theorem dX12_wordOf_360 : decode cX12_wordOf 360 = .ok (.invokestatic 132, 3) := by decide +kernel
theorem dX12_wordOf_363 : decode cX12_wordOf 363 = .ok (.lreturn, 1) := by decide +kernel
theorem dX12_wordOf_364 : decode cX12_wordOf 364 = .ok (.bipush 109, 2) := by decide +kernel
theorem dX12_wordOf_366 : decode cX12_wordOf 366 = .ok (.bipush 101, 2) := by decide +kernel
theorem dX12_wordOf_368 : decode cX12_wordOf 368 = .ok (.bipush 97, 2) := by decide +kernel
theorem dX12_wordOf_370 : decode cX12_wordOf 370 = .ok (.bipush 108, 2) := by decide +kernel
theorem dX12_wordOf_372 : decode cX12_wordOf 372 = .ok (.iconst 0, 1) := by decide +kernel
theorem dX12_wordOf_373 : decode cX12_wordOf 373 = .ok (.iconst 0, 1) := by decide +kernel
theorem dX12_wordOf_374 : decode cX12_wordOf 374 = .ok (.iconst 0, 1) := by decide +kernel
theorem dX12_wordOf_375 : decode cX12_wordOf 375 = .ok (.invokestatic 132, 3) := by decide +kernel
theorem dX12_wordOf_378 : decode cX12_wordOf 378 = .ok (.lreturn, 1) := by decide +kernel
theorem dX12_wordOf_379 : decode cX12_wordOf 379 = .ok (.bipush 111, 2) := by decide +kernel
theorem dX12_wordOf_381 : decode cX12_wordOf 381 = .ok (.bipush 114, 2) := by decide +kernel
theorem dX12_wordOf_383 : decode cX12_wordOf 383 = .ok (.iconst 0, 1) := by decide +kernel
theorem dX12_wordOf_384 : decode cX12_wordOf 384 = .ok (.iconst 0, 1) := by decide +kernel
theorem dX12_wordOf_385 : decode cX12_wordOf 385 = .ok (.iconst 0, 1) := by decide +kernel
theorem dX12_wordOf_386 : decode cX12_wordOf 386 = .ok (.iconst 0, 1) := by decide +kernel
theorem dX12_wordOf_387 : decode cX12_wordOf 387 = .ok (.iconst 0, 1) := by decide +kernel
theorem dX12_wordOf_388 : decode cX12_wordOf 388 = .ok (.invokestatic 132, 3) := by decide +kernel
theorem dX12_wordOf_391 : decode cX12_wordOf 391 = .ok (.lreturn, 1) := by decide +kernel
theorem dX12_wordOf_392 : decode cX12_wordOf 392 = .ok (.bipush 97, 2) := by decide +kernel
theorem dX12_wordOf_394 : decode cX12_wordOf 394 = .ok (.bipush 110, 2) := by decide +kernel
theorem dX12_wordOf_396 : decode cX12_wordOf 396 = .ok (.bipush 100, 2) := by decide +kernel
theorem dX12_wordOf_398 : decode cX12_wordOf 398 = .ok (.iconst 0, 1) := by decide +kernel
theorem dX12_wordOf_399 : decode cX12_wordOf 399 = .ok (.iconst 0, 1) := by decide +kernel
theorem dX12_wordOf_400 : decode cX12_wordOf 400 = .ok (.iconst 0, 1) := by decide +kernel
theorem dX12_wordOf_401 : decode cX12_wordOf 401 = .ok (.iconst 0, 1) := by decide +kernel
theorem dX12_wordOf_402 : decode cX12_wordOf 402 = .ok (.invokestatic 132, 3) := by decide +kernel
theorem dX12_wordOf_405 : decode cX12_wordOf 405 = .ok (.lreturn, 1) := by decide +kernel
theorem dX12_wordOf_406 : decode cX12_wordOf 406 = .ok (.bipush 110, 2) := by decide +kernel
theorem dX12_wordOf_408 : decode cX12_wordOf 408 = .ok (.bipush 111, 2) := by decide +kernel
theorem dX12_wordOf_410 : decode cX12_wordOf 410 = .ok (.bipush 116, 2) := by decide +kernel
theorem dX12_wordOf_412 : decode cX12_wordOf 412 = .ok (.iconst 0, 1) := by decide +kernel
theorem dX12_wordOf_413 : decode cX12_wordOf 413 = .ok (.iconst 0, 1) := by decide +kernel
theorem dX12_wordOf_414 : decode cX12_wordOf 414 = .ok (.iconst 0, 1) := by decide +kernel
theorem dX12_wordOf_415 : decode cX12_wordOf 415 = .ok (.iconst 0, 1) := by decide +kernel
theorem dX12_wordOf_416 : decode cX12_wordOf 416 = .ok (.invokestatic 132, 3) := by decide +kernel
theorem dX12_wordOf_419 : decode cX12_wordOf 419 = .ok (.lreturn, 1) := by decide +kernel
theorem dX12_wordOf_420 : decode cX12_wordOf 420 = .ok (.bipush 100, 2) := by decide +kernel
theorem dX12_wordOf_422 : decode cX12_wordOf 422 = .ok (.bipush 101, 2) := by decide +kernel
theorem dX12_wordOf_424 : decode cX12_wordOf 424 = .ok (.bipush 97, 2) := by decide +kernel
theorem dX12_wordOf_426 : decode cX12_wordOf 426 = .ok (.bipush 100, 2) := by decide +kernel
theorem dX12_wordOf_428 : decode cX12_wordOf 428 = .ok (.iconst 0, 1) := by decide +kernel
theorem dX12_wordOf_429 : decode cX12_wordOf 429 = .ok (.iconst 0, 1) := by decide +kernel
theorem dX12_wordOf_430 : decode cX12_wordOf 430 = .ok (.iconst 0, 1) := by decide +kernel
theorem dX12_wordOf_431 : decode cX12_wordOf 431 = .ok (.invokestatic 132, 3) := by decide +kernel
theorem dX12_wordOf_434 : decode cX12_wordOf 434 = .ok (.lreturn, 1) := by decide +kernel
theorem dX12_wordOf_435 : decode cX12_wordOf 435 = .ok (.bipush 114, 2) := by decide +kernel
theorem dX12_wordOf_437 : decode cX12_wordOf 437 = .ok (.bipush 101, 2) := by decide +kernel
theorem dX12_wordOf_439 : decode cX12_wordOf 439 = .ok (.bipush 102, 2) := by decide +kernel
theorem dX12_wordOf_441 : decode cX12_wordOf 441 = .ok (.bipush 117, 2) := by decide +kernel
theorem dX12_wordOf_443 : decode cX12_wordOf 443 = .ok (.bipush 115, 2) := by decide +kernel
theorem dX12_wordOf_445 : decode cX12_wordOf 445 = .ok (.bipush 101, 2) := by decide +kernel
theorem dX12_wordOf_447 : decode cX12_wordOf 447 = .ok (.bipush 100, 2) := by decide +kernel
theorem dX12_wordOf_449 : decode cX12_wordOf 449 = .ok (.invokestatic 132, 3) := by decide +kernel
theorem dX12_wordOf_452 : decode cX12_wordOf 452 = .ok (.lreturn, 1) := by decide +kernel
theorem dX12_wordOf_453 : decode cX12_wordOf 453 = .ok (.bipush 99, 2) := by decide +kernel
theorem dX12_wordOf_455 : decode cX12_wordOf 455 = .ok (.bipush 108, 2) := by decide +kernel
theorem dX12_wordOf_457 : decode cX12_wordOf 457 = .ok (.bipush 101, 2) := by decide +kernel
theorem dX12_wordOf_459 : decode cX12_wordOf 459 = .ok (.bipush 97, 2) := by decide +kernel
theorem dX12_wordOf_461 : decode cX12_wordOf 461 = .ok (.bipush 110, 2) := by decide +kernel
theorem dX12_wordOf_463 : decode cX12_wordOf 463 = .ok (.iconst 0, 1) := by decide +kernel
theorem dX12_wordOf_464 : decode cX12_wordOf 464 = .ok (.iconst 0, 1) := by decide +kernel
theorem dX12_wordOf_465 : decode cX12_wordOf 465 = .ok (.invokestatic 132, 3) := by decide +kernel
theorem dX12_wordOf_468 : decode cX12_wordOf 468 = .ok (.lreturn, 1) := by decide +kernel
theorem dX12_wordOf_469 : decode cX12_wordOf 469 = .ok (.bipush 111, 2) := by decide +kernel
theorem dX12_wordOf_471 : decode cX12_wordOf 471 = .ok (.bipush 102, 2) := by decide +kernel
theorem dX12_wordOf_473 : decode cX12_wordOf 473 = .ok (.iconst 0, 1) := by decide +kernel
theorem dX12_wordOf_474 : decode cX12_wordOf 474 = .ok (.iconst 0, 1) := by decide +kernel
theorem dX12_wordOf_475 : decode cX12_wordOf 475 = .ok (.iconst 0, 1) := by decide +kernel
theorem dX12_wordOf_476 : decode cX12_wordOf 476 = .ok (.iconst 0, 1) := by decide +kernel
theorem dX12_wordOf_477 : decode cX12_wordOf 477 = .ok (.iconst 0, 1) := by decide +kernel
theorem dX12_wordOf_478 : decode cX12_wordOf 478 = .ok (.invokestatic 132, 3) := by decide +kernel
theorem dX12_wordOf_481 : decode cX12_wordOf 481 = .ok (.lreturn, 1) := by decide +kernel
theorem dX12_wordOf_482 : decode cX12_wordOf 482 = .ok (.bipush 104, 2) := by decide +kernel
theorem dX12_wordOf_484 : decode cX12_wordOf 484 = .ok (.bipush 97, 2) := by decide +kernel
theorem dX12_wordOf_486 : decode cX12_wordOf 486 = .ok (.bipush 115, 2) := by decide +kernel
theorem dX12_wordOf_488 : decode cX12_wordOf 488 = .ok (.iconst 0, 1) := by decide +kernel
theorem dX12_wordOf_489 : decode cX12_wordOf 489 = .ok (.iconst 0, 1) := by decide +kernel
theorem dX12_wordOf_490 : decode cX12_wordOf 490 = .ok (.iconst 0, 1) := by decide +kernel
theorem dX12_wordOf_491 : decode cX12_wordOf 491 = .ok (.iconst 0, 1) := by decide +kernel
theorem dX12_wordOf_492 : decode cX12_wordOf 492 = .ok (.invokestatic 132, 3) := by decide +kernel
theorem dX12_wordOf_495 : decode cX12_wordOf 495 = .ok (.lreturn, 1) := by decide +kernel
theorem dX12_wordOf_496 : decode cX12_wordOf 496 = .ok (.bipush 119, 2) := by decide +kernel
theorem dX12_wordOf_498 : decode cX12_wordOf 498 = .ok (.bipush 97, 2) := by decide +kernel
theorem dX12_wordOf_500 : decode cX12_wordOf 500 = .ok (.bipush 110, 2) := by decide +kernel
theorem dX12_wordOf_502 : decode cX12_wordOf 502 = .ok (.bipush 116, 2) := by decide +kernel
theorem dX12_wordOf_504 : decode cX12_wordOf 504 = .ok (.bipush 115, 2) := by decide +kernel
theorem dX12_wordOf_506 : decode cX12_wordOf 506 = .ok (.iconst 0, 1) := by decide +kernel
theorem dX12_wordOf_507 : decode cX12_wordOf 507 = .ok (.iconst 0, 1) := by decide +kernel
theorem dX12_wordOf_508 : decode cX12_wordOf 508 = .ok (.invokestatic 132, 3) := by decide +kernel
theorem dX12_wordOf_511 : decode cX12_wordOf 511 = .ok (.lreturn, 1) := by decide +kernel
theorem dX12_wordOf_512 : decode cX12_wordOf 512 = .ok (.bipush 101, 2) := by decide +kernel
theorem dX12_wordOf_514 : decode cX12_wordOf 514 = .ok (.bipush 97, 2) := by decide +kernel
theorem dX12_wordOf_516 : decode cX12_wordOf 516 = .ok (.bipush 116, 2) := by decide +kernel
theorem dX12_wordOf_518 : decode cX12_wordOf 518 = .ok (.bipush 101, 2) := by decide +kernel
theorem dX12_wordOf_520 : decode cX12_wordOf 520 = .ok (.bipush 110, 2) := by decide +kernel
theorem dX12_wordOf_522 : decode cX12_wordOf 522 = .ok (.iconst 0, 1) := by decide +kernel
theorem dX12_wordOf_523 : decode cX12_wordOf 523 = .ok (.iconst 0, 1) := by decide +kernel
theorem dX12_wordOf_524 : decode cX12_wordOf 524 = .ok (.invokestatic 132, 3) := by decide +kernel
theorem dX12_wordOf_527 : decode cX12_wordOf 527 = .ok (.lreturn, 1) := by decide +kernel
theorem dX12_wordOf_528 : decode cX12_wordOf 528 = .ok (.bipush 104, 2) := by decide +kernel
theorem dX12_wordOf_530 : decode cX12_wordOf 530 = .ok (.bipush 117, 2) := by decide +kernel
theorem dX12_wordOf_532 : decode cX12_wordOf 532 = .ok (.bipush 110, 2) := by decide +kernel
theorem dX12_wordOf_534 : decode cX12_wordOf 534 = .ok (.bipush 103, 2) := by decide +kernel
theorem dX12_wordOf_536 : decode cX12_wordOf 536 = .ok (.bipush 101, 2) := by decide +kernel
theorem dX12_wordOf_538 : decode cX12_wordOf 538 = .ok (.bipush 114, 2) := by decide +kernel
theorem dX12_wordOf_540 : decode cX12_wordOf 540 = .ok (.iconst 0, 1) := by decide +kernel
theorem dX12_wordOf_541 : decode cX12_wordOf 541 = .ok (.invokestatic 132, 3) := by decide +kernel
theorem dX12_wordOf_544 : decode cX12_wordOf 544 = .ok (.lreturn, 1) := by decide +kernel
theorem dX12_wordOf_545 : decode cX12_wordOf 545 = .ok (.bipush 110, 2) := by decide +kernel
theorem dX12_wordOf_547 : decode cX12_wordOf 547 = .ok (.bipush 117, 2) := by decide +kernel
theorem dX12_wordOf_549 : decode cX12_wordOf 549 = .ok (.bipush 109, 2) := by decide +kernel
theorem dX12_wordOf_551 : decode cX12_wordOf 551 = .ok (.bipush 98, 2) := by decide +kernel
theorem dX12_wordOf_553 : decode cX12_wordOf 553 = .ok (.bipush 101, 2) := by decide +kernel
theorem dX12_wordOf_555 : decode cX12_wordOf 555 = .ok (.bipush 114, 2) := by decide +kernel
theorem dX12_wordOf_557 : decode cX12_wordOf 557 = .ok (.iconst 0, 1) := by decide +kernel
theorem dX12_wordOf_558 : decode cX12_wordOf 558 = .ok (.invokestatic 132, 3) := by decide +kernel
theorem dX12_wordOf_561 : decode cX12_wordOf 561 = .ok (.lreturn, 1) := by decide +kernel
theorem rc_12 : Rg 12 12 12 := ⟨by decide, by decide⟩
theorem rc_13 : Rg 13 13 13 := ⟨by decide, by decide⟩
theorem rc_21 : Rg 21 21 21 := ⟨by decide, by decide⟩
theorem rc_22 : Rg 22 22 22 := ⟨by decide, by decide⟩
theorem rc_25 : Rg 25 25 25 := ⟨by decide, by decide⟩
theorem rc_26 : Rg 26 26 26 := ⟨by decide, by decide⟩
theorem rc_98 : Rg 98 98 98 := ⟨by decide, by decide⟩
theorem rc_104 : Rg 104 104 104 := ⟨by decide, by decide⟩
theorem rc_105 : Rg 105 105 105 := ⟨by decide, by decide⟩
theorem rc_108 : Rg 108 108 108 := ⟨by decide, by decide⟩
theorem rc_109 : Rg 109 109 109 := ⟨by decide, by decide⟩
theorem rc_110 : Rg 110 110 110 := ⟨by decide, by decide⟩
theorem rc_111 : Rg 111 111 111 := ⟨by decide, by decide⟩
theorem rc_112 : Rg 112 112 112 := ⟨by decide, by decide⟩
theorem rc_114 : Rg 114 114 114 := ⟨by decide, by decide⟩
theorem rc_115 : Rg 115 115 115 := ⟨by decide, by decide⟩
theorem rc_116 : Rg 116 116 116 := ⟨by decide, by decide⟩
theorem rc_117 : Rg 117 117 117 := ⟨by decide, by decide⟩
theorem rc_118 : Rg 118 118 118 := ⟨by decide, by decide⟩
theorem rc_119 : Rg 119 119 119 := ⟨by decide, by decide⟩
theorem rc_120 : Rg 120 120 120 := ⟨by decide, by decide⟩
set_option maxRecDepth 100000 in
set_option maxHeartbeats 8000000 in
theorem c_X12_come {l : Launch} {D : va_G} {cy : Nat → ClassId} {L : List Nat} {κ ln : Nat → Nat} {R : Nat → Nat → Option Nat} {I : Nat → Nat → Int32} {J : Nat → Nat → Int64} {ow : Nat → Nat × Nat} (W9 : ∀ a ∈ L, Shp L κ ln R ow a) {x : Nat} (hLx : x ∈ L) (hkx : κ x = 12) (a0 : Int32) (hU : Iw L κ R ow I) (hp0 : Rg 0 936 (I x 2)) : CtV l yX12_come cX12_come 3 none { frames := 0, cells := 0, slots := 0, locals := 0 } D cy L κ ln R I J [.ref x, .int a0] (fun I2 J2 => Iw L κ R ow I2 ∧ Fq L κ ow [1202, 82100] I I2 ∧ Fq L κ ow [] J J2 ∧ ((MTf R I2 J2 x, NRf R I2 J2 x) = mCome a0 (MTf R I J x) (NRf R I J x)) ∧ (I2 x 2).toInt = (I x 2).toInt + 4) := by
  refine CtV.of (by decide +kernel) (Nat.le_of_ble_eq_true rfl) ?_
  intro p e s m below meth c B K
  have C := B.1
  have hF : Fq L κ ow [1202, 82100] I I := fq_rf
  have hG : Fq L κ ow [] J J := fq_rf
  obtain ⟨xp0, hxp0, rxp0⟩ : ∃ z, I x 2 = z ∧ Rg 0 936 z := ⟨_, rfl, hp0⟩
  obtain ⟨b_1, hb_1, hb_1L, hb_1k, hb_1n, hb_1o⟩ := shp_a (W9 x hLx) hkx 1 14 940 rfl (by decide)
  have emqx : ∀ I J, MTf R I J x = MTq I J x b_1 := fun I J => by simp only [MTf, rr_, Option.getD_some, hb_1]
  have wmqx : mqw_ L κ ow x b_1 := ⟨⟨hLx, hb_1L⟩, ⟨(ro_o hkx (by decide)), (ro_a hb_1k (by decide) hb_1o hkx rfl)⟩⟩
  obtain ⟨s_2, hs_2⟩ : ∃ z, MTq I J x b_1 = z := ⟨_, rfl⟩
  obtain ⟨b_3, hb_3, hb_3L, hb_3k, hb_3n, hb_3o⟩ := shp_a (W9 x hLx) hkx 15 14 72 rfl (by decide)
  obtain ⟨b_4, hb_4, hb_4L, hb_4k, hb_4n, hb_4o⟩ := shp_a (W9 x hLx) hkx 20 15 13 rfl (by decide)
  have enqx : ∀ I J, NRf R I J x = NRq I J x b_3 b_4 := fun I J => by simp only [NRf, rr_, Option.getD_some, hb_3, hb_4]
  have wnqx : nqw_ L κ ow x b_3 b_4 := ⟨⟨hLx, hb_3L, hb_4L⟩, ⟨(ro_o hkx (by decide)), (ro_a hb_3k (by decide) hb_3o hkx rfl), (ro_a hb_4k (by decide) hb_4o hkx rfl)⟩⟩
  obtain ⟨s_5, hs_5⟩ : ∃ z, NRq I J x b_3 b_4 = z := ⟨_, rfl⟩
  refine g_lo (is := [0, 1]) (lo2 := [(0, .ref x), (1, .int a0)]) rfl ?_
  refine g_bipush C (v := 24) dX12_come_0 (by decide) ?_
  refine g_istore_n C dX12_come_2 rfl (by decide) (lo2 := [(2, .int 24), (0, .ref x), (1, .int a0)]) rfl ?_
  refine g_iload_n C 0 dX12_come_3 rfl rfl ?_
  refine g_if_lt C (tgt := 39) dX12_come_4 (by decide) (fun h_6 => ?_) (fun h_6 => ?_)
  · skip
    exact absurd (h_6) (by decide)
  · skip
    refine g_aload_n C 1 dX12_come_7 rfl rfl ?_
    refine g_getR C K hLx hkx f_12_7 hb_1 dX12_come_8 ?_
    refine g_aload_n C 1 dX12_come_11 rfl rfl ?_
    have f_7 : s_5.taped = xp0 := (congrArg NR_.taped hs_5).symm.trans hxp0
    refine g_getI C K hLx hkx f_12_85 (v := xp0) hxp0 dX12_come_12 ?_
    refine g_iload_n C 2 dX12_come_15 rfl rfl ?_
    refine g_iload_n C 0 dX12_come_16 rfl rfl ?_
    obtain ⟨x_8, hx_8, rx_8⟩ := ex_any (z0 := (Int32.toUInt32 (a0) >>> (Int32.toUInt32 (24) &&& Int32.toUInt32 31)).toInt32)
    refine g_iushr C (v := x_8) dX12_come_17 hx_8 ?_
    refine g_sipush C (v := 255) dX12_come_18 (by decide) ?_
    obtain ⟨x_9, hx_9, rx_9⟩ := ex_andr (x := x_8) (y := 255) (b := 255) (rg_w rc_255 (by decide) (by decide))
    refine g_iand C (v := x_9) dX12_come_21 hx_9 ?_
    refine h_iast C K hb_1L hb_1k (xp0.toNatClampNeg) (rfl) (ix_0 rxp0 (by decide)) (ix_lt rxp0 (by decide) hb_1n (by decide)) dX12_come_22 (fun I_10 hI_10 => ?_)
    have hU_11 := iw_put W9 hU hI_10 (ro_a hb_1k (by decide) hb_1o hkx rfl) (lo := 0) (hi := 255) (rfl) (rx_9) rfl
    have hF_12 := fq_puta hF hI_10 (ro_a hb_1k (by decide) hb_1o hkx rfl) (by decide) (by decide)
    have hs_13 : MTq I_10 J x b_1 = (MT_.w_tp s_2 (up1 (s_2.tp) (xp0.toNatClampNeg) (x_9))) := by rw [hI_10]; exact ((mq_tp wmqx).trans (congrArg (fun z : MT_ => MT_.w_tp z (up1 (z.tp) (xp0.toNatClampNeg) (x_9))) hs_2)).trans rfl
    have hs_14 : NRq I_10 J x b_3 b_4 = s_5 := by rw [hI_10]; exact (nq_oI wnqx (ro_a hb_1k (by decide) hb_1o hkx rfl) (by decide)).trans hs_5
    refine g_aload_n C 1 dX12_come_23 rfl rfl ?_
    refine g_dup C dX12_come_24 rfl ?_
    refine g_getI C K hLx hkx f_12_85 (v := xp0) (kp_k (κ := κ) hI_10 (by rw [hkx, hb_1k]; decide) hxp0) dX12_come_25 ?_
    refine g_iconst C (v := 1) dX12_come_28 (by decide) ?_
    obtain ⟨x_15, hx_15, rx_15, tx_15⟩ := ex_add 1 937 rxp0 rc_1 (by decide) (by decide) (by decide) (by decide)
    refine g_iadd C (v := x_15) dX12_come_29 hx_15 ?_
    refine h_putI C K hLx hkx f_12_85 p_12_2 dX12_come_30 (fun I_16 hI_16 => ?_)
    have hU_17 := iw_put W9 hU_11 hI_16 (ro_o hkx (by decide)) (lo := 0) (hi := 940) (rfl) (rg_w rx_15 (by decide) (by decide)) rfl
    have hF_18 := fq_puto hF_12 hI_16 hkx (by decide) (by decide)
    have hs_19 : MTq I_16 J x b_1 = (MT_.w_tp s_2 (up1 (s_2.tp) (xp0.toNatClampNeg) (x_9))) := by rw [hI_16]; exact (mq_uIt wmqx (by decide)).trans hs_13
    have hs_20 : NRq I_16 J x b_3 b_4 = (NR_.w_taped s_5 (x_15)) := by rw [hI_16]; exact ((nq_taped wnqx).trans (congrArg (fun z : NR_ => NR_.w_taped z (x_15)) hs_14)).trans rfl
    refine g_iinc C dX12_come_33 (k := 0) (v := 16) rfl (by decide) (by decide) (lo2 := [(2, .int 16), (0, .ref x), (1, .int a0)]) rfl ?_
    refine g_goto C (tgt := 3) dX12_come_36 (by decide) ?_
    refine g_iload_n C 0 dX12_come_3 rfl rfl ?_
    refine g_if_lt C (tgt := 39) dX12_come_4 (by decide) (fun h_21 => ?_) (fun h_21 => ?_)
    · skip
      exact absurd (h_21) (by decide)
    · skip
      refine g_aload_n C 1 dX12_come_7 rfl rfl ?_
      refine g_getR C K hLx hkx f_12_7 hb_1 dX12_come_8 ?_
      refine g_aload_n C 1 dX12_come_11 rfl rfl ?_
      refine g_getI C K hLx hkx f_12_85 (v := x_15) (kp_s hI_16) dX12_come_12 ?_
      refine g_iload_n C 2 dX12_come_15 rfl rfl ?_
      refine g_iload_n C 0 dX12_come_16 rfl rfl ?_
      obtain ⟨x_22, hx_22, rx_22⟩ := ex_any (z0 := (Int32.toUInt32 (a0) >>> (Int32.toUInt32 (16) &&& Int32.toUInt32 31)).toInt32)
      refine g_iushr C (v := x_22) dX12_come_17 hx_22 ?_
      refine g_sipush C (v := 255) dX12_come_18 (by decide) ?_
      obtain ⟨x_23, hx_23, rx_23⟩ := ex_andr (x := x_22) (y := 255) (b := 255) (rg_w rc_255 (by decide) (by decide))
      refine g_iand C (v := x_23) dX12_come_21 hx_23 ?_
      refine h_iast C K hb_1L hb_1k (x_15.toNatClampNeg) (rfl) (ix_0 rx_15 (by decide)) (ix_lt rx_15 (by decide) hb_1n (by decide)) dX12_come_22 (fun I_24 hI_24 => ?_)
      have hU_25 := iw_put W9 hU_17 hI_24 (ro_a hb_1k (by decide) hb_1o hkx rfl) (lo := 0) (hi := 255) (rfl) (rx_23) rfl
      have hF_26 := fq_puta hF_18 hI_24 (ro_a hb_1k (by decide) hb_1o hkx rfl) (by decide) (by decide)
      have hs_27 : MTq I_24 J x b_1 = (MT_.w_tp s_2 (up1 (up1 (s_2.tp) (xp0.toNatClampNeg) (x_9)) (x_15.toNatClampNeg) (x_23))) := by rw [hI_24]; exact ((mq_tp wmqx).trans (congrArg (fun z : MT_ => MT_.w_tp z (up1 (z.tp) (x_15.toNatClampNeg) (x_23))) hs_19)).trans rfl
      have hs_28 : NRq I_24 J x b_3 b_4 = (NR_.w_taped s_5 (x_15)) := by rw [hI_24]; exact (nq_oI wnqx (ro_a hb_1k (by decide) hb_1o hkx rfl) (by decide)).trans hs_20
      refine g_aload_n C 1 dX12_come_23 rfl rfl ?_
      refine g_dup C dX12_come_24 rfl ?_
      refine g_getI C K hLx hkx f_12_85 (v := x_15) (kp_k (κ := κ) hI_24 (by rw [hkx, hb_1k]; decide) (kp_s hI_16)) dX12_come_25 ?_
      refine g_iconst C (v := 1) dX12_come_28 (by decide) ?_
      obtain ⟨x_29, hx_29, rx_29, tx_29⟩ := ex_add 2 938 rx_15 rc_1 (by decide) (by decide) (by decide) (by decide)
      refine g_iadd C (v := x_29) dX12_come_29 hx_29 ?_
      refine h_putI C K hLx hkx f_12_85 p_12_2 dX12_come_30 (fun I_30 hI_30 => ?_)
      have hU_31 := iw_put W9 hU_25 hI_30 (ro_o hkx (by decide)) (lo := 0) (hi := 940) (rfl) (rg_w rx_29 (by decide) (by decide)) rfl
      have hF_32 := fq_puto hF_26 hI_30 hkx (by decide) (by decide)
      have hs_33 : MTq I_30 J x b_1 = (MT_.w_tp s_2 (up1 (up1 (s_2.tp) (xp0.toNatClampNeg) (x_9)) (x_15.toNatClampNeg) (x_23))) := by rw [hI_30]; exact (mq_uIt wmqx (by decide)).trans hs_27
      have hs_34 : NRq I_30 J x b_3 b_4 = (NR_.w_taped s_5 (x_29)) := by rw [hI_30]; exact ((nq_taped wnqx).trans (congrArg (fun z : NR_ => NR_.w_taped z (x_29)) hs_28)).trans rfl
      refine g_iinc C dX12_come_33 (k := 0) (v := 8) rfl (by decide) (by decide) (lo2 := [(2, .int 8), (0, .ref x), (1, .int a0)]) rfl ?_
      refine g_goto C (tgt := 3) dX12_come_36 (by decide) ?_
      refine g_iload_n C 0 dX12_come_3 rfl rfl ?_
      refine g_if_lt C (tgt := 39) dX12_come_4 (by decide) (fun h_35 => ?_) (fun h_35 => ?_)
      · skip
        exact absurd (h_35) (by decide)
      · skip
        refine g_aload_n C 1 dX12_come_7 rfl rfl ?_
        refine g_getR C K hLx hkx f_12_7 hb_1 dX12_come_8 ?_
        refine g_aload_n C 1 dX12_come_11 rfl rfl ?_
        refine g_getI C K hLx hkx f_12_85 (v := x_29) (kp_s hI_30) dX12_come_12 ?_
        refine g_iload_n C 2 dX12_come_15 rfl rfl ?_
        refine g_iload_n C 0 dX12_come_16 rfl rfl ?_
        obtain ⟨x_36, hx_36, rx_36⟩ := ex_ushr8 (x := a0)
        refine g_iushr C (v := x_36) dX12_come_17 hx_36 ?_
        refine g_sipush C (v := 255) dX12_come_18 (by decide) ?_
        obtain ⟨x_37, hx_37, rx_37⟩ := ex_andr (x := x_36) (y := 255) (b := 255) (rg_w rc_255 (by decide) (by decide))
        refine g_iand C (v := x_37) dX12_come_21 hx_37 ?_
        refine h_iast C K hb_1L hb_1k (x_29.toNatClampNeg) (rfl) (ix_0 rx_29 (by decide)) (ix_lt rx_29 (by decide) hb_1n (by decide)) dX12_come_22 (fun I_38 hI_38 => ?_)
        have hU_39 := iw_put W9 hU_31 hI_38 (ro_a hb_1k (by decide) hb_1o hkx rfl) (lo := 0) (hi := 255) (rfl) (rx_37) rfl
        have hF_40 := fq_puta hF_32 hI_38 (ro_a hb_1k (by decide) hb_1o hkx rfl) (by decide) (by decide)
        have hs_41 : MTq I_38 J x b_1 = (MT_.w_tp s_2 (up1 (up1 (up1 (s_2.tp) (xp0.toNatClampNeg) (x_9)) (x_15.toNatClampNeg) (x_23)) (x_29.toNatClampNeg) (x_37))) := by rw [hI_38]; exact ((mq_tp wmqx).trans (congrArg (fun z : MT_ => MT_.w_tp z (up1 (z.tp) (x_29.toNatClampNeg) (x_37))) hs_33)).trans rfl
        have hs_42 : NRq I_38 J x b_3 b_4 = (NR_.w_taped s_5 (x_29)) := by rw [hI_38]; exact (nq_oI wnqx (ro_a hb_1k (by decide) hb_1o hkx rfl) (by decide)).trans hs_34
        refine g_aload_n C 1 dX12_come_23 rfl rfl ?_
        refine g_dup C dX12_come_24 rfl ?_
        refine g_getI C K hLx hkx f_12_85 (v := x_29) (kp_k (κ := κ) hI_38 (by rw [hkx, hb_1k]; decide) (kp_s hI_30)) dX12_come_25 ?_
        refine g_iconst C (v := 1) dX12_come_28 (by decide) ?_
        obtain ⟨x_43, hx_43, rx_43, tx_43⟩ := ex_add 3 939 rx_29 rc_1 (by decide) (by decide) (by decide) (by decide)
        refine g_iadd C (v := x_43) dX12_come_29 hx_43 ?_
        refine h_putI C K hLx hkx f_12_85 p_12_2 dX12_come_30 (fun I_44 hI_44 => ?_)
        have hU_45 := iw_put W9 hU_39 hI_44 (ro_o hkx (by decide)) (lo := 0) (hi := 940) (rfl) (rg_w rx_43 (by decide) (by decide)) rfl
        have hF_46 := fq_puto hF_40 hI_44 hkx (by decide) (by decide)
        have hs_47 : MTq I_44 J x b_1 = (MT_.w_tp s_2 (up1 (up1 (up1 (s_2.tp) (xp0.toNatClampNeg) (x_9)) (x_15.toNatClampNeg) (x_23)) (x_29.toNatClampNeg) (x_37))) := by rw [hI_44]; exact (mq_uIt wmqx (by decide)).trans hs_41
        have hs_48 : NRq I_44 J x b_3 b_4 = (NR_.w_taped s_5 (x_43)) := by rw [hI_44]; exact ((nq_taped wnqx).trans (congrArg (fun z : NR_ => NR_.w_taped z (x_43)) hs_42)).trans rfl
        refine g_iinc C dX12_come_33 (k := 0) (v := 0) rfl (by decide) (by decide) (lo2 := [(2, .int 0), (0, .ref x), (1, .int a0)]) rfl ?_
        refine g_goto C (tgt := 3) dX12_come_36 (by decide) ?_
        refine g_iload_n C 0 dX12_come_3 rfl rfl ?_
        refine g_if_lt C (tgt := 39) dX12_come_4 (by decide) (fun h_49 => ?_) (fun h_49 => ?_)
        · skip
          exact absurd (h_49) (by decide)
        · skip
          refine g_aload_n C 1 dX12_come_7 rfl rfl ?_
          refine g_getR C K hLx hkx f_12_7 hb_1 dX12_come_8 ?_
          refine g_aload_n C 1 dX12_come_11 rfl rfl ?_
          refine g_getI C K hLx hkx f_12_85 (v := x_43) (kp_s hI_44) dX12_come_12 ?_
          refine g_iload_n C 2 dX12_come_15 rfl rfl ?_
          refine g_iload_n C 0 dX12_come_16 rfl rfl ?_
          obtain ⟨x_50, hx_50, rx_50⟩ := ex_any (z0 := (Int32.toUInt32 (a0) >>> (Int32.toUInt32 (0) &&& Int32.toUInt32 31)).toInt32)
          refine g_iushr C (v := x_50) dX12_come_17 hx_50 ?_
          refine g_sipush C (v := 255) dX12_come_18 (by decide) ?_
          obtain ⟨x_51, hx_51, rx_51⟩ := ex_andr (x := x_50) (y := 255) (b := 255) (rg_w rc_255 (by decide) (by decide))
          refine g_iand C (v := x_51) dX12_come_21 hx_51 ?_
          refine h_iast C K hb_1L hb_1k (x_43.toNatClampNeg) (rfl) (ix_0 rx_43 (by decide)) (ix_lt rx_43 (by decide) hb_1n (by decide)) dX12_come_22 (fun I_52 hI_52 => ?_)
          have hU_53 := iw_put W9 hU_45 hI_52 (ro_a hb_1k (by decide) hb_1o hkx rfl) (lo := 0) (hi := 255) (rfl) (rx_51) rfl
          have hF_54 := fq_puta hF_46 hI_52 (ro_a hb_1k (by decide) hb_1o hkx rfl) (by decide) (by decide)
          have hs_55 : MTq I_52 J x b_1 = (MT_.w_tp s_2 (up1 (up1 (up1 (up1 (s_2.tp) (xp0.toNatClampNeg) (x_9)) (x_15.toNatClampNeg) (x_23)) (x_29.toNatClampNeg) (x_37)) (x_43.toNatClampNeg) (x_51))) := by rw [hI_52]; exact ((mq_tp wmqx).trans (congrArg (fun z : MT_ => MT_.w_tp z (up1 (z.tp) (x_43.toNatClampNeg) (x_51))) hs_47)).trans rfl
          have hs_56 : NRq I_52 J x b_3 b_4 = (NR_.w_taped s_5 (x_43)) := by rw [hI_52]; exact (nq_oI wnqx (ro_a hb_1k (by decide) hb_1o hkx rfl) (by decide)).trans hs_48
          refine g_aload_n C 1 dX12_come_23 rfl rfl ?_
          refine g_dup C dX12_come_24 rfl ?_
          refine g_getI C K hLx hkx f_12_85 (v := x_43) (kp_k (κ := κ) hI_52 (by rw [hkx, hb_1k]; decide) (kp_s hI_44)) dX12_come_25 ?_
          refine g_iconst C (v := 1) dX12_come_28 (by decide) ?_
          obtain ⟨x_57, hx_57, rx_57, tx_57⟩ := ex_add 4 940 rx_43 rc_1 (by decide) (by decide) (by decide) (by decide)
          refine g_iadd C (v := x_57) dX12_come_29 hx_57 ?_
          refine h_putI C K hLx hkx f_12_85 p_12_2 dX12_come_30 (fun I_58 hI_58 => ?_)
          have hU_59 := iw_put W9 hU_53 hI_58 (ro_o hkx (by decide)) (lo := 0) (hi := 940) (rfl) (rg_w rx_57 (by decide) (by decide)) rfl
          have hF_60 := fq_puto hF_54 hI_58 hkx (by decide) (by decide)
          have hs_61 : MTq I_58 J x b_1 = (MT_.w_tp s_2 (up1 (up1 (up1 (up1 (s_2.tp) (xp0.toNatClampNeg) (x_9)) (x_15.toNatClampNeg) (x_23)) (x_29.toNatClampNeg) (x_37)) (x_43.toNatClampNeg) (x_51))) := by rw [hI_58]; exact (mq_uIt wmqx (by decide)).trans hs_55
          have hs_62 : NRq I_58 J x b_3 b_4 = (NR_.w_taped s_5 (x_57)) := by rw [hI_58]; exact ((nq_taped wnqx).trans (congrArg (fun z : NR_ => NR_.w_taped z (x_57)) hs_56)).trans rfl
          refine g_iinc C dX12_come_33 (k := 0) (v := (-8)) rfl (by decide) (by decide) (lo2 := [(2, .int (-8)), (0, .ref x), (1, .int a0)]) rfl ?_
          refine g_goto C (tgt := 3) dX12_come_36 (by decide) ?_
          refine g_iload_n C 0 dX12_come_3 rfl rfl ?_
          refine g_if_lt C (tgt := 39) dX12_come_4 (by decide) (fun h_63 => ?_) (fun h_63 => ?_)
          · skip
            exact g_vret B K rfl ⟨hU_59, hF_60, hG, (by simp only [mCome, mPutB, emqx, hs_61, hs_2, enqx, hs_62, hs_5, h_6, (nlt h_6), f_7, hx_8, hx_9, hx_15, h_21, (nlt h_21), hx_22, hx_23, hx_29, h_35, (nlt h_35), hx_36, hx_37, hx_43, h_49, (nlt h_49), hx_50, hx_51, hx_57, h_63, if_true, if_false, mqM_tp, mqM_size, mqM_limit, mqM_to, mqM_frm, mqM_kind, mqM_number, mqM_sign, mqM_word, MT_.w_tp, MT_.w_size, MT_.w_limit, MT_.w_to, MT_.w_frm, MT_.w_kind, MT_.w_number, MT_.w_sign, MT_.w_word, nqM_rd, nqM_rn, nqM_taped, nqM_mfault, nqM_mplace, nqM_told, nqM_hl, nqM_hd, NR_.w_rd, NR_.w_rn, NR_.w_taped, NR_.w_mfault, NR_.w_mplace, NR_.w_told, NR_.w_hl, NR_.w_hd]), (cm_4 (kp_s hI_58) hxp0 (by have := (ti_k tx_57 rc_1); have := (ti_k tx_43 rc_1); have := (ti_k tx_29 rc_1); have := (ti_k tx_15 rc_1); omega))⟩ dX12_come_39
          · skip
            exact absurd (nlt h_63) (by decide)
set_option maxRecDepth 100000 in
set_option maxHeartbeats 8000000 in
theorem c_X12_feed {l : Launch} {D : va_G} {cy : Nat → ClassId} {L : List Nat} {κ ln : Nat → Nat} {R : Nat → Nat → Option Nat} {I : Nat → Nat → Int32} {J : Nat → Nat → Int64} {ow : Nat → Nat × Nat} (W9 : ∀ a ∈ L, Shp L κ ln R ow a) {x : Nat} (hLx : x ∈ L) (hkx : κ x = 12) (a0 : Int32) (a1 : Int32) (a2 : Int32) (a3 : Int32) (a4 : Int32) (hU : Iw L κ R ow I) : CtI l yX12_feed cX12_feed 6 (some .int) { frames := 1, cells := 0, slots := 0, locals := 22 } D cy L κ ln R I J [.ref x, .int a0, .int a1, .int a2, .int a3, .int a4] (fun r I2 J2 => Iw L κ R ow I2 ∧ Fq L κ ow [1200, 1202, 82100] I I2 ∧ Fq L κ ow [] J J2 ∧ Rg (-1) 940 r ∧ ((r, MTf R I2 J2 x, NRf R I2 J2 x) = mFeed a0 a1 a2 a3 a4 (MTf R I J x) (NRf R I J x))) := by
  refine CtI.of (by decide +kernel) (Nat.le_of_ble_eq_true rfl) ?_
  intro p e s m below meth c B K
  have C := B.1
  have hF : Fq L κ ow [1200, 1202, 82100] I I := fq_rf
  have hG : Fq L κ ow [] J J := fq_rf
  obtain ⟨b_1, hb_1, hb_1L, hb_1k, hb_1n, hb_1o⟩ := shp_a (W9 x hLx) hkx 1 14 940 rfl (by decide)
  have emqx : ∀ I J, MTf R I J x = MTq I J x b_1 := fun I J => by simp only [MTf, rr_, Option.getD_some, hb_1]
  have wmqx : mqw_ L κ ow x b_1 := ⟨⟨hLx, hb_1L⟩, ⟨(ro_o hkx (by decide)), (ro_a hb_1k (by decide) hb_1o hkx rfl)⟩⟩
  obtain ⟨s_2, hs_2⟩ : ∃ z, MTq I J x b_1 = z := ⟨_, rfl⟩
  obtain ⟨b_3, hb_3, hb_3L, hb_3k, hb_3n, hb_3o⟩ := shp_a (W9 x hLx) hkx 15 14 72 rfl (by decide)
  obtain ⟨b_4, hb_4, hb_4L, hb_4k, hb_4n, hb_4o⟩ := shp_a (W9 x hLx) hkx 20 15 13 rfl (by decide)
  have enqx : ∀ I J, NRf R I J x = NRq I J x b_3 b_4 := fun I J => by simp only [NRf, rr_, Option.getD_some, hb_3, hb_4]
  have wnqx : nqw_ L κ ow x b_3 b_4 := ⟨⟨hLx, hb_3L, hb_4L⟩, ⟨(ro_o hkx (by decide)), (ro_a hb_3k (by decide) hb_3o hkx rfl), (ro_a hb_4k (by decide) hb_4o hkx rfl)⟩⟩
  obtain ⟨s_5, hs_5⟩ : ∃ z, NRq I J x b_3 b_4 = z := ⟨_, rfl⟩
  refine g_lo (is := [0, 1, 2, 3, 4, 5]) (lo2 := [(0, .ref x), (1, .int a0), (2, .int a1), (3, .int a2), (4, .int a3), (5, .int a4)]) rfl ?_
  refine g_aload_n C 0 dX12_feed_0 rfl rfl ?_
  refine g_iconst C (v := 0) dX12_feed_1 (by decide) ?_
  refine h_putI C K hLx hkx f_12_82 p_12_0 dX12_feed_2 (fun I_6 hI_6 => ?_)
  have hU_7 := iw_put W9 hU hI_6 (ro_o hkx (by decide)) (lo := (-2147483648)) (hi := 2147483647) (rfl) (rg_all _) rfl
  have hF_8 := fq_puto hF hI_6 hkx (by decide) (by decide)
  have hs_9 : MTq I_6 J x b_1 = s_2 := by rw [hI_6]; exact (mq_uIt wmqx (by decide)).trans hs_2
  have hs_10 : NRq I_6 J x b_3 b_4 = s_5 := by rw [hI_6]; exact (nq_uIt wnqx (by decide)).trans hs_5
  refine g_aload_n C 0 dX12_feed_5 rfl rfl ?_
  obtain ⟨x_11, hx_11, rx_11⟩ := ex_getw (I := I_6) (a := x) (j := 2) (lo := 0) (hi := 940) hU_7.1 hLx (ro_o hkx (by decide)) rfl
  have f_12 : s_5.taped = x_11 := (congrArg NR_.taped hs_10).symm.trans hx_11
  refine g_getI C K hLx hkx f_12_85 (v := x_11) hx_11 dX12_feed_6 ?_
  refine g_bipush C (v := 20) dX12_feed_9 (by decide) ?_
  obtain ⟨x_13, hx_13, rx_13, tx_13⟩ := ex_add 20 960 rx_11 rc_20 (by decide) (by decide) (by decide) (by decide)
  refine g_iadd C (v := x_13) dX12_feed_11 hx_13 ?_
  refine g_sipush C (v := 940) dX12_feed_12 (by decide) ?_
  refine g_icmp_le C (tgt := 20) dX12_feed_15 (by decide) (fun h_14 => ?_) (fun h_14 => ?_)
  · skip
    have r_15 := le_l (h_14) rx_13 rc_940
    have r_16 := rg_der (k := 20) (lo := 0) (hi := 920) (ti_k tx_13 rc_20) r_15 rx_11 (by decide) (by decide)
    refine g_aload_n C 0 dX12_feed_20 rfl rfl ?_
    refine g_iload_n C 1 dX12_feed_21 rfl rfl ?_
    refine g_callVV C K (c_X12_come W9 hLx hkx a0  hU_7  (eq_rg hx_11 (rg_w r_16 (by decide) (by decide)))) hLx hkx (by decide) rfl v_12_88 rfl ⟨rfl, rfl⟩ ⟨Nat.le_of_ble_eq_true rfl, Nat.le_of_ble_eq_true rfl⟩ (Nat.le_of_ble_eq_true rfl) ⟨Nat.le_of_ble_eq_true rfl, Nat.le_of_ble_eq_true rfl⟩ dX12_feed_22 rfl (st := []) (fun I_18 J_19 h_20 => ?_)
    obtain ⟨hUI_18, hFI_18, hGJ_19, fx_17, ex_17⟩ := h_20
    have hF_21 := fq_tr hF_8 hFI_18 (by decide)
    have hG_22 := fq_tr hG hGJ_19 (by decide)
    obtain ⟨s_24, hs_24⟩ : ∃ z, MTq I_18 J_19 x b_1 = z := ⟨_, rfl⟩
    obtain ⟨s_25, hs_25⟩ : ∃ z, NRq I_18 J_19 x b_3 b_4 = z := ⟨_, rfl⟩
    have c_23 : mCome (a0) (s_2) (s_5) = (s_24, s_25) := by have q := fx_17; simp only [emqx, enqx, hs_9, hs_10, hs_24, hs_25] at q; exact q.symm
    obtain ⟨x_26, hx_26, rx_26, tx_26⟩ := cm_x 4 924 ex_17 hx_11 r_16 (by decide) (by decide)
    refine g_aload_n C 0 dX12_feed_25 rfl rfl ?_
    refine g_iload_n C 2 dX12_feed_26 rfl rfl ?_
    have f_27 : s_25.taped = x_26 := (congrArg NR_.taped hs_25).symm.trans hx_26
    refine g_callVV C K (c_X12_come W9 hLx hkx a1  hUI_18  (eq_rg hx_26 (rg_w rx_26 (by decide) (by decide)))) hLx hkx (by decide) rfl v_12_88 rfl ⟨rfl, rfl⟩ ⟨Nat.le_of_ble_eq_true rfl, Nat.le_of_ble_eq_true rfl⟩ (Nat.le_of_ble_eq_true rfl) ⟨Nat.le_of_ble_eq_true rfl, Nat.le_of_ble_eq_true rfl⟩ dX12_feed_27 rfl (st := []) (fun I_29 J_30 h_31 => ?_)
    obtain ⟨hUI_29, hFI_29, hGJ_30, fx_28, ex_28⟩ := h_31
    have hF_32 := fq_tr hF_21 hFI_29 (by decide)
    have hG_33 := fq_tr hG_22 hGJ_30 (by decide)
    obtain ⟨s_35, hs_35⟩ : ∃ z, MTq I_29 J_30 x b_1 = z := ⟨_, rfl⟩
    obtain ⟨s_36, hs_36⟩ : ∃ z, NRq I_29 J_30 x b_3 b_4 = z := ⟨_, rfl⟩
    have c_34 : mCome (a1) (s_24) (s_25) = (s_35, s_36) := by have q := fx_28; simp only [emqx, enqx, hs_24, hs_25, hs_35, hs_36] at q; exact q.symm
    obtain ⟨x_37, hx_37, rx_37, tx_37⟩ := cm_x 8 928 ex_28 hx_26 rx_26 (by decide) (by decide)
    refine g_aload_n C 0 dX12_feed_30 rfl rfl ?_
    refine g_iload_n C 3 dX12_feed_31 rfl rfl ?_
    have f_38 : s_36.taped = x_37 := (congrArg NR_.taped hs_36).symm.trans hx_37
    refine g_callVV C K (c_X12_come W9 hLx hkx a2  hUI_29  (eq_rg hx_37 (rg_w rx_37 (by decide) (by decide)))) hLx hkx (by decide) rfl v_12_88 rfl ⟨rfl, rfl⟩ ⟨Nat.le_of_ble_eq_true rfl, Nat.le_of_ble_eq_true rfl⟩ (Nat.le_of_ble_eq_true rfl) ⟨Nat.le_of_ble_eq_true rfl, Nat.le_of_ble_eq_true rfl⟩ dX12_feed_32 rfl (st := []) (fun I_40 J_41 h_42 => ?_)
    obtain ⟨hUI_40, hFI_40, hGJ_41, fx_39, ex_39⟩ := h_42
    have hF_43 := fq_tr hF_32 hFI_40 (by decide)
    have hG_44 := fq_tr hG_33 hGJ_41 (by decide)
    obtain ⟨s_46, hs_46⟩ : ∃ z, MTq I_40 J_41 x b_1 = z := ⟨_, rfl⟩
    obtain ⟨s_47, hs_47⟩ : ∃ z, NRq I_40 J_41 x b_3 b_4 = z := ⟨_, rfl⟩
    have c_45 : mCome (a2) (s_35) (s_36) = (s_46, s_47) := by have q := fx_39; simp only [emqx, enqx, hs_35, hs_36, hs_46, hs_47] at q; exact q.symm
    obtain ⟨x_48, hx_48, rx_48, tx_48⟩ := cm_x 12 932 ex_39 hx_37 rx_37 (by decide) (by decide)
    refine g_aload_n C 0 dX12_feed_35 rfl rfl ?_
    refine g_iload C 4 dX12_feed_36 rfl ?_
    have f_49 : s_47.taped = x_48 := (congrArg NR_.taped hs_47).symm.trans hx_48
    refine g_callVV C K (c_X12_come W9 hLx hkx a3  hUI_40  (eq_rg hx_48 (rg_w rx_48 (by decide) (by decide)))) hLx hkx (by decide) rfl v_12_88 rfl ⟨rfl, rfl⟩ ⟨Nat.le_of_ble_eq_true rfl, Nat.le_of_ble_eq_true rfl⟩ (Nat.le_of_ble_eq_true rfl) ⟨Nat.le_of_ble_eq_true rfl, Nat.le_of_ble_eq_true rfl⟩ dX12_feed_38 rfl (st := []) (fun I_51 J_52 h_53 => ?_)
    obtain ⟨hUI_51, hFI_51, hGJ_52, fx_50, ex_50⟩ := h_53
    have hF_54 := fq_tr hF_43 hFI_51 (by decide)
    have hG_55 := fq_tr hG_44 hGJ_52 (by decide)
    obtain ⟨s_57, hs_57⟩ : ∃ z, MTq I_51 J_52 x b_1 = z := ⟨_, rfl⟩
    obtain ⟨s_58, hs_58⟩ : ∃ z, NRq I_51 J_52 x b_3 b_4 = z := ⟨_, rfl⟩
    have c_56 : mCome (a3) (s_46) (s_47) = (s_57, s_58) := by have q := fx_50; simp only [emqx, enqx, hs_46, hs_47, hs_57, hs_58] at q; exact q.symm
    obtain ⟨x_59, hx_59, rx_59, tx_59⟩ := cm_x 16 936 ex_50 hx_48 rx_48 (by decide) (by decide)
    refine g_aload_n C 0 dX12_feed_41 rfl rfl ?_
    refine g_iload C 5 dX12_feed_42 rfl ?_
    have f_60 : s_58.taped = x_59 := (congrArg NR_.taped hs_58).symm.trans hx_59
    refine g_callVV C K (c_X12_come W9 hLx hkx a4  hUI_51  (eq_rg hx_59 (rg_w rx_59 (by decide) (by decide)))) hLx hkx (by decide) rfl v_12_88 rfl ⟨rfl, rfl⟩ ⟨Nat.le_of_ble_eq_true rfl, Nat.le_of_ble_eq_true rfl⟩ (Nat.le_of_ble_eq_true rfl) ⟨Nat.le_of_ble_eq_true rfl, Nat.le_of_ble_eq_true rfl⟩ dX12_feed_44 rfl (st := []) (fun I_62 J_63 h_64 => ?_)
    obtain ⟨hUI_62, hFI_62, hGJ_63, fx_61, ex_61⟩ := h_64
    have hF_65 := fq_tr hF_54 hFI_62 (by decide)
    have hG_66 := fq_tr hG_55 hGJ_63 (by decide)
    obtain ⟨s_68, hs_68⟩ : ∃ z, MTq I_62 J_63 x b_1 = z := ⟨_, rfl⟩
    obtain ⟨s_69, hs_69⟩ : ∃ z, NRq I_62 J_63 x b_3 b_4 = z := ⟨_, rfl⟩
    have c_67 : mCome (a4) (s_57) (s_58) = (s_68, s_69) := by have q := fx_61; simp only [emqx, enqx, hs_57, hs_58, hs_68, hs_69] at q; exact q.symm
    obtain ⟨x_70, hx_70, rx_70, tx_70⟩ := cm_x 20 940 ex_61 hx_59 rx_59 (by decide) (by decide)
    refine g_aload_n C 0 dX12_feed_47 rfl rfl ?_
    have f_71 : s_69.taped = x_70 := (congrArg NR_.taped hs_69).symm.trans hx_70
    refine g_getI C K hLx hkx f_12_85 (v := x_70) hx_70 dX12_feed_48 ?_
    exact g_zret (ty := .int) (r := x_70) B K rfl (rfl) ⟨hUI_62, hF_65, hG_66, rg_w rx_70 (by decide) (by decide), (by simp only [mFeed, emqx, hs_68, hs_2, enqx, hs_69, hs_5, hx_11, f_12, hx_13, h_14, c_23, hx_26, f_27, c_34, hx_37, f_38, c_45, hx_48, f_49, c_56, hx_59, f_60, c_67, hx_70, f_71, if_true, if_false, mqM_tp, mqM_size, mqM_limit, mqM_to, mqM_frm, mqM_kind, mqM_number, mqM_sign, mqM_word, MT_.w_tp, MT_.w_size, MT_.w_limit, MT_.w_to, MT_.w_frm, MT_.w_kind, MT_.w_number, MT_.w_sign, MT_.w_word, nqM_rd, nqM_rn, nqM_taped, nqM_mfault, nqM_mplace, nqM_told, nqM_hl, nqM_hd, NR_.w_rd, NR_.w_rn, NR_.w_taped, NR_.w_mfault, NR_.w_mplace, NR_.w_told, NR_.w_hl, NR_.w_hd])⟩ dX12_feed_51
  · skip
    have r_72 := lt_r (lo := 941) (nle h_14) rc_940 rx_13 (by decide)
    have r_73 := rg_der (k := 20) (lo := 921) (hi := 940) (ti_k tx_13 rc_20) r_72 rx_11 (by decide) (by decide)
    refine g_iconst C (v := (-1)) dX12_feed_18 (by decide) ?_
    exact g_zret (ty := .int) (r := (-1)) B K rfl (rfl) ⟨hU_7, hF_8, hG, rg_w rc_m1 (by decide) (by decide), (by simp only [mFeed, emqx, hs_9, hs_2, enqx, hs_10, hs_5, hx_11, f_12, hx_13, h_14, (nle h_14), if_true, if_false, mqM_tp, mqM_size, mqM_limit, mqM_to, mqM_frm, mqM_kind, mqM_number, mqM_sign, mqM_word, MT_.w_tp, MT_.w_size, MT_.w_limit, MT_.w_to, MT_.w_frm, MT_.w_kind, MT_.w_number, MT_.w_sign, MT_.w_word, nqM_rd, nqM_rn, nqM_taped, nqM_mfault, nqM_mplace, nqM_told, nqM_hl, nqM_hd, NR_.w_rd, NR_.w_rn, NR_.w_taped, NR_.w_mfault, NR_.w_mplace, NR_.w_told, NR_.w_hl, NR_.w_hd])⟩ dX12_feed_19
set_option maxRecDepth 100000 in
set_option maxHeartbeats 8000000 in
theorem c_X12_end {l : Launch} {D : va_G} {cy : Nat → ClassId} {L : List Nat} {κ ln : Nat → Nat} {R : Nat → Nat → Option Nat} {I : Nat → Nat → Int32} {J : Nat → Nat → Int64} {ow : Nat → Nat × Nat} (W9 : ∀ a ∈ L, Shp L κ ln R ow a) {x : Nat} (hLx : x ∈ L) (hkx : κ x = 12) (a0 : Int32) (hU : Iw L κ R ow I) : CtI l yX12_end cX12_end 2 (some .boolean) { frames := 0, cells := 0, slots := 0, locals := 0 } D cy L κ ln R I J [.ref x, .int a0] (fun r I2 J2 => Iw L κ R ow I2 ∧ Fq L κ ow [1200, 1202] I I2 ∧ Fq L κ ow [] J J2 ∧ Rg 0 1 r) := by
  refine CtI.of (by decide +kernel) (Nat.le_of_ble_eq_true rfl) ?_
  intro p e s m below meth c B K
  have C := B.1
  have hF : Fq L κ ow [1200, 1202] I I := fq_rf
  have hG : Fq L κ ow [] J J := fq_rf
  refine g_lo (is := [0, 1]) (lo2 := [(0, .ref x), (1, .int a0)]) rfl ?_
  refine g_aload_n C 0 dX12_end_0 rfl rfl ?_
  refine g_iconst C (v := 0) dX12_end_1 (by decide) ?_
  refine h_putI C K hLx hkx f_12_82 p_12_0 dX12_end_2 (fun I_1 hI_1 => ?_)
  have hU_2 := iw_put W9 hU hI_1 (ro_o hkx (by decide)) (lo := (-2147483648)) (hi := 2147483647) (rfl) (rg_all _) rfl
  have hF_3 := fq_puto hF hI_1 hkx (by decide) (by decide)
  refine g_iload_n C 1 dX12_end_5 rfl rfl ?_
  refine g_if_lt C (tgt := 17) dX12_end_6 (by decide) (fun h_4 => ?_) (fun h_4 => ?_)
  · skip
    have r_5 := lt_l (hi := (-1)) (h_4) (rg_all a0) rc_0 (by decide)
    refine g_iconst C (v := 0) dX12_end_17 (by decide) ?_
    exact g_zret (ty := .boolean) (r := 0) B K rfl (rfl) ⟨hU_2, hF_3, hG, rg_w rc_0 (by decide) (by decide)⟩ dX12_end_18
  · skip
    have r_6 := le_r (nlt h_4) rc_0 (rg_all a0)
    refine g_iload_n C 1 dX12_end_9 rfl rfl ?_
    refine g_aload_n C 0 dX12_end_10 rfl rfl ?_
    obtain ⟨x_7, hx_7, rx_7⟩ := ex_getw (I := I_1) (a := x) (j := 2) (lo := 0) (hi := 940) hU_2.1 hLx (ro_o hkx (by decide)) rfl
    refine g_getI C K hLx hkx f_12_85 (v := x_7) hx_7 dX12_end_11 ?_
    refine g_icmp_le C (tgt := 19) dX12_end_14 (by decide) (fun h_8 => ?_) (fun h_8 => ?_)
    · skip
      have r_9 := le_l (h_8) r_6 rx_7
      refine g_aload_n C 0 dX12_end_19 rfl rfl ?_
      refine g_iload_n C 1 dX12_end_20 rfl rfl ?_
      refine h_putI C K hLx hkx f_12_85 p_12_2 dX12_end_21 (fun I_10 hI_10 => ?_)
      have hU_11 := iw_put W9 hU_2 hI_10 (ro_o hkx (by decide)) (lo := 0) (hi := 940) (rfl) (r_9) rfl
      have hF_12 := fq_puto hF_3 hI_10 hkx (by decide) (by decide)
      refine g_iconst C (v := 1) dX12_end_24 (by decide) ?_
      exact g_zret (ty := .boolean) (r := 1) B K rfl (rfl) ⟨hU_11, hF_12, hG, rg_w rc_1 (by decide) (by decide)⟩ dX12_end_25
    · skip
      have r_13 := lt_r (lo := 1) (nle h_8) rx_7 r_6 (by decide)
      refine g_iconst C (v := 0) dX12_end_17 (by decide) ?_
      exact g_zret (ty := .boolean) (r := 0) B K rfl (rfl) ⟨hU_2, hF_3, hG, rg_w rc_0 (by decide) (by decide)⟩ dX12_end_18
set_option maxRecDepth 100000 in
set_option maxHeartbeats 8000000 in
theorem c_X12_isDigit {l : Launch} {D : va_G} {cy : Nat → ClassId} {L : List Nat} {κ ln : Nat → Nat} {R : Nat → Nat → Option Nat} {I : Nat → Nat → Int32} {J : Nat → Nat → Int64} {ow : Nat → Nat × Nat} (W9 : ∀ a ∈ L, Shp L κ ln R ow a) (a0 : Int32) (hU : Iw L κ R ow I) : CtI l yX12_isDigit cX12_isDigit 1 (some .boolean) { frames := 0, cells := 0, slots := 0, locals := 0 } D cy L κ ln R I J [.int a0] (fun r I2 J2 => I = I2 ∧ J = J2 ∧ Rg 0 1 r ∧ (r = isDc a0) ∧ (¬ r = 0 ∨ a0.toInt < 48 ∨ 57 < a0.toInt) ∧ (¬ r = 0 → Rg 48 57 a0)) := by
  refine CtI.of (by decide +kernel) (Nat.le_of_ble_eq_true rfl) ?_
  intro p e s m below meth c B K
  have C := B.1
  refine g_lo (is := [0]) (lo2 := [(0, .int a0)]) rfl ?_
  refine g_iload_n C 0 dX12_isDigit_0 rfl rfl ?_
  refine g_bipush C (v := 48) dX12_isDigit_1 (by decide) ?_
  refine g_icmp_lt C (tgt := 16) dX12_isDigit_3 (by decide) (fun h_1 => ?_) (fun h_1 => ?_)
  · skip
    have r_2 := lt_l (hi := 47) (h_1) (rg_all a0) rc_48 (by decide)
    refine g_iconst C (v := 0) dX12_isDigit_16 (by decide) ?_
    exact g_zret (ty := .boolean) (r := 0) B K rfl (rfl) ⟨rfl, rfl, rg_w rc_0 (by decide) (by decide), (by simp only [isDc, h_1, if_true, if_false]), (Or.inr (Or.inl (by have := (r_2).2; omega))), (fun q => absurd rfl q)⟩ dX12_isDigit_17
  · skip
    have r_3 := le_r (nlt h_1) rc_48 (rg_all a0)
    refine g_iload_n C 0 dX12_isDigit_6 rfl rfl ?_
    refine g_bipush C (v := 57) dX12_isDigit_7 (by decide) ?_
    refine g_icmp_gt C (tgt := 16) dX12_isDigit_9 (by decide) (fun h_4 => ?_) (fun h_4 => ?_)
    · skip
      have r_5 := lt_r (lo := 58) (h_4) rc_57 r_3 (by decide)
      refine g_iconst C (v := 0) dX12_isDigit_16 (by decide) ?_
      exact g_zret (ty := .boolean) (r := 0) B K rfl (rfl) ⟨rfl, rfl, rg_w rc_0 (by decide) (by decide), (by simp only [isDc, h_1, (nlt h_1), h_4, if_true, if_false]), (Or.inr (Or.inr (by have := (r_5).1; omega))), (fun q => absurd rfl q)⟩ dX12_isDigit_17
    · skip
      have r_6 := le_l (nlt h_4) r_3 rc_57
      refine g_iconst C (v := 1) dX12_isDigit_12 (by decide) ?_
      refine g_goto C (tgt := 17) dX12_isDigit_13 (by decide) ?_
      exact g_zret (ty := .boolean) (r := 1) B K rfl (rfl) ⟨rfl, rfl, rg_w rc_1 (by decide) (by decide), (by simp only [isDc, h_1, (nlt h_1), h_4, (nlt h_4), if_true, if_false]), (Or.inl (by decide)), (fun _ => r_6)⟩ dX12_isDigit_17
set_option maxRecDepth 100000 in
set_option maxHeartbeats 8000000 in
theorem c_X12_isLetter {l : Launch} {D : va_G} {cy : Nat → ClassId} {L : List Nat} {κ ln : Nat → Nat} {R : Nat → Nat → Option Nat} {I : Nat → Nat → Int32} {J : Nat → Nat → Int64} {ow : Nat → Nat × Nat} (W9 : ∀ a ∈ L, Shp L κ ln R ow a) (a0 : Int32) (hU : Iw L κ R ow I) : CtI l yX12_isLetter cX12_isLetter 1 (some .boolean) { frames := 0, cells := 0, slots := 0, locals := 0 } D cy L κ ln R I J [.int a0] (fun r I2 J2 => I = I2 ∧ J = J2 ∧ Rg 0 1 r ∧ (r = isLc a0) ∧ (¬ r = 0 ∨ a0.toInt < 97 ∨ 122 < a0.toInt) ∧ (¬ r = 0 → Rg 97 122 a0)) := by
  refine CtI.of (by decide +kernel) (Nat.le_of_ble_eq_true rfl) ?_
  intro p e s m below meth c B K
  have C := B.1
  refine g_lo (is := [0]) (lo2 := [(0, .int a0)]) rfl ?_
  refine g_iload_n C 0 dX12_isLetter_0 rfl rfl ?_
  refine g_bipush C (v := 97) dX12_isLetter_1 (by decide) ?_
  refine g_icmp_lt C (tgt := 16) dX12_isLetter_3 (by decide) (fun h_1 => ?_) (fun h_1 => ?_)
  · skip
    have r_2 := lt_l (hi := 96) (h_1) (rg_all a0) rc_97 (by decide)
    refine g_iconst C (v := 0) dX12_isLetter_16 (by decide) ?_
    exact g_zret (ty := .boolean) (r := 0) B K rfl (rfl) ⟨rfl, rfl, rg_w rc_0 (by decide) (by decide), (by simp only [isLc, h_1, if_true, if_false]), (Or.inr (Or.inl (by have := (r_2).2; omega))), (fun q => absurd rfl q)⟩ dX12_isLetter_17
  · skip
    have r_3 := le_r (nlt h_1) rc_97 (rg_all a0)
    refine g_iload_n C 0 dX12_isLetter_6 rfl rfl ?_
    refine g_bipush C (v := 122) dX12_isLetter_7 (by decide) ?_
    refine g_icmp_gt C (tgt := 16) dX12_isLetter_9 (by decide) (fun h_4 => ?_) (fun h_4 => ?_)
    · skip
      have r_5 := lt_r (lo := 123) (h_4) rc_122 r_3 (by decide)
      refine g_iconst C (v := 0) dX12_isLetter_16 (by decide) ?_
      exact g_zret (ty := .boolean) (r := 0) B K rfl (rfl) ⟨rfl, rfl, rg_w rc_0 (by decide) (by decide), (by simp only [isLc, h_1, (nlt h_1), h_4, if_true, if_false]), (Or.inr (Or.inr (by have := (r_5).1; omega))), (fun q => absurd rfl q)⟩ dX12_isLetter_17
    · skip
      have r_6 := le_l (nlt h_4) r_3 rc_122
      refine g_iconst C (v := 1) dX12_isLetter_12 (by decide) ?_
      refine g_goto C (tgt := 17) dX12_isLetter_13 (by decide) ?_
      exact g_zret (ty := .boolean) (r := 1) B K rfl (rfl) ⟨rfl, rfl, rg_w rc_1 (by decide) (by decide), (by simp only [isLc, h_1, (nlt h_1), h_4, (nlt h_4), if_true, if_false]), (Or.inl (by decide)), (fun _ => r_6)⟩ dX12_isLetter_17
set_option maxRecDepth 100000 in
set_option maxHeartbeats 8000000 in
theorem c_X12_tapeAt {l : Launch} {D : va_G} {cy : Nat → ClassId} {L : List Nat} {κ ln : Nat → Nat} {R : Nat → Nat → Option Nat} {I : Nat → Nat → Int32} {J : Nat → Nat → Int64} {ow : Nat → Nat × Nat} (W9 : ∀ a ∈ L, Shp L κ ln R ow a) {x : Nat} (hLx : x ∈ L) (hkx : κ x = 12) (a0 : Int32) (ra0 : Rg 0 940 a0) (hU : Iw L κ R ow I) : CtI l yX12_tapeAt cX12_tapeAt 2 (some .int) { frames := 0, cells := 0, slots := 0, locals := 0 } D cy L κ ln R I J [.ref x, .int a0] (fun r I2 J2 => I = I2 ∧ J = J2 ∧ Rg 0 255 r ∧ (r = mTapeAt a0 (MTf R I J x)) ∧ (∀ a, R x 1 = some a → a0 < I x 3 → r = I a a0.toNatClampNeg) ∧ (¬ r = 0 → Rg 0 939 a0)) := by
  refine CtI.of (by decide +kernel) (Nat.le_of_ble_eq_true rfl) ?_
  intro p e s m below meth c B K
  have C := B.1
  obtain ⟨b_1, hb_1, hb_1L, hb_1k, hb_1n, hb_1o⟩ := shp_a (W9 x hLx) hkx 1 14 940 rfl (by decide)
  have emqx : ∀ I J, MTf R I J x = MTq I J x b_1 := fun I J => by simp only [MTf, rr_, Option.getD_some, hb_1]
  have wmqx : mqw_ L κ ow x b_1 := ⟨⟨hLx, hb_1L⟩, ⟨(ro_o hkx (by decide)), (ro_a hb_1k (by decide) hb_1o hkx rfl)⟩⟩
  obtain ⟨s_2, hs_2⟩ : ∃ z, MTq I J x b_1 = z := ⟨_, rfl⟩
  refine g_lo (is := [0, 1]) (lo2 := [(0, .ref x), (1, .int a0)]) rfl ?_
  refine g_iload_n C 1 dX12_tapeAt_0 rfl rfl ?_
  refine g_aload_n C 0 dX12_tapeAt_1 rfl rfl ?_
  obtain ⟨x_3, hx_3, rx_3⟩ := ex_getw (I := I) (a := x) (j := 3) (lo := 0) (hi := 940) hU.1 hLx (ro_o hkx (by decide)) rfl
  have f_4 : s_2.size = x_3 := (congrArg MT_.size hs_2).symm.trans hx_3
  refine g_getI C K hLx hkx f_12_92 (v := x_3) hx_3 dX12_tapeAt_2 ?_
  refine g_icmp_ge C (tgt := 17) dX12_tapeAt_5 (by decide) (fun h_5 => ?_) (fun h_5 => ?_)
  · skip
    refine g_iconst C (v := 0) dX12_tapeAt_17 (by decide) ?_
    exact g_zret (ty := .int) (r := 0) B K rfl (rfl) ⟨rfl, rfl, rg_w rc_0 (by decide) (by decide), (by simp only [mTapeAt, emqx, hs_2, hx_3, f_4, h_5, if_true, if_false, mqM_tp, mqM_size, mqM_limit, mqM_to, mqM_frm, mqM_kind, mqM_number, mqM_sign, mqM_word, MT_.w_tp, MT_.w_size, MT_.w_limit, MT_.w_to, MT_.w_frm, MT_.w_kind, MT_.w_number, MT_.w_sign, MT_.w_word]), (fun a ha hlt => absurd hlt (by rw [hx_3]; exact Int32.not_lt.mpr (h_5))), (fun q => absurd rfl q)⟩ dX12_tapeAt_18
  · skip
    have r_6 := lt_l (hi := 939) (nle h_5) ra0 rx_3 (by decide)
    have r_7 := lt_r (lo := 1) (nle h_5) ra0 rx_3 (by decide)
    refine g_aload_n C 0 dX12_tapeAt_8 rfl rfl ?_
    refine g_getR C K hLx hkx f_12_7 hb_1 dX12_tapeAt_9 ?_
    refine g_iload_n C 1 dX12_tapeAt_12 rfl rfl ?_
    obtain ⟨x_8, hx_8, rx_8⟩ := ex_getw (I := I) (a := b_1) (j := a0.toNatClampNeg) (lo := 0) (hi := 255) hU.1 hb_1L (ro_a hb_1k (by decide) hb_1o hkx rfl) (rfl)
    refine h_iald C K hb_1L hb_1k (v := x_8) (a0.toNatClampNeg) (rfl) (ix_0 r_6 (by decide)) (ix_lt r_6 (by decide) hb_1n (by decide)) hx_8 dX12_tapeAt_13 ?_
    have f_9 : s_2.tp (a0.toNatClampNeg) = x_8 := (congrFun (congrArg MT_.tp hs_2) _).symm.trans hx_8
    refine g_goto C (tgt := 18) dX12_tapeAt_14 (by decide) ?_
    exact g_zret (ty := .int) (r := x_8) B K rfl (rfl) ⟨rfl, rfl, rx_8, (by simp only [mTapeAt, emqx, hs_2, hx_3, f_4, h_5, (nle h_5), hx_8, f_9, if_true, if_false, mqM_tp, mqM_size, mqM_limit, mqM_to, mqM_frm, mqM_kind, mqM_number, mqM_sign, mqM_word, MT_.w_tp, MT_.w_size, MT_.w_limit, MT_.w_to, MT_.w_frm, MT_.w_kind, MT_.w_number, MT_.w_sign, MT_.w_word]), (fun a ha _ => by rw [hb_1] at ha; cases ha; exact hx_8.symm), (fun hq => by have n_10 : ¬ x_8 = 0 := hq; have r_11 := ne_lo (lo := 1) n_10 rx_8 rc_0 rfl (by decide); exact r_6)⟩ dX12_tapeAt_18
set_option maxRecDepth 100000 in
set_option maxHeartbeats 8000000 in
theorem c_X12_go {l : Launch} {D : va_G} {cy : Nat → ClassId} {L : List Nat} {κ ln : Nat → Nat} {R : Nat → Nat → Option Nat} {I : Nat → Nat → Int32} {J : Nat → Nat → Int64} {ow : Nat → Nat × Nat} (W9 : ∀ a ∈ L, Shp L κ ln R ow a) {x : Nat} (hLx : x ∈ L) (hkx : κ x = 12) (hU : Iw L κ R ow I) : CtV l yX12_go cX12_go 5 none { frames := 1, cells := 0, slots := 0, locals := 21 } D cy L κ ln R I J [.ref x] (fun I2 J2 => Iw L κ R ow I2 ∧ Fq L κ ow [1205, 1206, 1207, 1208, 1209] I I2 ∧ Fq L κ ow [1212] J J2 ∧ (MTf R I2 J2 x = mGo (MTf R I J x)) ∧ (Ps_ x I I2)) := by
  obtain ⟨x_1, hx_1, rx_1⟩ := ex_getw (I := I) (a := x) (j := 5) (lo := 0) (hi := 940) hU.1 hLx (ro_o hkx (by decide)) rfl
  refine CtV.of (by decide +kernel) (Nat.le_of_ble_eq_true rfl) ?_
  intro p e s m below meth c B K
  have C := B.1
  have hF : Fq L κ ow [1205, 1206, 1207, 1208, 1209] I I := fq_rf
  have hG : Fq L κ ow [1212] J J := fq_rf
  obtain ⟨b_2, hb_2, hb_2L, hb_2k, hb_2n, hb_2o⟩ := shp_a (W9 x hLx) hkx 1 14 940 rfl (by decide)
  have emqx : ∀ I J, MTf R I J x = MTq I J x b_2 := fun I J => by simp only [MTf, rr_, Option.getD_some, hb_2]
  have wmqx : mqw_ L κ ow x b_2 := ⟨⟨hLx, hb_2L⟩, ⟨(ro_o hkx (by decide)), (ro_a hb_2k (by decide) hb_2o hkx rfl)⟩⟩
  obtain ⟨s_3, hs_3⟩ : ∃ z, MTq I J x b_2 = z := ⟨_, rfl⟩
  refine g_lo (is := [0]) (lo2 := [(0, .ref x)]) rfl ?_
  have l_215 : ∀ (n_215 : Nat) (I_4 : Nat → Nat → Int32) (J_5 : Nat → Nat → Int64) (hU_6 : Iw L κ R ow I_4) (hF_7 : Fq L κ ow [1205, 1206, 1207, 1208, 1209] I I_4) (hG_8 : Fq L κ ow [1212] J J_5) (v_9 : Int32) (rv_9 : Rg 48 122 v_9) (nv_9_10 : ¬ v_9 = 10) (nv_9_32 : ¬ v_9 = 32) (v_10 : Int32) (rv_10 : Rg 0 1 v_10) (v_11 : Int32) (rv_11 : Rg 0 1 v_11) (v_12 : Int32) (rv_12 : Rg 0 255 v_12) (v_13 : Int32) (rv_13 : Rg 1 940 v_13) (v_14 : Int32) (rv_14 : Rg 0 900 v_14) (v_15 : Int32) (rv_15 : Rg 1 940 v_15) (v_16 : Int32) (rv_16 : Rg 0 899 v_16) (v_17 : Int32) (q_18 : I_4 x 3 = v_13) (q_19 : I_4 x 4 = v_14) (q_20 : I_4 x 5 = v_15) (q_21 : I_4 x 6 = v_16) (q_22 : I_4 x 8 = v_17) (hq_23 : mGoE (mrun v_10 v_11 (MTq I_4 J_5 x b_2)) v_10 = mGo s_3) (hj_24 : x_1.toInt < v_15.toInt) (hm_25 : 940 < (v_15 : Int32).toInt + (n_215 : Int)), WG p l e { frames := 1, cells := 0, slots := 0, locals := 21 } s m ([.ref x] : List Value).toArray below meth c 5 0 0 (MQ below (Qv_ D cy L κ ln R (fun I2 J2 => Iw L κ R ow I2 ∧ Fq L κ ow [1205, 1206, 1207, 1208, 1209] I I2 ∧ Fq L κ ow [1212] J J2 ∧ (MTf R I2 J2 x = mGo (MTf R I J x)) ∧ (Ps_ x I I2))) ([.ref x] : List Value).toArray s 0 0 (Al_ L)) D cy (Al_ L) s.heap L κ ln R I_4 J_5 215 [(0, .ref x), (1, .int v_9), (2, .int v_10), (3, .int v_11), (4, .int v_12)] [] := by
    intro n_215
    induction n_215 with
    | zero =>
      intro I_4 J_5 hU_6 hF_7 hG_8 v_9 rv_9 nv_9_10 nv_9_32 v_10 rv_10 v_11 rv_11 v_12 rv_12 v_13 rv_13 v_14 rv_14 v_15 rv_15 v_16 rv_16 v_17 q_18 q_19 q_20 q_21 q_22 hq_23 hj_24 hm_25
      exact ms_0 rv_15 hm_25
    | succ n_215 ih_215 =>
      intro I_4 J_5 hU_6 hF_7 hG_8 v_9 rv_9 nv_9_10 nv_9_32 v_10 rv_10 v_11 rv_11 v_12 rv_12 v_13 rv_13 v_14 rv_14 v_15 rv_15 v_16 rv_16 v_17 q_18 q_19 q_20 q_21 q_22 hq_23 hj_24 hm_25
      obtain ⟨s_26, hs_26⟩ : ∃ z, MTq I_4 J_5 x b_2 = z := ⟨_, rfl⟩
      simp only [hs_26] at hq_23
      have hQ_27 := hq_23.symm
      have f_29 : s_26.to = v_15 := (congrArg MT_.to hs_26).symm.trans q_20
      have u_28 := mrun_eq (lt := v_10) (g := v_11) (m := s_26) ((congrArg MT_.to hs_26).symm.trans q_20) (rg_w rv_15 (by decide) (by decide))
      refine g_aload_n C 0 dX12_go_215 rfl rfl ?_
      refine g_aload_n C 0 dX12_go_216 rfl rfl ?_
      refine g_getI C K hLx hkx f_12_95 (v := v_15) q_20 dX12_go_217 ?_
      refine g_callVI C K (c_X12_tapeAt W9 hLx hkx v_15 (rg_w rv_15 (by decide) (by decide)) hU_6) hLx hkx (by decide) rfl v_12_124 rfl ⟨rfl, rfl⟩ ⟨Nat.le_of_ble_eq_true rfl, Nat.le_of_ble_eq_true rfl⟩ (Nat.le_of_ble_eq_true rfl) ⟨Nat.le_of_ble_eq_true rfl, Nat.le_of_ble_eq_true rfl⟩ dX12_go_220 rfl (st := []) (fun x_30 I_31 J_32 h_33 => ?_)
      obtain ⟨rfl, rfl, rx_30, fx_30, ex_30⟩ := h_33
      have c_34 : mTapeAt (v_15) (s_26) = x_30 := by have q := fx_30; simp only [emqx, hs_26] at q; exact q.symm
      refine g_callSI C K (c_X12_isLetter W9 x_30  hU_6) s_12_107 rfl ⟨rfl, rfl⟩ ⟨Nat.le_of_ble_eq_true rfl, Nat.le_of_ble_eq_true rfl⟩ (Nat.le_of_ble_eq_true rfl) ⟨Nat.le_of_ble_eq_true rfl, Nat.le_of_ble_eq_true rfl⟩ dX12_go_223 rfl (st := []) (fun x_35 I_36 J_37 h_38 => ?_)
      obtain ⟨rfl, rfl, rx_35, fx_35, ex_35⟩ := h_38
      have c_39 : isLc (x_30) = x_35 := fx_35.symm
      refine g_if_ne C (tgt := 243) dX12_go_226 (by decide) (fun h_40 => ?_) (fun h_40 => ?_)
      · skip
        have n_41 : ¬ x_35 = 0 := h_40
        have r_42 := ne_lo (lo := 1) n_41 rx_35 rc_0 rfl (by decide)
        have r_43 := rg_i rx_30 ((ex_35.2) n_41) (lo := 97) (hi := 122) (by decide) (by decide)
        have r_44 := rg_i rv_15 ((ex_30.2) (rg_nz r_43 (by decide))) (lo := 1) (hi := 939) (by decide) (by decide)
        refine g_aload_n C 0 dX12_go_243 rfl rfl ?_
        refine g_getR C K hLx hkx f_12_7 hb_2 dX12_go_244 ?_
        refine g_aload_n C 0 dX12_go_247 rfl rfl ?_
        refine g_getI C K hLx hkx f_12_95 (v := v_15) q_20 dX12_go_248 ?_
        obtain ⟨x_45, hx_45, rx_45⟩ := ex_getw (I := I_4) (a := b_2) (j := v_15.toNatClampNeg) (lo := 0) (hi := 255) hU_6.1 hb_2L (ro_a hb_2k (by decide) hb_2o hkx rfl) (rfl)
        refine h_iald C K hb_2L hb_2k (v := x_45) (v_15.toNatClampNeg) (rfl) (ix_0 r_44 (by decide)) (ix_lt r_44 (by decide) hb_2n (by decide)) hx_45 dX12_go_251 ?_
        have f_46 : s_26.tp (v_15.toNatClampNeg) = x_45 := (congrFun (congrArg MT_.tp hs_26) _).symm.trans hx_45
        refine g_istore C dX12_go_252 (by decide) (lo2 := [(4, .int x_45), (0, .ref x), (1, .int v_9), (2, .int v_10), (3, .int v_11)]) rfl ?_
        refine g_iload_n C 4 dX12_go_254 rfl rfl ?_
        refine g_if_eq C (tgt := 271) dX12_go_255 (by decide) (fun h_47 => ?_) (fun h_47 => ?_)
        · skip
          have r_48 := (⟨(rv_11).1, (eq_rg (h_47) rc_0).2⟩ : Rg 0 0 v_11)
          refine g_iconst C (v := 0) dX12_go_271 (by decide) ?_
          refine g_istore_n C dX12_go_272 rfl (by decide) (lo2 := [(3, .int 0), (4, .int x_45), (0, .ref x), (1, .int v_9), (2, .int v_10)]) rfl ?_
          refine g_aload_n C 2 dX12_go_273 rfl rfl ?_
          refine g_getI C K hLx hkx f_12_95 (v := v_15) q_20 dX12_go_274 ?_
          refine g_aload_n C 2 dX12_go_277 rfl rfl ?_
          have f_49 : s_26.frm = v_16 := (congrArg MT_.frm hs_26).symm.trans q_21
          refine g_getI C K hLx hkx f_12_98 (v := v_16) q_21 dX12_go_278 ?_
          obtain ⟨x_50, hx_50, rx_50, tx_50⟩ := ex_sub (-898) 939 r_44 rv_16 (by decide) (by decide) (by decide) (by decide)
          refine g_isub C (v := x_50) dX12_go_281 hx_50 ?_
          refine g_bipush C (v := 7) dX12_go_282 (by decide) ?_
          refine g_icmp_ge C (tgt := 307) dX12_go_284 (by decide) (fun h_51 => ?_) (fun h_51 => ?_)
          · skip
            have r_52 := le_r (h_51) rc_7 rx_50
            refine g_aload_n C 2 dX12_go_307 rfl rfl ?_
            refine g_getI C K hLx hkx f_12_95 (v := v_15) q_20 dX12_go_308 ?_
            refine g_aload_n C 2 dX12_go_311 rfl rfl ?_
            refine g_getI C K hLx hkx f_12_98 (v := v_16) q_21 dX12_go_312 ?_
            refine g_isub C (v := x_50) dX12_go_315 hx_50 ?_
            refine g_iconst C (v := 3) dX12_go_316 (by decide) ?_
            refine g_icmp_ge C (tgt := 337) dX12_go_317 (by decide) (fun h_53 => ?_) (fun h_53 => ?_)
            · skip
              refine g_aload_n C 2 dX12_go_337 rfl rfl ?_
              refine g_dup C dX12_go_338 rfl ?_
              refine g_getI C K hLx hkx f_12_95 (v := v_15) q_20 dX12_go_339 ?_
              refine g_iconst C (v := 1) dX12_go_342 (by decide) ?_
              obtain ⟨x_54, hx_54, rx_54, tx_54⟩ := ex_add 2 940 r_44 rc_1 (by decide) (by decide) (by decide) (by decide)
              refine g_iadd C (v := x_54) dX12_go_343 hx_54 ?_
              refine h_putI C K hLx hkx f_12_95 p_12_5 dX12_go_344 (fun I_55 hI_55 => ?_)
              have hU_56 := iw_put W9 hU_6 hI_55 (ro_o hkx (by decide)) (lo := 0) (hi := 940) (rfl) (rg_w rx_54 (by decide) (by decide)) rfl
              have hF_57 := fq_puto hF_7 hI_55 hkx (by decide) (by decide)
              have hs_58 : MTq I_55 J_5 x b_2 = (MT_.w_to s_26 (x_54)) := by rw [hI_55]; exact ((mq_to wmqx).trans (congrArg (fun z : MT_ => MT_.w_to z (x_54)) hs_26)).trans rfl
              refine g_goto C (tgt := 215) dX12_go_347 (by decide) ?_
              refine g_lo (is := [2, 3, 4, 0, 1]) (lo2 := [(0, .ref x), (1, .int v_9), (2, .int v_10), (3, .int 0), (4, .int x_45)]) rfl ?_
              exact ih_215 I_55 J_5 hU_56 hF_57 hG_8 v_9 (rv_9) (nv_9_10) (nv_9_32) v_10 (rv_10) 0 (rg_w rc_0 (by decide) (by decide)) x_45 (rx_45) v_13 (rv_13) v_14 (rv_14) x_54 (rg_w rx_54 (by decide) (by decide)) v_16 (rv_16) v_17 (kp_j hI_55 (by decide) q_18) (kp_j hI_55 (by decide) q_19) (kp_s hI_55) (kp_j hI_55 (by decide) q_21) (kp_j hI_55 (by decide) q_22) (by (try simp only [f_29, c_34, c_39, h_40, hx_45, f_46, (eq_true h_47), f_49, hx_50, h_51, h_53, hx_54, if_true, if_false, mqM_tp, mqM_size, mqM_limit, mqM_to, mqM_frm, mqM_kind, mqM_number, mqM_sign, mqM_word, MT_.w_tp, MT_.w_size, MT_.w_limit, MT_.w_to, MT_.w_frm, MT_.w_kind, MT_.w_number, MT_.w_sign, MT_.w_word] at hQ_27); (try simp only [f_29, c_34, c_39, h_40, hx_45, f_46, (eq_true h_47), f_49, hx_50, h_51, h_53, hx_54, if_true, if_false, mqM_tp, mqM_size, mqM_limit, mqM_to, mqM_frm, mqM_kind, mqM_number, mqM_sign, mqM_word, MT_.w_tp, MT_.w_size, MT_.w_limit, MT_.w_to, MT_.w_frm, MT_.w_kind, MT_.w_number, MT_.w_sign, MT_.w_word] at u_28); simp only [mGo2, mGo3, mGoE, mSg, mStep, mGood, emqx, hs_58, hs_3, hQ_27, f_29, u_28, c_34, c_39, h_40, hx_45, f_46, (eq_true h_47), f_49, hx_50, h_51, h_53, hx_54, if_true, if_false, mqM_tp, mqM_size, mqM_limit, mqM_to, mqM_frm, mqM_kind, mqM_number, mqM_sign, mqM_word, MT_.w_tp, MT_.w_size, MT_.w_limit, MT_.w_to, MT_.w_frm, MT_.w_kind, MT_.w_number, MT_.w_sign, MT_.w_word]) (by have := hj_24; have := (ti_k tx_54 rc_1); omega) (ms_1 hm_25 (ti_k tx_54 rc_1) (by decide))
            · skip
              have r_59 := lt_l (hi := 2) (nle h_53) r_52 rc_3 (by decide)
              exact rg_no r_59 (by decide)
          · skip
            have r_60 := lt_l (hi := 6) (nle h_51) rx_50 rc_7 (by decide)
            refine g_aload_n C 2 dX12_go_287 rfl rfl ?_
            refine g_ldc2 C kl_128 dX12_go_288 ?_
            refine g_aload_n C 2 dX12_go_291 rfl rfl ?_
            obtain ⟨y_61, hy_61⟩ : ∃ z, J_5 x 12 = z := ⟨_, rfl⟩
            have f_62 : s_26.word = y_61 := (congrArg MT_.word hs_26).symm.trans hy_61
            refine g_getJ C K hLx hkx f_12_117 (v := y_61) hy_61 dX12_go_292 ?_
            refine g_lmulE C dX12_go_295 (fun y_63 hy_63 => ?_)
            refine g_iload C 1 dX12_go_296 rfl ?_
            obtain ⟨y_64, hy_64⟩ : ∃ z, Int32.toInt64 x_45 = z := ⟨_, rfl⟩
            refine g_i2l C (v := y_64) dX12_go_298 hy_64 ?_
            refine g_laddE C dX12_go_299 (fun y_65 hy_65 => ?_)
            refine g_ldc2 C kl_130 dX12_go_300 ?_
            refine g_lsubE C dX12_go_303 (fun y_66 hy_66 => ?_)
            refine h_putJ C K hLx hkx f_12_117 p_12_12 dX12_go_304 (fun J_67 hJ_67 => ?_)
            have hG_68 := fq_puto hG_8 hJ_67 hkx (by decide) (by decide)
            have hs_69 : MTq I_4 J_67 x b_2 = (MT_.w_word s_26 (y_66)) := by rw [hJ_67]; exact ((mq_word wmqx).trans (congrArg (fun z : MT_ => MT_.w_word z (y_66)) hs_26)).trans rfl
            refine g_aload_n C 2 dX12_go_307 rfl rfl ?_
            refine g_getI C K hLx hkx f_12_95 (v := v_15) q_20 dX12_go_308 ?_
            refine g_aload_n C 2 dX12_go_311 rfl rfl ?_
            refine g_getI C K hLx hkx f_12_98 (v := v_16) q_21 dX12_go_312 ?_
            refine g_isub C (v := x_50) dX12_go_315 hx_50 ?_
            refine g_iconst C (v := 3) dX12_go_316 (by decide) ?_
            refine g_icmp_ge C (tgt := 337) dX12_go_317 (by decide) (fun h_70 => ?_) (fun h_70 => ?_)
            · skip
              have r_71 := le_r (h_70) rc_3 r_60
              refine g_aload_n C 2 dX12_go_337 rfl rfl ?_
              refine g_dup C dX12_go_338 rfl ?_
              refine g_getI C K hLx hkx f_12_95 (v := v_15) q_20 dX12_go_339 ?_
              refine g_iconst C (v := 1) dX12_go_342 (by decide) ?_
              obtain ⟨x_72, hx_72, rx_72, tx_72⟩ := ex_add 2 940 r_44 rc_1 (by decide) (by decide) (by decide) (by decide)
              refine g_iadd C (v := x_72) dX12_go_343 hx_72 ?_
              refine h_putI C K hLx hkx f_12_95 p_12_5 dX12_go_344 (fun I_73 hI_73 => ?_)
              have hU_74 := iw_put W9 hU_6 hI_73 (ro_o hkx (by decide)) (lo := 0) (hi := 940) (rfl) (rg_w rx_72 (by decide) (by decide)) rfl
              have hF_75 := fq_puto hF_7 hI_73 hkx (by decide) (by decide)
              have hs_76 : MTq I_73 J_67 x b_2 = (MT_.w_to (MT_.w_word s_26 (y_66)) (x_72)) := by rw [hI_73]; exact ((mq_to wmqx).trans (congrArg (fun z : MT_ => MT_.w_to z (x_72)) hs_69)).trans rfl
              refine g_goto C (tgt := 215) dX12_go_347 (by decide) ?_
              refine g_lo (is := [2, 3, 4, 0, 1]) (lo2 := [(0, .ref x), (1, .int v_9), (2, .int v_10), (3, .int 0), (4, .int x_45)]) rfl ?_
              exact ih_215 I_73 J_67 hU_74 hF_75 hG_68 v_9 (rv_9) (nv_9_10) (nv_9_32) v_10 (rv_10) 0 (rg_w rc_0 (by decide) (by decide)) x_45 (rx_45) v_13 (rv_13) v_14 (rv_14) x_72 (rg_w rx_72 (by decide) (by decide)) v_16 (rv_16) v_17 (kp_j hI_73 (by decide) q_18) (kp_j hI_73 (by decide) q_19) (kp_s hI_73) (kp_j hI_73 (by decide) q_21) (kp_j hI_73 (by decide) q_22) (by (try simp only [f_29, c_34, c_39, h_40, hx_45, f_46, (eq_true h_47), f_49, hx_50, h_51, (nle h_51), hy_61, f_62, hy_63, hy_64, hy_65, hy_66, h_70, hx_72, if_true, if_false, mqM_tp, mqM_size, mqM_limit, mqM_to, mqM_frm, mqM_kind, mqM_number, mqM_sign, mqM_word, MT_.w_tp, MT_.w_size, MT_.w_limit, MT_.w_to, MT_.w_frm, MT_.w_kind, MT_.w_number, MT_.w_sign, MT_.w_word] at hQ_27); (try simp only [f_29, c_34, c_39, h_40, hx_45, f_46, (eq_true h_47), f_49, hx_50, h_51, (nle h_51), hy_61, f_62, hy_63, hy_64, hy_65, hy_66, h_70, hx_72, if_true, if_false, mqM_tp, mqM_size, mqM_limit, mqM_to, mqM_frm, mqM_kind, mqM_number, mqM_sign, mqM_word, MT_.w_tp, MT_.w_size, MT_.w_limit, MT_.w_to, MT_.w_frm, MT_.w_kind, MT_.w_number, MT_.w_sign, MT_.w_word] at u_28); simp only [mGo2, mGo3, mGoE, mSg, mStep, mGood, emqx, hs_76, hs_3, hQ_27, f_29, u_28, c_34, c_39, h_40, hx_45, f_46, (eq_true h_47), f_49, hx_50, h_51, (nle h_51), hy_61, f_62, hy_63, hy_64, hy_65, hy_66, h_70, hx_72, if_true, if_false, mqM_tp, mqM_size, mqM_limit, mqM_to, mqM_frm, mqM_kind, mqM_number, mqM_sign, mqM_word, MT_.w_tp, MT_.w_size, MT_.w_limit, MT_.w_to, MT_.w_frm, MT_.w_kind, MT_.w_number, MT_.w_sign, MT_.w_word]) (by have := hj_24; have := (ti_k tx_72 rc_1); omega) (ms_1 hm_25 (ti_k tx_72 rc_1) (by decide))
            · skip
              have r_77 := lt_l (hi := 2) (nle h_70) r_60 rc_3 (by decide)
              refine g_aload_n C 2 dX12_go_320 rfl rfl ?_
              refine g_bipush C (v := 10) dX12_go_321 (by decide) ?_
              refine g_aload_n C 2 dX12_go_323 rfl rfl ?_
              have f_78 : s_26.number = v_17 := (congrArg MT_.number hs_69).symm.trans q_22
              refine g_getI C K hLx hkx f_12_121 (v := v_17) q_22 dX12_go_324 ?_
              obtain ⟨x_79, hx_79, rx_79⟩ := ex_any (z0 := 10 * v_17)
              refine g_imul C (v := x_79) dX12_go_327 hx_79 ?_
              refine g_iload C 1 dX12_go_328 rfl ?_
              obtain ⟨x_80, hx_80, rx_80⟩ := ex_any (z0 := x_79 + x_45)
              refine g_iadd C (v := x_80) dX12_go_330 hx_80 ?_
              refine g_bipush C (v := 48) dX12_go_331 (by decide) ?_
              obtain ⟨x_81, hx_81, rx_81⟩ := ex_any (z0 := x_80 - 48)
              refine g_isub C (v := x_81) dX12_go_333 hx_81 ?_
              refine h_putI C K hLx hkx f_12_121 p_12_8 dX12_go_334 (fun I_82 hI_82 => ?_)
              have hU_83 := iw_put W9 hU_6 hI_82 (ro_o hkx (by decide)) (lo := (-2147483648)) (hi := 2147483647) (rfl) (rx_81) rfl
              have hF_84 := fq_puto hF_7 hI_82 hkx (by decide) (by decide)
              have hs_85 : MTq I_82 J_67 x b_2 = (MT_.w_number (MT_.w_word s_26 (y_66)) (x_81)) := by rw [hI_82]; exact ((mq_number wmqx).trans (congrArg (fun z : MT_ => MT_.w_number z (x_81)) hs_69)).trans rfl
              refine g_aload_n C 2 dX12_go_337 rfl rfl ?_
              refine g_dup C dX12_go_338 rfl ?_
              refine g_getI C K hLx hkx f_12_95 (v := v_15) (kp_j hI_82 (by decide) q_20) dX12_go_339 ?_
              refine g_iconst C (v := 1) dX12_go_342 (by decide) ?_
              obtain ⟨x_86, hx_86, rx_86, tx_86⟩ := ex_add 2 940 r_44 rc_1 (by decide) (by decide) (by decide) (by decide)
              refine g_iadd C (v := x_86) dX12_go_343 hx_86 ?_
              refine h_putI C K hLx hkx f_12_95 p_12_5 dX12_go_344 (fun I_87 hI_87 => ?_)
              have hU_88 := iw_put W9 hU_83 hI_87 (ro_o hkx (by decide)) (lo := 0) (hi := 940) (rfl) (rg_w rx_86 (by decide) (by decide)) rfl
              have hF_89 := fq_puto hF_84 hI_87 hkx (by decide) (by decide)
              have hs_90 : MTq I_87 J_67 x b_2 = (MT_.w_to (MT_.w_number (MT_.w_word s_26 (y_66)) (x_81)) (x_86)) := by rw [hI_87]; exact ((mq_to wmqx).trans (congrArg (fun z : MT_ => MT_.w_to z (x_86)) hs_85)).trans rfl
              refine g_goto C (tgt := 215) dX12_go_347 (by decide) ?_
              refine g_lo (is := [2, 3, 4, 0, 1]) (lo2 := [(0, .ref x), (1, .int v_9), (2, .int v_10), (3, .int 0), (4, .int x_45)]) rfl ?_
              exact ih_215 I_87 J_67 hU_88 hF_89 hG_68 v_9 (rv_9) (nv_9_10) (nv_9_32) v_10 (rv_10) 0 (rg_w rc_0 (by decide) (by decide)) x_45 (rx_45) v_13 (rv_13) v_14 (rv_14) x_86 (rg_w rx_86 (by decide) (by decide)) v_16 (rv_16) x_81 (kp_j hI_87 (by decide) (kp_j hI_82 (by decide) q_18)) (kp_j hI_87 (by decide) (kp_j hI_82 (by decide) q_19)) (kp_s hI_87) (kp_j hI_87 (by decide) (kp_j hI_82 (by decide) q_21)) (kp_j hI_87 (by decide) (kp_s hI_82)) (by (try simp only [f_29, c_34, c_39, h_40, hx_45, f_46, (eq_true h_47), f_49, hx_50, h_51, (nle h_51), hy_61, f_62, hy_63, hy_64, hy_65, hy_66, h_70, (nle h_70), f_78, hx_79, hx_80, hx_81, hx_86, if_true, if_false, mqM_tp, mqM_size, mqM_limit, mqM_to, mqM_frm, mqM_kind, mqM_number, mqM_sign, mqM_word, MT_.w_tp, MT_.w_size, MT_.w_limit, MT_.w_to, MT_.w_frm, MT_.w_kind, MT_.w_number, MT_.w_sign, MT_.w_word] at hQ_27); (try simp only [f_29, c_34, c_39, h_40, hx_45, f_46, (eq_true h_47), f_49, hx_50, h_51, (nle h_51), hy_61, f_62, hy_63, hy_64, hy_65, hy_66, h_70, (nle h_70), f_78, hx_79, hx_80, hx_81, hx_86, if_true, if_false, mqM_tp, mqM_size, mqM_limit, mqM_to, mqM_frm, mqM_kind, mqM_number, mqM_sign, mqM_word, MT_.w_tp, MT_.w_size, MT_.w_limit, MT_.w_to, MT_.w_frm, MT_.w_kind, MT_.w_number, MT_.w_sign, MT_.w_word] at u_28); simp only [mGo2, mGo3, mGoE, mSg, mStep, mGood, emqx, hs_90, hs_3, hQ_27, f_29, u_28, c_34, c_39, h_40, hx_45, f_46, (eq_true h_47), f_49, hx_50, h_51, (nle h_51), hy_61, f_62, hy_63, hy_64, hy_65, hy_66, h_70, (nle h_70), f_78, hx_79, hx_80, hx_81, hx_86, if_true, if_false, mqM_tp, mqM_size, mqM_limit, mqM_to, mqM_frm, mqM_kind, mqM_number, mqM_sign, mqM_word, MT_.w_tp, MT_.w_size, MT_.w_limit, MT_.w_to, MT_.w_frm, MT_.w_kind, MT_.w_number, MT_.w_sign, MT_.w_word]) (by have := hj_24; have := (ti_k tx_86 rc_1); omega) (ms_1 hm_25 (ti_k tx_86 rc_1) (by decide))
        · skip
          have n_91 : ¬ v_11 = 0 := h_47
          have r_92 := ne_lo (lo := 1) n_91 rv_11 rc_0 rfl (by decide)
          refine g_iload C 0 dX12_go_258 rfl ?_
          refine g_callSI C K (c_X12_isLetter W9 x_45  hU_6) s_12_107 rfl ⟨rfl, rfl⟩ ⟨Nat.le_of_ble_eq_true rfl, Nat.le_of_ble_eq_true rfl⟩ (Nat.le_of_ble_eq_true rfl) ⟨Nat.le_of_ble_eq_true rfl, Nat.le_of_ble_eq_true rfl⟩ dX12_go_260 rfl (st := []) (fun x_93 I_94 J_95 h_96 => ?_)
          obtain ⟨rfl, rfl, rx_93, fx_93, ex_93⟩ := h_96
          have c_97 : isLc (x_45) = x_93 := fx_93.symm
          refine g_iload_n C 3 dX12_go_263 rfl rfl ?_
          refine g_icmp_ne C (tgt := 271) dX12_go_264 (by decide) (fun h_98 => ?_) (fun h_98 => ?_)
          · skip
            refine g_iconst C (v := 0) dX12_go_271 (by decide) ?_
            refine g_istore_n C dX12_go_272 rfl (by decide) (lo2 := [(3, .int 0), (4, .int x_45), (0, .ref x), (1, .int v_9), (2, .int v_10)]) rfl ?_
            refine g_aload_n C 2 dX12_go_273 rfl rfl ?_
            refine g_getI C K hLx hkx f_12_95 (v := v_15) q_20 dX12_go_274 ?_
            refine g_aload_n C 2 dX12_go_277 rfl rfl ?_
            have f_99 : s_26.frm = v_16 := (congrArg MT_.frm hs_26).symm.trans q_21
            refine g_getI C K hLx hkx f_12_98 (v := v_16) q_21 dX12_go_278 ?_
            obtain ⟨x_100, hx_100, rx_100, tx_100⟩ := ex_sub (-898) 939 r_44 rv_16 (by decide) (by decide) (by decide) (by decide)
            refine g_isub C (v := x_100) dX12_go_281 hx_100 ?_
            refine g_bipush C (v := 7) dX12_go_282 (by decide) ?_
            refine g_icmp_ge C (tgt := 307) dX12_go_284 (by decide) (fun h_101 => ?_) (fun h_101 => ?_)
            · skip
              have r_102 := le_r (h_101) rc_7 rx_100
              refine g_aload_n C 2 dX12_go_307 rfl rfl ?_
              refine g_getI C K hLx hkx f_12_95 (v := v_15) q_20 dX12_go_308 ?_
              refine g_aload_n C 2 dX12_go_311 rfl rfl ?_
              refine g_getI C K hLx hkx f_12_98 (v := v_16) q_21 dX12_go_312 ?_
              refine g_isub C (v := x_100) dX12_go_315 hx_100 ?_
              refine g_iconst C (v := 3) dX12_go_316 (by decide) ?_
              refine g_icmp_ge C (tgt := 337) dX12_go_317 (by decide) (fun h_103 => ?_) (fun h_103 => ?_)
              · skip
                refine g_aload_n C 2 dX12_go_337 rfl rfl ?_
                refine g_dup C dX12_go_338 rfl ?_
                refine g_getI C K hLx hkx f_12_95 (v := v_15) q_20 dX12_go_339 ?_
                refine g_iconst C (v := 1) dX12_go_342 (by decide) ?_
                obtain ⟨x_104, hx_104, rx_104, tx_104⟩ := ex_add 2 940 r_44 rc_1 (by decide) (by decide) (by decide) (by decide)
                refine g_iadd C (v := x_104) dX12_go_343 hx_104 ?_
                refine h_putI C K hLx hkx f_12_95 p_12_5 dX12_go_344 (fun I_105 hI_105 => ?_)
                have hU_106 := iw_put W9 hU_6 hI_105 (ro_o hkx (by decide)) (lo := 0) (hi := 940) (rfl) (rg_w rx_104 (by decide) (by decide)) rfl
                have hF_107 := fq_puto hF_7 hI_105 hkx (by decide) (by decide)
                have hs_108 : MTq I_105 J_5 x b_2 = (MT_.w_to s_26 (x_104)) := by rw [hI_105]; exact ((mq_to wmqx).trans (congrArg (fun z : MT_ => MT_.w_to z (x_104)) hs_26)).trans rfl
                refine g_goto C (tgt := 215) dX12_go_347 (by decide) ?_
                refine g_lo (is := [2, 3, 4, 0, 1]) (lo2 := [(0, .ref x), (1, .int v_9), (2, .int v_10), (3, .int 0), (4, .int x_45)]) rfl ?_
                exact ih_215 I_105 J_5 hU_106 hF_107 hG_8 v_9 (rv_9) (nv_9_10) (nv_9_32) v_10 (rv_10) 0 (rg_w rc_0 (by decide) (by decide)) x_45 (rx_45) v_13 (rv_13) v_14 (rv_14) x_104 (rg_w rx_104 (by decide) (by decide)) v_16 (rv_16) v_17 (kp_j hI_105 (by decide) q_18) (kp_j hI_105 (by decide) q_19) (kp_s hI_105) (kp_j hI_105 (by decide) q_21) (kp_j hI_105 (by decide) q_22) (by (try simp only [f_29, c_34, c_39, h_40, hx_45, f_46, h_47, c_97, h_98, f_99, hx_100, h_101, h_103, hx_104, if_true, if_false, mqM_tp, mqM_size, mqM_limit, mqM_to, mqM_frm, mqM_kind, mqM_number, mqM_sign, mqM_word, MT_.w_tp, MT_.w_size, MT_.w_limit, MT_.w_to, MT_.w_frm, MT_.w_kind, MT_.w_number, MT_.w_sign, MT_.w_word] at hQ_27); (try simp only [f_29, c_34, c_39, h_40, hx_45, f_46, h_47, c_97, h_98, f_99, hx_100, h_101, h_103, hx_104, if_true, if_false, mqM_tp, mqM_size, mqM_limit, mqM_to, mqM_frm, mqM_kind, mqM_number, mqM_sign, mqM_word, MT_.w_tp, MT_.w_size, MT_.w_limit, MT_.w_to, MT_.w_frm, MT_.w_kind, MT_.w_number, MT_.w_sign, MT_.w_word] at u_28); simp only [mGo2, mGo3, mGoE, mSg, mStep, mGood, emqx, hs_108, hs_3, hQ_27, f_29, u_28, c_34, c_39, h_40, hx_45, f_46, h_47, c_97, h_98, f_99, hx_100, h_101, h_103, hx_104, if_true, if_false, mqM_tp, mqM_size, mqM_limit, mqM_to, mqM_frm, mqM_kind, mqM_number, mqM_sign, mqM_word, MT_.w_tp, MT_.w_size, MT_.w_limit, MT_.w_to, MT_.w_frm, MT_.w_kind, MT_.w_number, MT_.w_sign, MT_.w_word]) (by have := hj_24; have := (ti_k tx_104 rc_1); omega) (ms_1 hm_25 (ti_k tx_104 rc_1) (by decide))
              · skip
                have r_109 := lt_l (hi := 2) (nle h_103) r_102 rc_3 (by decide)
                exact rg_no r_109 (by decide)
            · skip
              have r_110 := lt_l (hi := 6) (nle h_101) rx_100 rc_7 (by decide)
              refine g_aload_n C 2 dX12_go_287 rfl rfl ?_
              refine g_ldc2 C kl_128 dX12_go_288 ?_
              refine g_aload_n C 2 dX12_go_291 rfl rfl ?_
              obtain ⟨y_111, hy_111⟩ : ∃ z, J_5 x 12 = z := ⟨_, rfl⟩
              have f_112 : s_26.word = y_111 := (congrArg MT_.word hs_26).symm.trans hy_111
              refine g_getJ C K hLx hkx f_12_117 (v := y_111) hy_111 dX12_go_292 ?_
              refine g_lmulE C dX12_go_295 (fun y_113 hy_113 => ?_)
              refine g_iload C 1 dX12_go_296 rfl ?_
              obtain ⟨y_114, hy_114⟩ : ∃ z, Int32.toInt64 x_45 = z := ⟨_, rfl⟩
              refine g_i2l C (v := y_114) dX12_go_298 hy_114 ?_
              refine g_laddE C dX12_go_299 (fun y_115 hy_115 => ?_)
              refine g_ldc2 C kl_130 dX12_go_300 ?_
              refine g_lsubE C dX12_go_303 (fun y_116 hy_116 => ?_)
              refine h_putJ C K hLx hkx f_12_117 p_12_12 dX12_go_304 (fun J_117 hJ_117 => ?_)
              have hG_118 := fq_puto hG_8 hJ_117 hkx (by decide) (by decide)
              have hs_119 : MTq I_4 J_117 x b_2 = (MT_.w_word s_26 (y_116)) := by rw [hJ_117]; exact ((mq_word wmqx).trans (congrArg (fun z : MT_ => MT_.w_word z (y_116)) hs_26)).trans rfl
              refine g_aload_n C 2 dX12_go_307 rfl rfl ?_
              refine g_getI C K hLx hkx f_12_95 (v := v_15) q_20 dX12_go_308 ?_
              refine g_aload_n C 2 dX12_go_311 rfl rfl ?_
              refine g_getI C K hLx hkx f_12_98 (v := v_16) q_21 dX12_go_312 ?_
              refine g_isub C (v := x_100) dX12_go_315 hx_100 ?_
              refine g_iconst C (v := 3) dX12_go_316 (by decide) ?_
              refine g_icmp_ge C (tgt := 337) dX12_go_317 (by decide) (fun h_120 => ?_) (fun h_120 => ?_)
              · skip
                have r_121 := le_r (h_120) rc_3 r_110
                refine g_aload_n C 2 dX12_go_337 rfl rfl ?_
                refine g_dup C dX12_go_338 rfl ?_
                refine g_getI C K hLx hkx f_12_95 (v := v_15) q_20 dX12_go_339 ?_
                refine g_iconst C (v := 1) dX12_go_342 (by decide) ?_
                obtain ⟨x_122, hx_122, rx_122, tx_122⟩ := ex_add 2 940 r_44 rc_1 (by decide) (by decide) (by decide) (by decide)
                refine g_iadd C (v := x_122) dX12_go_343 hx_122 ?_
                refine h_putI C K hLx hkx f_12_95 p_12_5 dX12_go_344 (fun I_123 hI_123 => ?_)
                have hU_124 := iw_put W9 hU_6 hI_123 (ro_o hkx (by decide)) (lo := 0) (hi := 940) (rfl) (rg_w rx_122 (by decide) (by decide)) rfl
                have hF_125 := fq_puto hF_7 hI_123 hkx (by decide) (by decide)
                have hs_126 : MTq I_123 J_117 x b_2 = (MT_.w_to (MT_.w_word s_26 (y_116)) (x_122)) := by rw [hI_123]; exact ((mq_to wmqx).trans (congrArg (fun z : MT_ => MT_.w_to z (x_122)) hs_119)).trans rfl
                refine g_goto C (tgt := 215) dX12_go_347 (by decide) ?_
                refine g_lo (is := [2, 3, 4, 0, 1]) (lo2 := [(0, .ref x), (1, .int v_9), (2, .int v_10), (3, .int 0), (4, .int x_45)]) rfl ?_
                exact ih_215 I_123 J_117 hU_124 hF_125 hG_118 v_9 (rv_9) (nv_9_10) (nv_9_32) v_10 (rv_10) 0 (rg_w rc_0 (by decide) (by decide)) x_45 (rx_45) v_13 (rv_13) v_14 (rv_14) x_122 (rg_w rx_122 (by decide) (by decide)) v_16 (rv_16) v_17 (kp_j hI_123 (by decide) q_18) (kp_j hI_123 (by decide) q_19) (kp_s hI_123) (kp_j hI_123 (by decide) q_21) (kp_j hI_123 (by decide) q_22) (by (try simp only [f_29, c_34, c_39, h_40, hx_45, f_46, h_47, c_97, h_98, f_99, hx_100, h_101, (nle h_101), hy_111, f_112, hy_113, hy_114, hy_115, hy_116, h_120, hx_122, if_true, if_false, mqM_tp, mqM_size, mqM_limit, mqM_to, mqM_frm, mqM_kind, mqM_number, mqM_sign, mqM_word, MT_.w_tp, MT_.w_size, MT_.w_limit, MT_.w_to, MT_.w_frm, MT_.w_kind, MT_.w_number, MT_.w_sign, MT_.w_word] at hQ_27); (try simp only [f_29, c_34, c_39, h_40, hx_45, f_46, h_47, c_97, h_98, f_99, hx_100, h_101, (nle h_101), hy_111, f_112, hy_113, hy_114, hy_115, hy_116, h_120, hx_122, if_true, if_false, mqM_tp, mqM_size, mqM_limit, mqM_to, mqM_frm, mqM_kind, mqM_number, mqM_sign, mqM_word, MT_.w_tp, MT_.w_size, MT_.w_limit, MT_.w_to, MT_.w_frm, MT_.w_kind, MT_.w_number, MT_.w_sign, MT_.w_word] at u_28); simp only [mGo2, mGo3, mGoE, mSg, mStep, mGood, emqx, hs_126, hs_3, hQ_27, f_29, u_28, c_34, c_39, h_40, hx_45, f_46, h_47, c_97, h_98, f_99, hx_100, h_101, (nle h_101), hy_111, f_112, hy_113, hy_114, hy_115, hy_116, h_120, hx_122, if_true, if_false, mqM_tp, mqM_size, mqM_limit, mqM_to, mqM_frm, mqM_kind, mqM_number, mqM_sign, mqM_word, MT_.w_tp, MT_.w_size, MT_.w_limit, MT_.w_to, MT_.w_frm, MT_.w_kind, MT_.w_number, MT_.w_sign, MT_.w_word]) (by have := hj_24; have := (ti_k tx_122 rc_1); omega) (ms_1 hm_25 (ti_k tx_122 rc_1) (by decide))
              · skip
                have r_127 := lt_l (hi := 2) (nle h_120) r_110 rc_3 (by decide)
                refine g_aload_n C 2 dX12_go_320 rfl rfl ?_
                refine g_bipush C (v := 10) dX12_go_321 (by decide) ?_
                refine g_aload_n C 2 dX12_go_323 rfl rfl ?_
                have f_128 : s_26.number = v_17 := (congrArg MT_.number hs_119).symm.trans q_22
                refine g_getI C K hLx hkx f_12_121 (v := v_17) q_22 dX12_go_324 ?_
                obtain ⟨x_129, hx_129, rx_129⟩ := ex_any (z0 := 10 * v_17)
                refine g_imul C (v := x_129) dX12_go_327 hx_129 ?_
                refine g_iload C 1 dX12_go_328 rfl ?_
                obtain ⟨x_130, hx_130, rx_130⟩ := ex_any (z0 := x_129 + x_45)
                refine g_iadd C (v := x_130) dX12_go_330 hx_130 ?_
                refine g_bipush C (v := 48) dX12_go_331 (by decide) ?_
                obtain ⟨x_131, hx_131, rx_131⟩ := ex_any (z0 := x_130 - 48)
                refine g_isub C (v := x_131) dX12_go_333 hx_131 ?_
                refine h_putI C K hLx hkx f_12_121 p_12_8 dX12_go_334 (fun I_132 hI_132 => ?_)
                have hU_133 := iw_put W9 hU_6 hI_132 (ro_o hkx (by decide)) (lo := (-2147483648)) (hi := 2147483647) (rfl) (rx_131) rfl
                have hF_134 := fq_puto hF_7 hI_132 hkx (by decide) (by decide)
                have hs_135 : MTq I_132 J_117 x b_2 = (MT_.w_number (MT_.w_word s_26 (y_116)) (x_131)) := by rw [hI_132]; exact ((mq_number wmqx).trans (congrArg (fun z : MT_ => MT_.w_number z (x_131)) hs_119)).trans rfl
                refine g_aload_n C 2 dX12_go_337 rfl rfl ?_
                refine g_dup C dX12_go_338 rfl ?_
                refine g_getI C K hLx hkx f_12_95 (v := v_15) (kp_j hI_132 (by decide) q_20) dX12_go_339 ?_
                refine g_iconst C (v := 1) dX12_go_342 (by decide) ?_
                obtain ⟨x_136, hx_136, rx_136, tx_136⟩ := ex_add 2 940 r_44 rc_1 (by decide) (by decide) (by decide) (by decide)
                refine g_iadd C (v := x_136) dX12_go_343 hx_136 ?_
                refine h_putI C K hLx hkx f_12_95 p_12_5 dX12_go_344 (fun I_137 hI_137 => ?_)
                have hU_138 := iw_put W9 hU_133 hI_137 (ro_o hkx (by decide)) (lo := 0) (hi := 940) (rfl) (rg_w rx_136 (by decide) (by decide)) rfl
                have hF_139 := fq_puto hF_134 hI_137 hkx (by decide) (by decide)
                have hs_140 : MTq I_137 J_117 x b_2 = (MT_.w_to (MT_.w_number (MT_.w_word s_26 (y_116)) (x_131)) (x_136)) := by rw [hI_137]; exact ((mq_to wmqx).trans (congrArg (fun z : MT_ => MT_.w_to z (x_136)) hs_135)).trans rfl
                refine g_goto C (tgt := 215) dX12_go_347 (by decide) ?_
                refine g_lo (is := [2, 3, 4, 0, 1]) (lo2 := [(0, .ref x), (1, .int v_9), (2, .int v_10), (3, .int 0), (4, .int x_45)]) rfl ?_
                exact ih_215 I_137 J_117 hU_138 hF_139 hG_118 v_9 (rv_9) (nv_9_10) (nv_9_32) v_10 (rv_10) 0 (rg_w rc_0 (by decide) (by decide)) x_45 (rx_45) v_13 (rv_13) v_14 (rv_14) x_136 (rg_w rx_136 (by decide) (by decide)) v_16 (rv_16) x_131 (kp_j hI_137 (by decide) (kp_j hI_132 (by decide) q_18)) (kp_j hI_137 (by decide) (kp_j hI_132 (by decide) q_19)) (kp_s hI_137) (kp_j hI_137 (by decide) (kp_j hI_132 (by decide) q_21)) (kp_j hI_137 (by decide) (kp_s hI_132)) (by (try simp only [f_29, c_34, c_39, h_40, hx_45, f_46, h_47, c_97, h_98, f_99, hx_100, h_101, (nle h_101), hy_111, f_112, hy_113, hy_114, hy_115, hy_116, h_120, (nle h_120), f_128, hx_129, hx_130, hx_131, hx_136, if_true, if_false, mqM_tp, mqM_size, mqM_limit, mqM_to, mqM_frm, mqM_kind, mqM_number, mqM_sign, mqM_word, MT_.w_tp, MT_.w_size, MT_.w_limit, MT_.w_to, MT_.w_frm, MT_.w_kind, MT_.w_number, MT_.w_sign, MT_.w_word] at hQ_27); (try simp only [f_29, c_34, c_39, h_40, hx_45, f_46, h_47, c_97, h_98, f_99, hx_100, h_101, (nle h_101), hy_111, f_112, hy_113, hy_114, hy_115, hy_116, h_120, (nle h_120), f_128, hx_129, hx_130, hx_131, hx_136, if_true, if_false, mqM_tp, mqM_size, mqM_limit, mqM_to, mqM_frm, mqM_kind, mqM_number, mqM_sign, mqM_word, MT_.w_tp, MT_.w_size, MT_.w_limit, MT_.w_to, MT_.w_frm, MT_.w_kind, MT_.w_number, MT_.w_sign, MT_.w_word] at u_28); simp only [mGo2, mGo3, mGoE, mSg, mStep, mGood, emqx, hs_140, hs_3, hQ_27, f_29, u_28, c_34, c_39, h_40, hx_45, f_46, h_47, c_97, h_98, f_99, hx_100, h_101, (nle h_101), hy_111, f_112, hy_113, hy_114, hy_115, hy_116, h_120, (nle h_120), f_128, hx_129, hx_130, hx_131, hx_136, if_true, if_false, mqM_tp, mqM_size, mqM_limit, mqM_to, mqM_frm, mqM_kind, mqM_number, mqM_sign, mqM_word, MT_.w_tp, MT_.w_size, MT_.w_limit, MT_.w_to, MT_.w_frm, MT_.w_kind, MT_.w_number, MT_.w_sign, MT_.w_word]) (by have := hj_24; have := (ti_k tx_136 rc_1); omega) (ms_1 hm_25 (ti_k tx_136 rc_1) (by decide))
          · skip
            refine g_iconst C (v := 1) dX12_go_267 (by decide) ?_
            refine g_goto C (tgt := 272) dX12_go_268 (by decide) ?_
            refine g_istore_n C dX12_go_272 rfl (by decide) (lo2 := [(3, .int 1), (4, .int x_45), (0, .ref x), (1, .int v_9), (2, .int v_10)]) rfl ?_
            refine g_aload_n C 2 dX12_go_273 rfl rfl ?_
            refine g_getI C K hLx hkx f_12_95 (v := v_15) q_20 dX12_go_274 ?_
            refine g_aload_n C 2 dX12_go_277 rfl rfl ?_
            have f_141 : s_26.frm = v_16 := (congrArg MT_.frm hs_26).symm.trans q_21
            refine g_getI C K hLx hkx f_12_98 (v := v_16) q_21 dX12_go_278 ?_
            obtain ⟨x_142, hx_142, rx_142, tx_142⟩ := ex_sub (-898) 939 r_44 rv_16 (by decide) (by decide) (by decide) (by decide)
            refine g_isub C (v := x_142) dX12_go_281 hx_142 ?_
            refine g_bipush C (v := 7) dX12_go_282 (by decide) ?_
            refine g_icmp_ge C (tgt := 307) dX12_go_284 (by decide) (fun h_143 => ?_) (fun h_143 => ?_)
            · skip
              have r_144 := le_r (h_143) rc_7 rx_142
              refine g_aload_n C 2 dX12_go_307 rfl rfl ?_
              refine g_getI C K hLx hkx f_12_95 (v := v_15) q_20 dX12_go_308 ?_
              refine g_aload_n C 2 dX12_go_311 rfl rfl ?_
              refine g_getI C K hLx hkx f_12_98 (v := v_16) q_21 dX12_go_312 ?_
              refine g_isub C (v := x_142) dX12_go_315 hx_142 ?_
              refine g_iconst C (v := 3) dX12_go_316 (by decide) ?_
              refine g_icmp_ge C (tgt := 337) dX12_go_317 (by decide) (fun h_145 => ?_) (fun h_145 => ?_)
              · skip
                refine g_aload_n C 2 dX12_go_337 rfl rfl ?_
                refine g_dup C dX12_go_338 rfl ?_
                refine g_getI C K hLx hkx f_12_95 (v := v_15) q_20 dX12_go_339 ?_
                refine g_iconst C (v := 1) dX12_go_342 (by decide) ?_
                obtain ⟨x_146, hx_146, rx_146, tx_146⟩ := ex_add 2 940 r_44 rc_1 (by decide) (by decide) (by decide) (by decide)
                refine g_iadd C (v := x_146) dX12_go_343 hx_146 ?_
                refine h_putI C K hLx hkx f_12_95 p_12_5 dX12_go_344 (fun I_147 hI_147 => ?_)
                have hU_148 := iw_put W9 hU_6 hI_147 (ro_o hkx (by decide)) (lo := 0) (hi := 940) (rfl) (rg_w rx_146 (by decide) (by decide)) rfl
                have hF_149 := fq_puto hF_7 hI_147 hkx (by decide) (by decide)
                have hs_150 : MTq I_147 J_5 x b_2 = (MT_.w_to s_26 (x_146)) := by rw [hI_147]; exact ((mq_to wmqx).trans (congrArg (fun z : MT_ => MT_.w_to z (x_146)) hs_26)).trans rfl
                refine g_goto C (tgt := 215) dX12_go_347 (by decide) ?_
                refine g_lo (is := [2, 3, 4, 0, 1]) (lo2 := [(0, .ref x), (1, .int v_9), (2, .int v_10), (3, .int 1), (4, .int x_45)]) rfl ?_
                exact ih_215 I_147 J_5 hU_148 hF_149 hG_8 v_9 (rv_9) (nv_9_10) (nv_9_32) v_10 (rv_10) 1 (rg_w rc_1 (by decide) (by decide)) x_45 (rx_45) v_13 (rv_13) v_14 (rv_14) x_146 (rg_w rx_146 (by decide) (by decide)) v_16 (rv_16) v_17 (kp_j hI_147 (by decide) q_18) (kp_j hI_147 (by decide) q_19) (kp_s hI_147) (kp_j hI_147 (by decide) q_21) (kp_j hI_147 (by decide) q_22) (by (try simp only [f_29, c_34, c_39, h_40, hx_45, f_46, h_47, c_97, (eq_true h_98), f_141, hx_142, h_143, h_145, hx_146, if_true, if_false, mqM_tp, mqM_size, mqM_limit, mqM_to, mqM_frm, mqM_kind, mqM_number, mqM_sign, mqM_word, MT_.w_tp, MT_.w_size, MT_.w_limit, MT_.w_to, MT_.w_frm, MT_.w_kind, MT_.w_number, MT_.w_sign, MT_.w_word] at hQ_27); (try simp only [f_29, c_34, c_39, h_40, hx_45, f_46, h_47, c_97, (eq_true h_98), f_141, hx_142, h_143, h_145, hx_146, if_true, if_false, mqM_tp, mqM_size, mqM_limit, mqM_to, mqM_frm, mqM_kind, mqM_number, mqM_sign, mqM_word, MT_.w_tp, MT_.w_size, MT_.w_limit, MT_.w_to, MT_.w_frm, MT_.w_kind, MT_.w_number, MT_.w_sign, MT_.w_word] at u_28); simp only [mGo2, mGo3, mGoE, mSg, mStep, mGood, emqx, hs_150, hs_3, hQ_27, f_29, u_28, c_34, c_39, h_40, hx_45, f_46, h_47, c_97, (eq_true h_98), f_141, hx_142, h_143, h_145, hx_146, if_true, if_false, mqM_tp, mqM_size, mqM_limit, mqM_to, mqM_frm, mqM_kind, mqM_number, mqM_sign, mqM_word, MT_.w_tp, MT_.w_size, MT_.w_limit, MT_.w_to, MT_.w_frm, MT_.w_kind, MT_.w_number, MT_.w_sign, MT_.w_word]) (by have := hj_24; have := (ti_k tx_146 rc_1); omega) (ms_1 hm_25 (ti_k tx_146 rc_1) (by decide))
              · skip
                have r_151 := lt_l (hi := 2) (nle h_145) r_144 rc_3 (by decide)
                exact rg_no r_151 (by decide)
            · skip
              have r_152 := lt_l (hi := 6) (nle h_143) rx_142 rc_7 (by decide)
              refine g_aload_n C 2 dX12_go_287 rfl rfl ?_
              refine g_ldc2 C kl_128 dX12_go_288 ?_
              refine g_aload_n C 2 dX12_go_291 rfl rfl ?_
              obtain ⟨y_153, hy_153⟩ : ∃ z, J_5 x 12 = z := ⟨_, rfl⟩
              have f_154 : s_26.word = y_153 := (congrArg MT_.word hs_26).symm.trans hy_153
              refine g_getJ C K hLx hkx f_12_117 (v := y_153) hy_153 dX12_go_292 ?_
              refine g_lmulE C dX12_go_295 (fun y_155 hy_155 => ?_)
              refine g_iload C 1 dX12_go_296 rfl ?_
              obtain ⟨y_156, hy_156⟩ : ∃ z, Int32.toInt64 x_45 = z := ⟨_, rfl⟩
              refine g_i2l C (v := y_156) dX12_go_298 hy_156 ?_
              refine g_laddE C dX12_go_299 (fun y_157 hy_157 => ?_)
              refine g_ldc2 C kl_130 dX12_go_300 ?_
              refine g_lsubE C dX12_go_303 (fun y_158 hy_158 => ?_)
              refine h_putJ C K hLx hkx f_12_117 p_12_12 dX12_go_304 (fun J_159 hJ_159 => ?_)
              have hG_160 := fq_puto hG_8 hJ_159 hkx (by decide) (by decide)
              have hs_161 : MTq I_4 J_159 x b_2 = (MT_.w_word s_26 (y_158)) := by rw [hJ_159]; exact ((mq_word wmqx).trans (congrArg (fun z : MT_ => MT_.w_word z (y_158)) hs_26)).trans rfl
              refine g_aload_n C 2 dX12_go_307 rfl rfl ?_
              refine g_getI C K hLx hkx f_12_95 (v := v_15) q_20 dX12_go_308 ?_
              refine g_aload_n C 2 dX12_go_311 rfl rfl ?_
              refine g_getI C K hLx hkx f_12_98 (v := v_16) q_21 dX12_go_312 ?_
              refine g_isub C (v := x_142) dX12_go_315 hx_142 ?_
              refine g_iconst C (v := 3) dX12_go_316 (by decide) ?_
              refine g_icmp_ge C (tgt := 337) dX12_go_317 (by decide) (fun h_162 => ?_) (fun h_162 => ?_)
              · skip
                have r_163 := le_r (h_162) rc_3 r_152
                refine g_aload_n C 2 dX12_go_337 rfl rfl ?_
                refine g_dup C dX12_go_338 rfl ?_
                refine g_getI C K hLx hkx f_12_95 (v := v_15) q_20 dX12_go_339 ?_
                refine g_iconst C (v := 1) dX12_go_342 (by decide) ?_
                obtain ⟨x_164, hx_164, rx_164, tx_164⟩ := ex_add 2 940 r_44 rc_1 (by decide) (by decide) (by decide) (by decide)
                refine g_iadd C (v := x_164) dX12_go_343 hx_164 ?_
                refine h_putI C K hLx hkx f_12_95 p_12_5 dX12_go_344 (fun I_165 hI_165 => ?_)
                have hU_166 := iw_put W9 hU_6 hI_165 (ro_o hkx (by decide)) (lo := 0) (hi := 940) (rfl) (rg_w rx_164 (by decide) (by decide)) rfl
                have hF_167 := fq_puto hF_7 hI_165 hkx (by decide) (by decide)
                have hs_168 : MTq I_165 J_159 x b_2 = (MT_.w_to (MT_.w_word s_26 (y_158)) (x_164)) := by rw [hI_165]; exact ((mq_to wmqx).trans (congrArg (fun z : MT_ => MT_.w_to z (x_164)) hs_161)).trans rfl
                refine g_goto C (tgt := 215) dX12_go_347 (by decide) ?_
                refine g_lo (is := [2, 3, 4, 0, 1]) (lo2 := [(0, .ref x), (1, .int v_9), (2, .int v_10), (3, .int 1), (4, .int x_45)]) rfl ?_
                exact ih_215 I_165 J_159 hU_166 hF_167 hG_160 v_9 (rv_9) (nv_9_10) (nv_9_32) v_10 (rv_10) 1 (rg_w rc_1 (by decide) (by decide)) x_45 (rx_45) v_13 (rv_13) v_14 (rv_14) x_164 (rg_w rx_164 (by decide) (by decide)) v_16 (rv_16) v_17 (kp_j hI_165 (by decide) q_18) (kp_j hI_165 (by decide) q_19) (kp_s hI_165) (kp_j hI_165 (by decide) q_21) (kp_j hI_165 (by decide) q_22) (by (try simp only [f_29, c_34, c_39, h_40, hx_45, f_46, h_47, c_97, (eq_true h_98), f_141, hx_142, h_143, (nle h_143), hy_153, f_154, hy_155, hy_156, hy_157, hy_158, h_162, hx_164, if_true, if_false, mqM_tp, mqM_size, mqM_limit, mqM_to, mqM_frm, mqM_kind, mqM_number, mqM_sign, mqM_word, MT_.w_tp, MT_.w_size, MT_.w_limit, MT_.w_to, MT_.w_frm, MT_.w_kind, MT_.w_number, MT_.w_sign, MT_.w_word] at hQ_27); (try simp only [f_29, c_34, c_39, h_40, hx_45, f_46, h_47, c_97, (eq_true h_98), f_141, hx_142, h_143, (nle h_143), hy_153, f_154, hy_155, hy_156, hy_157, hy_158, h_162, hx_164, if_true, if_false, mqM_tp, mqM_size, mqM_limit, mqM_to, mqM_frm, mqM_kind, mqM_number, mqM_sign, mqM_word, MT_.w_tp, MT_.w_size, MT_.w_limit, MT_.w_to, MT_.w_frm, MT_.w_kind, MT_.w_number, MT_.w_sign, MT_.w_word] at u_28); simp only [mGo2, mGo3, mGoE, mSg, mStep, mGood, emqx, hs_168, hs_3, hQ_27, f_29, u_28, c_34, c_39, h_40, hx_45, f_46, h_47, c_97, (eq_true h_98), f_141, hx_142, h_143, (nle h_143), hy_153, f_154, hy_155, hy_156, hy_157, hy_158, h_162, hx_164, if_true, if_false, mqM_tp, mqM_size, mqM_limit, mqM_to, mqM_frm, mqM_kind, mqM_number, mqM_sign, mqM_word, MT_.w_tp, MT_.w_size, MT_.w_limit, MT_.w_to, MT_.w_frm, MT_.w_kind, MT_.w_number, MT_.w_sign, MT_.w_word]) (by have := hj_24; have := (ti_k tx_164 rc_1); omega) (ms_1 hm_25 (ti_k tx_164 rc_1) (by decide))
              · skip
                have r_169 := lt_l (hi := 2) (nle h_162) r_152 rc_3 (by decide)
                refine g_aload_n C 2 dX12_go_320 rfl rfl ?_
                refine g_bipush C (v := 10) dX12_go_321 (by decide) ?_
                refine g_aload_n C 2 dX12_go_323 rfl rfl ?_
                have f_170 : s_26.number = v_17 := (congrArg MT_.number hs_161).symm.trans q_22
                refine g_getI C K hLx hkx f_12_121 (v := v_17) q_22 dX12_go_324 ?_
                obtain ⟨x_171, hx_171, rx_171⟩ := ex_any (z0 := 10 * v_17)
                refine g_imul C (v := x_171) dX12_go_327 hx_171 ?_
                refine g_iload C 1 dX12_go_328 rfl ?_
                obtain ⟨x_172, hx_172, rx_172⟩ := ex_any (z0 := x_171 + x_45)
                refine g_iadd C (v := x_172) dX12_go_330 hx_172 ?_
                refine g_bipush C (v := 48) dX12_go_331 (by decide) ?_
                obtain ⟨x_173, hx_173, rx_173⟩ := ex_any (z0 := x_172 - 48)
                refine g_isub C (v := x_173) dX12_go_333 hx_173 ?_
                refine h_putI C K hLx hkx f_12_121 p_12_8 dX12_go_334 (fun I_174 hI_174 => ?_)
                have hU_175 := iw_put W9 hU_6 hI_174 (ro_o hkx (by decide)) (lo := (-2147483648)) (hi := 2147483647) (rfl) (rx_173) rfl
                have hF_176 := fq_puto hF_7 hI_174 hkx (by decide) (by decide)
                have hs_177 : MTq I_174 J_159 x b_2 = (MT_.w_number (MT_.w_word s_26 (y_158)) (x_173)) := by rw [hI_174]; exact ((mq_number wmqx).trans (congrArg (fun z : MT_ => MT_.w_number z (x_173)) hs_161)).trans rfl
                refine g_aload_n C 2 dX12_go_337 rfl rfl ?_
                refine g_dup C dX12_go_338 rfl ?_
                refine g_getI C K hLx hkx f_12_95 (v := v_15) (kp_j hI_174 (by decide) q_20) dX12_go_339 ?_
                refine g_iconst C (v := 1) dX12_go_342 (by decide) ?_
                obtain ⟨x_178, hx_178, rx_178, tx_178⟩ := ex_add 2 940 r_44 rc_1 (by decide) (by decide) (by decide) (by decide)
                refine g_iadd C (v := x_178) dX12_go_343 hx_178 ?_
                refine h_putI C K hLx hkx f_12_95 p_12_5 dX12_go_344 (fun I_179 hI_179 => ?_)
                have hU_180 := iw_put W9 hU_175 hI_179 (ro_o hkx (by decide)) (lo := 0) (hi := 940) (rfl) (rg_w rx_178 (by decide) (by decide)) rfl
                have hF_181 := fq_puto hF_176 hI_179 hkx (by decide) (by decide)
                have hs_182 : MTq I_179 J_159 x b_2 = (MT_.w_to (MT_.w_number (MT_.w_word s_26 (y_158)) (x_173)) (x_178)) := by rw [hI_179]; exact ((mq_to wmqx).trans (congrArg (fun z : MT_ => MT_.w_to z (x_178)) hs_177)).trans rfl
                refine g_goto C (tgt := 215) dX12_go_347 (by decide) ?_
                refine g_lo (is := [2, 3, 4, 0, 1]) (lo2 := [(0, .ref x), (1, .int v_9), (2, .int v_10), (3, .int 1), (4, .int x_45)]) rfl ?_
                exact ih_215 I_179 J_159 hU_180 hF_181 hG_160 v_9 (rv_9) (nv_9_10) (nv_9_32) v_10 (rv_10) 1 (rg_w rc_1 (by decide) (by decide)) x_45 (rx_45) v_13 (rv_13) v_14 (rv_14) x_178 (rg_w rx_178 (by decide) (by decide)) v_16 (rv_16) x_173 (kp_j hI_179 (by decide) (kp_j hI_174 (by decide) q_18)) (kp_j hI_179 (by decide) (kp_j hI_174 (by decide) q_19)) (kp_s hI_179) (kp_j hI_179 (by decide) (kp_j hI_174 (by decide) q_21)) (kp_j hI_179 (by decide) (kp_s hI_174)) (by (try simp only [f_29, c_34, c_39, h_40, hx_45, f_46, h_47, c_97, (eq_true h_98), f_141, hx_142, h_143, (nle h_143), hy_153, f_154, hy_155, hy_156, hy_157, hy_158, h_162, (nle h_162), f_170, hx_171, hx_172, hx_173, hx_178, if_true, if_false, mqM_tp, mqM_size, mqM_limit, mqM_to, mqM_frm, mqM_kind, mqM_number, mqM_sign, mqM_word, MT_.w_tp, MT_.w_size, MT_.w_limit, MT_.w_to, MT_.w_frm, MT_.w_kind, MT_.w_number, MT_.w_sign, MT_.w_word] at hQ_27); (try simp only [f_29, c_34, c_39, h_40, hx_45, f_46, h_47, c_97, (eq_true h_98), f_141, hx_142, h_143, (nle h_143), hy_153, f_154, hy_155, hy_156, hy_157, hy_158, h_162, (nle h_162), f_170, hx_171, hx_172, hx_173, hx_178, if_true, if_false, mqM_tp, mqM_size, mqM_limit, mqM_to, mqM_frm, mqM_kind, mqM_number, mqM_sign, mqM_word, MT_.w_tp, MT_.w_size, MT_.w_limit, MT_.w_to, MT_.w_frm, MT_.w_kind, MT_.w_number, MT_.w_sign, MT_.w_word] at u_28); simp only [mGo2, mGo3, mGoE, mSg, mStep, mGood, emqx, hs_182, hs_3, hQ_27, f_29, u_28, c_34, c_39, h_40, hx_45, f_46, h_47, c_97, (eq_true h_98), f_141, hx_142, h_143, (nle h_143), hy_153, f_154, hy_155, hy_156, hy_157, hy_158, h_162, (nle h_162), f_170, hx_171, hx_172, hx_173, hx_178, if_true, if_false, mqM_tp, mqM_size, mqM_limit, mqM_to, mqM_frm, mqM_kind, mqM_number, mqM_sign, mqM_word, MT_.w_tp, MT_.w_size, MT_.w_limit, MT_.w_to, MT_.w_frm, MT_.w_kind, MT_.w_number, MT_.w_sign, MT_.w_word]) (by have := hj_24; have := (ti_k tx_178 rc_1); omega) (ms_1 hm_25 (ti_k tx_178 rc_1) (by decide))
      · skip
        have r_183 := (⟨(rx_35).1, (eq_rg (h_40) rc_0).2⟩ : Rg 0 0 x_35)
        refine g_aload_n C 0 dX12_go_229 rfl rfl ?_
        refine g_aload_n C 0 dX12_go_230 rfl rfl ?_
        refine g_getI C K hLx hkx f_12_95 (v := v_15) q_20 dX12_go_231 ?_
        refine g_callVI C K (c_X12_tapeAt W9 hLx hkx v_15 (rg_w rv_15 (by decide) (by decide)) hU_6) hLx hkx (by decide) rfl v_12_124 rfl ⟨rfl, rfl⟩ ⟨Nat.le_of_ble_eq_true rfl, Nat.le_of_ble_eq_true rfl⟩ (Nat.le_of_ble_eq_true rfl) ⟨Nat.le_of_ble_eq_true rfl, Nat.le_of_ble_eq_true rfl⟩ dX12_go_234 rfl (st := []) (fun x_184 I_185 J_186 h_187 => ?_)
        obtain ⟨rfl, rfl, rx_184, fx_184, ex_184⟩ := h_187
        have c_188 : mTapeAt (v_15) (s_26) = x_184 := by have q := fx_184; simp only [emqx, hs_26] at q; exact q.symm
        have ec_188 : x_30 = x_184 := c_34.symm.trans c_188
        subst ec_188
        refine g_callSI C K (c_X12_isDigit W9 x_30  hU_6) s_12_111 rfl ⟨rfl, rfl⟩ ⟨Nat.le_of_ble_eq_true rfl, Nat.le_of_ble_eq_true rfl⟩ (Nat.le_of_ble_eq_true rfl) ⟨Nat.le_of_ble_eq_true rfl, Nat.le_of_ble_eq_true rfl⟩ dX12_go_237 rfl (st := []) (fun x_189 I_190 J_191 h_192 => ?_)
        obtain ⟨rfl, rfl, rx_189, fx_189, ex_189⟩ := h_192
        have c_193 : isDc (x_30) = x_189 := fx_189.symm
        refine g_if_eq C (tgt := 350) dX12_go_240 (by decide) (fun h_194 => ?_) (fun h_194 => ?_)
        · skip
          have r_195 := (⟨(rx_189).1, (eq_rg (h_194) rc_0).2⟩ : Rg 0 0 x_189)
          refine g_aload_n C 0 dX12_go_350 rfl rfl ?_
          refine g_iload_n C 3 dX12_go_351 rfl rfl ?_
          refine g_if_eq C (tgt := 377) dX12_go_352 (by decide) (fun h_196 => ?_) (fun h_196 => ?_)
          · skip
            have r_197 := (⟨(rv_11).1, (eq_rg (h_196) rc_0).2⟩ : Rg 0 0 v_11)
            refine g_iconst C (v := 1) dX12_go_377 (by decide) ?_
            refine g_goto C (tgt := 390) dX12_go_378 (by decide) ?_
            refine h_putI C K hLx hkx f_12_104 p_12_7 dX12_go_390 (fun I_198 hI_198 => ?_)
            have hU_199 := iw_put W9 hU_6 hI_198 (ro_o hkx (by decide)) (lo := 0) (hi := 4) (rfl) (rg_w rc_1 (by decide) (by decide)) rfl
            have hF_200 := fq_puto hF_7 hI_198 hkx (by decide) (by decide)
            have hs_201 : MTq I_198 J_5 x b_2 = (MT_.w_kind s_26 (1)) := by rw [hI_198]; exact ((mq_kind wmqx).trans (congrArg (fun z : MT_ => MT_.w_kind z (1)) hs_26)).trans rfl
            exact g_vret B K rfl ⟨hU_199, hF_200, hG_8, (by (try simp only [f_29, c_34, c_39, (eq_true h_40), c_193, (eq_true h_194), (eq_true h_196), if_true, if_false, mqM_tp, mqM_size, mqM_limit, mqM_to, mqM_frm, mqM_kind, mqM_number, mqM_sign, mqM_word, MT_.w_tp, MT_.w_size, MT_.w_limit, MT_.w_to, MT_.w_frm, MT_.w_kind, MT_.w_number, MT_.w_sign, MT_.w_word] at hQ_27); (try simp only [f_29, c_34, c_39, (eq_true h_40), c_193, (eq_true h_194), (eq_true h_196), if_true, if_false, mqM_tp, mqM_size, mqM_limit, mqM_to, mqM_frm, mqM_kind, mqM_number, mqM_sign, mqM_word, MT_.w_tp, MT_.w_size, MT_.w_limit, MT_.w_to, MT_.w_frm, MT_.w_kind, MT_.w_number, MT_.w_sign, MT_.w_word] at u_28); simp only [mGo2, mGo3, mGoE, mSg, mStep, mGood, emqx, hs_201, hs_3, hQ_27, f_29, u_28, c_34, c_39, (eq_true h_40), c_193, (eq_true h_194), (eq_true h_196), if_true, if_false, mqM_tp, mqM_size, mqM_limit, mqM_to, mqM_frm, mqM_kind, mqM_number, mqM_sign, mqM_word, MT_.w_tp, MT_.w_size, MT_.w_limit, MT_.w_to, MT_.w_frm, MT_.w_kind, MT_.w_number, MT_.w_sign, MT_.w_word]), (ps_mk hx_1 (kp_j hI_198 (by decide) q_20) (kp_s hI_198) (by have := hj_24; omega) (Or.inr (by have := (rc_1).2; omega)))⟩ dX12_go_393
          · skip
            have n_202 : ¬ v_11 = 0 := h_196
            have r_203 := ne_lo (lo := 1) n_202 rv_11 rc_0 rfl (by decide)
            refine g_aload_n C 0 dX12_go_355 rfl rfl ?_
            refine g_getI C K hLx hkx f_12_95 (v := v_15) q_20 dX12_go_356 ?_
            refine g_aload_n C 0 dX12_go_359 rfl rfl ?_
            have f_204 : s_26.frm = v_16 := (congrArg MT_.frm hs_26).symm.trans q_21
            refine g_getI C K hLx hkx f_12_98 (v := v_16) q_21 dX12_go_360 ?_
            obtain ⟨x_205, hx_205, rx_205, tx_205⟩ := ex_sub (-898) 940 rv_15 rv_16 (by decide) (by decide) (by decide) (by decide)
            refine g_isub C (v := x_205) dX12_go_363 hx_205 ?_
            refine g_iload_n C 2 dX12_go_364 rfl rfl ?_
            refine g_if_eq C (tgt := 373) dX12_go_365 (by decide) (fun h_206 => ?_) (fun h_206 => ?_)
            · skip
              have r_207 := (⟨(rv_10).1, (eq_rg (h_206) rc_0).2⟩ : Rg 0 0 v_10)
              refine g_iconst C (v := 3) dX12_go_373 (by decide) ?_
              refine g_icmp_le C (tgt := 381) dX12_go_374 (by decide) (fun h_208 => ?_) (fun h_208 => ?_)
              · skip
                have r_209 := le_l (h_208) rx_205 rc_3
                refine g_iload_n C 2 dX12_go_381 rfl rfl ?_
                refine g_if_eq C (tgt := 389) dX12_go_382 (by decide) (fun h_210 => ?_) (fun h_210 => ?_)
                · skip
                  refine g_iconst C (v := 3) dX12_go_389 (by decide) ?_
                  refine h_putI C K hLx hkx f_12_104 p_12_7 dX12_go_390 (fun I_211 hI_211 => ?_)
                  have hU_212 := iw_put W9 hU_6 hI_211 (ro_o hkx (by decide)) (lo := 0) (hi := 4) (rfl) (rg_w rc_3 (by decide) (by decide)) rfl
                  have hF_213 := fq_puto hF_7 hI_211 hkx (by decide) (by decide)
                  have hs_214 : MTq I_211 J_5 x b_2 = (MT_.w_kind s_26 (3)) := by rw [hI_211]; exact ((mq_kind wmqx).trans (congrArg (fun z : MT_ => MT_.w_kind z (3)) hs_26)).trans rfl
                  exact g_vret B K rfl ⟨hU_212, hF_213, hG_8, (by (try simp only [f_29, c_34, c_39, (eq_true h_40), c_193, (eq_true h_194), h_196, f_204, hx_205, (eq_true h_206), h_208, (eq_true h_210), if_true, if_false, mqM_tp, mqM_size, mqM_limit, mqM_to, mqM_frm, mqM_kind, mqM_number, mqM_sign, mqM_word, MT_.w_tp, MT_.w_size, MT_.w_limit, MT_.w_to, MT_.w_frm, MT_.w_kind, MT_.w_number, MT_.w_sign, MT_.w_word] at hQ_27); (try simp only [f_29, c_34, c_39, (eq_true h_40), c_193, (eq_true h_194), h_196, f_204, hx_205, (eq_true h_206), h_208, (eq_true h_210), if_true, if_false, mqM_tp, mqM_size, mqM_limit, mqM_to, mqM_frm, mqM_kind, mqM_number, mqM_sign, mqM_word, MT_.w_tp, MT_.w_size, MT_.w_limit, MT_.w_to, MT_.w_frm, MT_.w_kind, MT_.w_number, MT_.w_sign, MT_.w_word] at u_28); simp only [mGo2, mGo3, mGoE, mSg, mStep, mGood, emqx, hs_214, hs_3, hQ_27, f_29, u_28, c_34, c_39, (eq_true h_40), c_193, (eq_true h_194), h_196, f_204, hx_205, (eq_true h_206), h_208, (eq_true h_210), if_true, if_false, mqM_tp, mqM_size, mqM_limit, mqM_to, mqM_frm, mqM_kind, mqM_number, mqM_sign, mqM_word, MT_.w_tp, MT_.w_size, MT_.w_limit, MT_.w_to, MT_.w_frm, MT_.w_kind, MT_.w_number, MT_.w_sign, MT_.w_word]), (ps_mk hx_1 (kp_j hI_211 (by decide) q_20) (kp_s hI_211) (Int.le_of_lt (by have := hj_24; omega)) (Or.inl (by have := hj_24; omega)))⟩ dX12_go_393
                · skip
                  exact ne_no (h_210) r_207 rc_0
              · skip
                have r_215 := lt_r (lo := 4) (nle h_208) rc_3 rx_205 (by decide)
                refine g_iconst C (v := 1) dX12_go_377 (by decide) ?_
                refine g_goto C (tgt := 390) dX12_go_378 (by decide) ?_
                refine h_putI C K hLx hkx f_12_104 p_12_7 dX12_go_390 (fun I_216 hI_216 => ?_)
                have hU_217 := iw_put W9 hU_6 hI_216 (ro_o hkx (by decide)) (lo := 0) (hi := 4) (rfl) (rg_w rc_1 (by decide) (by decide)) rfl
                have hF_218 := fq_puto hF_7 hI_216 hkx (by decide) (by decide)
                have hs_219 : MTq I_216 J_5 x b_2 = (MT_.w_kind s_26 (1)) := by rw [hI_216]; exact ((mq_kind wmqx).trans (congrArg (fun z : MT_ => MT_.w_kind z (1)) hs_26)).trans rfl
                exact g_vret B K rfl ⟨hU_217, hF_218, hG_8, (by (try simp only [f_29, c_34, c_39, (eq_true h_40), c_193, (eq_true h_194), h_196, f_204, hx_205, (eq_true h_206), h_208, (nle h_208), if_true, if_false, mqM_tp, mqM_size, mqM_limit, mqM_to, mqM_frm, mqM_kind, mqM_number, mqM_sign, mqM_word, MT_.w_tp, MT_.w_size, MT_.w_limit, MT_.w_to, MT_.w_frm, MT_.w_kind, MT_.w_number, MT_.w_sign, MT_.w_word] at hQ_27); (try simp only [f_29, c_34, c_39, (eq_true h_40), c_193, (eq_true h_194), h_196, f_204, hx_205, (eq_true h_206), h_208, (nle h_208), if_true, if_false, mqM_tp, mqM_size, mqM_limit, mqM_to, mqM_frm, mqM_kind, mqM_number, mqM_sign, mqM_word, MT_.w_tp, MT_.w_size, MT_.w_limit, MT_.w_to, MT_.w_frm, MT_.w_kind, MT_.w_number, MT_.w_sign, MT_.w_word] at u_28); simp only [mGo2, mGo3, mGoE, mSg, mStep, mGood, emqx, hs_219, hs_3, hQ_27, f_29, u_28, c_34, c_39, (eq_true h_40), c_193, (eq_true h_194), h_196, f_204, hx_205, (eq_true h_206), h_208, (nle h_208), if_true, if_false, mqM_tp, mqM_size, mqM_limit, mqM_to, mqM_frm, mqM_kind, mqM_number, mqM_sign, mqM_word, MT_.w_tp, MT_.w_size, MT_.w_limit, MT_.w_to, MT_.w_frm, MT_.w_kind, MT_.w_number, MT_.w_sign, MT_.w_word]), (ps_mk hx_1 (kp_j hI_216 (by decide) q_20) (kp_s hI_216) (by have := hj_24; omega) (Or.inr (by have := (rc_1).2; omega)))⟩ dX12_go_393
            · skip
              have n_220 : ¬ v_10 = 0 := h_206
              have r_221 := ne_lo (lo := 1) n_220 rv_10 rc_0 rfl (by decide)
              refine g_bipush C (v := 7) dX12_go_368 (by decide) ?_
              refine g_goto C (tgt := 374) dX12_go_370 (by decide) ?_
              refine g_icmp_le C (tgt := 381) dX12_go_374 (by decide) (fun h_222 => ?_) (fun h_222 => ?_)
              · skip
                have r_223 := le_l (h_222) rx_205 rc_7
                refine g_iload_n C 2 dX12_go_381 rfl rfl ?_
                refine g_if_eq C (tgt := 389) dX12_go_382 (by decide) (fun h_224 => ?_) (fun h_224 => ?_)
                · skip
                  exact eq_no (h_224) r_221 rc_0 (by decide)
                · skip
                  have n_225 : ¬ v_10 = 0 := h_224
                  refine g_iconst C (v := 2) dX12_go_385 (by decide) ?_
                  refine g_goto C (tgt := 390) dX12_go_386 (by decide) ?_
                  refine h_putI C K hLx hkx f_12_104 p_12_7 dX12_go_390 (fun I_226 hI_226 => ?_)
                  have hU_227 := iw_put W9 hU_6 hI_226 (ro_o hkx (by decide)) (lo := 0) (hi := 4) (rfl) (rg_w rc_2 (by decide) (by decide)) rfl
                  have hF_228 := fq_puto hF_7 hI_226 hkx (by decide) (by decide)
                  have hs_229 : MTq I_226 J_5 x b_2 = (MT_.w_kind s_26 (2)) := by rw [hI_226]; exact ((mq_kind wmqx).trans (congrArg (fun z : MT_ => MT_.w_kind z (2)) hs_26)).trans rfl
                  exact g_vret B K rfl ⟨hU_227, hF_228, hG_8, (by (try simp only [f_29, c_34, c_39, (eq_true h_40), c_193, (eq_true h_194), h_196, f_204, hx_205, h_206, h_222, h_224, if_true, if_false, mqM_tp, mqM_size, mqM_limit, mqM_to, mqM_frm, mqM_kind, mqM_number, mqM_sign, mqM_word, MT_.w_tp, MT_.w_size, MT_.w_limit, MT_.w_to, MT_.w_frm, MT_.w_kind, MT_.w_number, MT_.w_sign, MT_.w_word] at hQ_27); (try simp only [f_29, c_34, c_39, (eq_true h_40), c_193, (eq_true h_194), h_196, f_204, hx_205, h_206, h_222, h_224, if_true, if_false, mqM_tp, mqM_size, mqM_limit, mqM_to, mqM_frm, mqM_kind, mqM_number, mqM_sign, mqM_word, MT_.w_tp, MT_.w_size, MT_.w_limit, MT_.w_to, MT_.w_frm, MT_.w_kind, MT_.w_number, MT_.w_sign, MT_.w_word] at u_28); simp only [mGo2, mGo3, mGoE, mSg, mStep, mGood, emqx, hs_229, hs_3, hQ_27, f_29, u_28, c_34, c_39, (eq_true h_40), c_193, (eq_true h_194), h_196, f_204, hx_205, h_206, h_222, h_224, if_true, if_false, mqM_tp, mqM_size, mqM_limit, mqM_to, mqM_frm, mqM_kind, mqM_number, mqM_sign, mqM_word, MT_.w_tp, MT_.w_size, MT_.w_limit, MT_.w_to, MT_.w_frm, MT_.w_kind, MT_.w_number, MT_.w_sign, MT_.w_word]), (ps_mk hx_1 (kp_j hI_226 (by decide) q_20) (kp_s hI_226) (Int.le_of_lt (by have := hj_24; omega)) (Or.inl (by have := hj_24; omega)))⟩ dX12_go_393
              · skip
                have r_230 := lt_r (lo := 8) (nle h_222) rc_7 rx_205 (by decide)
                refine g_iconst C (v := 1) dX12_go_377 (by decide) ?_
                refine g_goto C (tgt := 390) dX12_go_378 (by decide) ?_
                refine h_putI C K hLx hkx f_12_104 p_12_7 dX12_go_390 (fun I_231 hI_231 => ?_)
                have hU_232 := iw_put W9 hU_6 hI_231 (ro_o hkx (by decide)) (lo := 0) (hi := 4) (rfl) (rg_w rc_1 (by decide) (by decide)) rfl
                have hF_233 := fq_puto hF_7 hI_231 hkx (by decide) (by decide)
                have hs_234 : MTq I_231 J_5 x b_2 = (MT_.w_kind s_26 (1)) := by rw [hI_231]; exact ((mq_kind wmqx).trans (congrArg (fun z : MT_ => MT_.w_kind z (1)) hs_26)).trans rfl
                exact g_vret B K rfl ⟨hU_232, hF_233, hG_8, (by (try simp only [f_29, c_34, c_39, (eq_true h_40), c_193, (eq_true h_194), h_196, f_204, hx_205, h_206, h_222, (nle h_222), if_true, if_false, mqM_tp, mqM_size, mqM_limit, mqM_to, mqM_frm, mqM_kind, mqM_number, mqM_sign, mqM_word, MT_.w_tp, MT_.w_size, MT_.w_limit, MT_.w_to, MT_.w_frm, MT_.w_kind, MT_.w_number, MT_.w_sign, MT_.w_word] at hQ_27); (try simp only [f_29, c_34, c_39, (eq_true h_40), c_193, (eq_true h_194), h_196, f_204, hx_205, h_206, h_222, (nle h_222), if_true, if_false, mqM_tp, mqM_size, mqM_limit, mqM_to, mqM_frm, mqM_kind, mqM_number, mqM_sign, mqM_word, MT_.w_tp, MT_.w_size, MT_.w_limit, MT_.w_to, MT_.w_frm, MT_.w_kind, MT_.w_number, MT_.w_sign, MT_.w_word] at u_28); simp only [mGo2, mGo3, mGoE, mSg, mStep, mGood, emqx, hs_234, hs_3, hQ_27, f_29, u_28, c_34, c_39, (eq_true h_40), c_193, (eq_true h_194), h_196, f_204, hx_205, h_206, h_222, (nle h_222), if_true, if_false, mqM_tp, mqM_size, mqM_limit, mqM_to, mqM_frm, mqM_kind, mqM_number, mqM_sign, mqM_word, MT_.w_tp, MT_.w_size, MT_.w_limit, MT_.w_to, MT_.w_frm, MT_.w_kind, MT_.w_number, MT_.w_sign, MT_.w_word]), (ps_mk hx_1 (kp_j hI_231 (by decide) q_20) (kp_s hI_231) (by have := hj_24; omega) (Or.inr (by have := (rc_1).2; omega)))⟩ dX12_go_393
        · skip
          have n_235 : ¬ x_189 = 0 := h_194
          have r_236 := ne_lo (lo := 1) n_235 rx_189 rc_0 rfl (by decide)
          have r_237 := rg_i rx_30 ((ex_189.2) n_235) (lo := 48) (hi := 57) (by decide) (by decide)
          have r_238 := rg_i rv_15 ((ex_30.2) (rg_nz r_237 (by decide))) (lo := 1) (hi := 939) (by decide) (by decide)
          refine g_aload_n C 0 dX12_go_243 rfl rfl ?_
          refine g_getR C K hLx hkx f_12_7 hb_2 dX12_go_244 ?_
          refine g_aload_n C 0 dX12_go_247 rfl rfl ?_
          refine g_getI C K hLx hkx f_12_95 (v := v_15) q_20 dX12_go_248 ?_
          obtain ⟨x_239, hx_239, rx_239⟩ := ex_getw (I := I_4) (a := b_2) (j := v_15.toNatClampNeg) (lo := 0) (hi := 255) hU_6.1 hb_2L (ro_a hb_2k (by decide) hb_2o hkx rfl) (rfl)
          refine h_iald C K hb_2L hb_2k (v := x_239) (v_15.toNatClampNeg) (rfl) (ix_0 r_238 (by decide)) (ix_lt r_238 (by decide) hb_2n (by decide)) hx_239 dX12_go_251 ?_
          have f_240 : s_26.tp (v_15.toNatClampNeg) = x_239 := (congrFun (congrArg MT_.tp hs_26) _).symm.trans hx_239
          refine g_istore C dX12_go_252 (by decide) (lo2 := [(4, .int x_239), (0, .ref x), (1, .int v_9), (2, .int v_10), (3, .int v_11)]) rfl ?_
          refine g_iload_n C 4 dX12_go_254 rfl rfl ?_
          refine g_if_eq C (tgt := 271) dX12_go_255 (by decide) (fun h_241 => ?_) (fun h_241 => ?_)
          · skip
            have r_242 := (⟨(rv_11).1, (eq_rg (h_241) rc_0).2⟩ : Rg 0 0 v_11)
            refine g_iconst C (v := 0) dX12_go_271 (by decide) ?_
            refine g_istore_n C dX12_go_272 rfl (by decide) (lo2 := [(3, .int 0), (4, .int x_239), (0, .ref x), (1, .int v_9), (2, .int v_10)]) rfl ?_
            refine g_aload_n C 2 dX12_go_273 rfl rfl ?_
            refine g_getI C K hLx hkx f_12_95 (v := v_15) q_20 dX12_go_274 ?_
            refine g_aload_n C 2 dX12_go_277 rfl rfl ?_
            have f_243 : s_26.frm = v_16 := (congrArg MT_.frm hs_26).symm.trans q_21
            refine g_getI C K hLx hkx f_12_98 (v := v_16) q_21 dX12_go_278 ?_
            obtain ⟨x_244, hx_244, rx_244, tx_244⟩ := ex_sub (-898) 939 r_238 rv_16 (by decide) (by decide) (by decide) (by decide)
            refine g_isub C (v := x_244) dX12_go_281 hx_244 ?_
            refine g_bipush C (v := 7) dX12_go_282 (by decide) ?_
            refine g_icmp_ge C (tgt := 307) dX12_go_284 (by decide) (fun h_245 => ?_) (fun h_245 => ?_)
            · skip
              have r_246 := le_r (h_245) rc_7 rx_244
              refine g_aload_n C 2 dX12_go_307 rfl rfl ?_
              refine g_getI C K hLx hkx f_12_95 (v := v_15) q_20 dX12_go_308 ?_
              refine g_aload_n C 2 dX12_go_311 rfl rfl ?_
              refine g_getI C K hLx hkx f_12_98 (v := v_16) q_21 dX12_go_312 ?_
              refine g_isub C (v := x_244) dX12_go_315 hx_244 ?_
              refine g_iconst C (v := 3) dX12_go_316 (by decide) ?_
              refine g_icmp_ge C (tgt := 337) dX12_go_317 (by decide) (fun h_247 => ?_) (fun h_247 => ?_)
              · skip
                refine g_aload_n C 2 dX12_go_337 rfl rfl ?_
                refine g_dup C dX12_go_338 rfl ?_
                refine g_getI C K hLx hkx f_12_95 (v := v_15) q_20 dX12_go_339 ?_
                refine g_iconst C (v := 1) dX12_go_342 (by decide) ?_
                obtain ⟨x_248, hx_248, rx_248, tx_248⟩ := ex_add 2 940 r_238 rc_1 (by decide) (by decide) (by decide) (by decide)
                refine g_iadd C (v := x_248) dX12_go_343 hx_248 ?_
                refine h_putI C K hLx hkx f_12_95 p_12_5 dX12_go_344 (fun I_249 hI_249 => ?_)
                have hU_250 := iw_put W9 hU_6 hI_249 (ro_o hkx (by decide)) (lo := 0) (hi := 940) (rfl) (rg_w rx_248 (by decide) (by decide)) rfl
                have hF_251 := fq_puto hF_7 hI_249 hkx (by decide) (by decide)
                have hs_252 : MTq I_249 J_5 x b_2 = (MT_.w_to s_26 (x_248)) := by rw [hI_249]; exact ((mq_to wmqx).trans (congrArg (fun z : MT_ => MT_.w_to z (x_248)) hs_26)).trans rfl
                refine g_goto C (tgt := 215) dX12_go_347 (by decide) ?_
                refine g_lo (is := [2, 3, 4, 0, 1]) (lo2 := [(0, .ref x), (1, .int v_9), (2, .int v_10), (3, .int 0), (4, .int x_239)]) rfl ?_
                exact ih_215 I_249 J_5 hU_250 hF_251 hG_8 v_9 (rv_9) (nv_9_10) (nv_9_32) v_10 (rv_10) 0 (rg_w rc_0 (by decide) (by decide)) x_239 (rx_239) v_13 (rv_13) v_14 (rv_14) x_248 (rg_w rx_248 (by decide) (by decide)) v_16 (rv_16) v_17 (kp_j hI_249 (by decide) q_18) (kp_j hI_249 (by decide) q_19) (kp_s hI_249) (kp_j hI_249 (by decide) q_21) (kp_j hI_249 (by decide) q_22) (by (try simp only [f_29, c_34, c_39, (eq_true h_40), c_193, h_194, hx_239, f_240, (eq_true h_241), f_243, hx_244, h_245, h_247, hx_248, if_true, if_false, mqM_tp, mqM_size, mqM_limit, mqM_to, mqM_frm, mqM_kind, mqM_number, mqM_sign, mqM_word, MT_.w_tp, MT_.w_size, MT_.w_limit, MT_.w_to, MT_.w_frm, MT_.w_kind, MT_.w_number, MT_.w_sign, MT_.w_word] at hQ_27); (try simp only [f_29, c_34, c_39, (eq_true h_40), c_193, h_194, hx_239, f_240, (eq_true h_241), f_243, hx_244, h_245, h_247, hx_248, if_true, if_false, mqM_tp, mqM_size, mqM_limit, mqM_to, mqM_frm, mqM_kind, mqM_number, mqM_sign, mqM_word, MT_.w_tp, MT_.w_size, MT_.w_limit, MT_.w_to, MT_.w_frm, MT_.w_kind, MT_.w_number, MT_.w_sign, MT_.w_word] at u_28); simp only [mGo2, mGo3, mGoE, mSg, mStep, mGood, emqx, hs_252, hs_3, hQ_27, f_29, u_28, c_34, c_39, (eq_true h_40), c_193, h_194, hx_239, f_240, (eq_true h_241), f_243, hx_244, h_245, h_247, hx_248, if_true, if_false, mqM_tp, mqM_size, mqM_limit, mqM_to, mqM_frm, mqM_kind, mqM_number, mqM_sign, mqM_word, MT_.w_tp, MT_.w_size, MT_.w_limit, MT_.w_to, MT_.w_frm, MT_.w_kind, MT_.w_number, MT_.w_sign, MT_.w_word]) (by have := hj_24; have := (ti_k tx_248 rc_1); omega) (ms_1 hm_25 (ti_k tx_248 rc_1) (by decide))
              · skip
                have r_253 := lt_l (hi := 2) (nle h_247) r_246 rc_3 (by decide)
                exact rg_no r_253 (by decide)
            · skip
              have r_254 := lt_l (hi := 6) (nle h_245) rx_244 rc_7 (by decide)
              refine g_aload_n C 2 dX12_go_287 rfl rfl ?_
              refine g_ldc2 C kl_128 dX12_go_288 ?_
              refine g_aload_n C 2 dX12_go_291 rfl rfl ?_
              obtain ⟨y_255, hy_255⟩ : ∃ z, J_5 x 12 = z := ⟨_, rfl⟩
              have f_256 : s_26.word = y_255 := (congrArg MT_.word hs_26).symm.trans hy_255
              refine g_getJ C K hLx hkx f_12_117 (v := y_255) hy_255 dX12_go_292 ?_
              refine g_lmulE C dX12_go_295 (fun y_257 hy_257 => ?_)
              refine g_iload C 1 dX12_go_296 rfl ?_
              obtain ⟨y_258, hy_258⟩ : ∃ z, Int32.toInt64 x_239 = z := ⟨_, rfl⟩
              refine g_i2l C (v := y_258) dX12_go_298 hy_258 ?_
              refine g_laddE C dX12_go_299 (fun y_259 hy_259 => ?_)
              refine g_ldc2 C kl_130 dX12_go_300 ?_
              refine g_lsubE C dX12_go_303 (fun y_260 hy_260 => ?_)
              refine h_putJ C K hLx hkx f_12_117 p_12_12 dX12_go_304 (fun J_261 hJ_261 => ?_)
              have hG_262 := fq_puto hG_8 hJ_261 hkx (by decide) (by decide)
              have hs_263 : MTq I_4 J_261 x b_2 = (MT_.w_word s_26 (y_260)) := by rw [hJ_261]; exact ((mq_word wmqx).trans (congrArg (fun z : MT_ => MT_.w_word z (y_260)) hs_26)).trans rfl
              refine g_aload_n C 2 dX12_go_307 rfl rfl ?_
              refine g_getI C K hLx hkx f_12_95 (v := v_15) q_20 dX12_go_308 ?_
              refine g_aload_n C 2 dX12_go_311 rfl rfl ?_
              refine g_getI C K hLx hkx f_12_98 (v := v_16) q_21 dX12_go_312 ?_
              refine g_isub C (v := x_244) dX12_go_315 hx_244 ?_
              refine g_iconst C (v := 3) dX12_go_316 (by decide) ?_
              refine g_icmp_ge C (tgt := 337) dX12_go_317 (by decide) (fun h_264 => ?_) (fun h_264 => ?_)
              · skip
                have r_265 := le_r (h_264) rc_3 r_254
                refine g_aload_n C 2 dX12_go_337 rfl rfl ?_
                refine g_dup C dX12_go_338 rfl ?_
                refine g_getI C K hLx hkx f_12_95 (v := v_15) q_20 dX12_go_339 ?_
                refine g_iconst C (v := 1) dX12_go_342 (by decide) ?_
                obtain ⟨x_266, hx_266, rx_266, tx_266⟩ := ex_add 2 940 r_238 rc_1 (by decide) (by decide) (by decide) (by decide)
                refine g_iadd C (v := x_266) dX12_go_343 hx_266 ?_
                refine h_putI C K hLx hkx f_12_95 p_12_5 dX12_go_344 (fun I_267 hI_267 => ?_)
                have hU_268 := iw_put W9 hU_6 hI_267 (ro_o hkx (by decide)) (lo := 0) (hi := 940) (rfl) (rg_w rx_266 (by decide) (by decide)) rfl
                have hF_269 := fq_puto hF_7 hI_267 hkx (by decide) (by decide)
                have hs_270 : MTq I_267 J_261 x b_2 = (MT_.w_to (MT_.w_word s_26 (y_260)) (x_266)) := by rw [hI_267]; exact ((mq_to wmqx).trans (congrArg (fun z : MT_ => MT_.w_to z (x_266)) hs_263)).trans rfl
                refine g_goto C (tgt := 215) dX12_go_347 (by decide) ?_
                refine g_lo (is := [2, 3, 4, 0, 1]) (lo2 := [(0, .ref x), (1, .int v_9), (2, .int v_10), (3, .int 0), (4, .int x_239)]) rfl ?_
                exact ih_215 I_267 J_261 hU_268 hF_269 hG_262 v_9 (rv_9) (nv_9_10) (nv_9_32) v_10 (rv_10) 0 (rg_w rc_0 (by decide) (by decide)) x_239 (rx_239) v_13 (rv_13) v_14 (rv_14) x_266 (rg_w rx_266 (by decide) (by decide)) v_16 (rv_16) v_17 (kp_j hI_267 (by decide) q_18) (kp_j hI_267 (by decide) q_19) (kp_s hI_267) (kp_j hI_267 (by decide) q_21) (kp_j hI_267 (by decide) q_22) (by (try simp only [f_29, c_34, c_39, (eq_true h_40), c_193, h_194, hx_239, f_240, (eq_true h_241), f_243, hx_244, h_245, (nle h_245), hy_255, f_256, hy_257, hy_258, hy_259, hy_260, h_264, hx_266, if_true, if_false, mqM_tp, mqM_size, mqM_limit, mqM_to, mqM_frm, mqM_kind, mqM_number, mqM_sign, mqM_word, MT_.w_tp, MT_.w_size, MT_.w_limit, MT_.w_to, MT_.w_frm, MT_.w_kind, MT_.w_number, MT_.w_sign, MT_.w_word] at hQ_27); (try simp only [f_29, c_34, c_39, (eq_true h_40), c_193, h_194, hx_239, f_240, (eq_true h_241), f_243, hx_244, h_245, (nle h_245), hy_255, f_256, hy_257, hy_258, hy_259, hy_260, h_264, hx_266, if_true, if_false, mqM_tp, mqM_size, mqM_limit, mqM_to, mqM_frm, mqM_kind, mqM_number, mqM_sign, mqM_word, MT_.w_tp, MT_.w_size, MT_.w_limit, MT_.w_to, MT_.w_frm, MT_.w_kind, MT_.w_number, MT_.w_sign, MT_.w_word] at u_28); simp only [mGo2, mGo3, mGoE, mSg, mStep, mGood, emqx, hs_270, hs_3, hQ_27, f_29, u_28, c_34, c_39, (eq_true h_40), c_193, h_194, hx_239, f_240, (eq_true h_241), f_243, hx_244, h_245, (nle h_245), hy_255, f_256, hy_257, hy_258, hy_259, hy_260, h_264, hx_266, if_true, if_false, mqM_tp, mqM_size, mqM_limit, mqM_to, mqM_frm, mqM_kind, mqM_number, mqM_sign, mqM_word, MT_.w_tp, MT_.w_size, MT_.w_limit, MT_.w_to, MT_.w_frm, MT_.w_kind, MT_.w_number, MT_.w_sign, MT_.w_word]) (by have := hj_24; have := (ti_k tx_266 rc_1); omega) (ms_1 hm_25 (ti_k tx_266 rc_1) (by decide))
              · skip
                have r_271 := lt_l (hi := 2) (nle h_264) r_254 rc_3 (by decide)
                refine g_aload_n C 2 dX12_go_320 rfl rfl ?_
                refine g_bipush C (v := 10) dX12_go_321 (by decide) ?_
                refine g_aload_n C 2 dX12_go_323 rfl rfl ?_
                have f_272 : s_26.number = v_17 := (congrArg MT_.number hs_263).symm.trans q_22
                refine g_getI C K hLx hkx f_12_121 (v := v_17) q_22 dX12_go_324 ?_
                obtain ⟨x_273, hx_273, rx_273⟩ := ex_any (z0 := 10 * v_17)
                refine g_imul C (v := x_273) dX12_go_327 hx_273 ?_
                refine g_iload C 1 dX12_go_328 rfl ?_
                obtain ⟨x_274, hx_274, rx_274⟩ := ex_any (z0 := x_273 + x_239)
                refine g_iadd C (v := x_274) dX12_go_330 hx_274 ?_
                refine g_bipush C (v := 48) dX12_go_331 (by decide) ?_
                obtain ⟨x_275, hx_275, rx_275⟩ := ex_any (z0 := x_274 - 48)
                refine g_isub C (v := x_275) dX12_go_333 hx_275 ?_
                refine h_putI C K hLx hkx f_12_121 p_12_8 dX12_go_334 (fun I_276 hI_276 => ?_)
                have hU_277 := iw_put W9 hU_6 hI_276 (ro_o hkx (by decide)) (lo := (-2147483648)) (hi := 2147483647) (rfl) (rx_275) rfl
                have hF_278 := fq_puto hF_7 hI_276 hkx (by decide) (by decide)
                have hs_279 : MTq I_276 J_261 x b_2 = (MT_.w_number (MT_.w_word s_26 (y_260)) (x_275)) := by rw [hI_276]; exact ((mq_number wmqx).trans (congrArg (fun z : MT_ => MT_.w_number z (x_275)) hs_263)).trans rfl
                refine g_aload_n C 2 dX12_go_337 rfl rfl ?_
                refine g_dup C dX12_go_338 rfl ?_
                refine g_getI C K hLx hkx f_12_95 (v := v_15) (kp_j hI_276 (by decide) q_20) dX12_go_339 ?_
                refine g_iconst C (v := 1) dX12_go_342 (by decide) ?_
                obtain ⟨x_280, hx_280, rx_280, tx_280⟩ := ex_add 2 940 r_238 rc_1 (by decide) (by decide) (by decide) (by decide)
                refine g_iadd C (v := x_280) dX12_go_343 hx_280 ?_
                refine h_putI C K hLx hkx f_12_95 p_12_5 dX12_go_344 (fun I_281 hI_281 => ?_)
                have hU_282 := iw_put W9 hU_277 hI_281 (ro_o hkx (by decide)) (lo := 0) (hi := 940) (rfl) (rg_w rx_280 (by decide) (by decide)) rfl
                have hF_283 := fq_puto hF_278 hI_281 hkx (by decide) (by decide)
                have hs_284 : MTq I_281 J_261 x b_2 = (MT_.w_to (MT_.w_number (MT_.w_word s_26 (y_260)) (x_275)) (x_280)) := by rw [hI_281]; exact ((mq_to wmqx).trans (congrArg (fun z : MT_ => MT_.w_to z (x_280)) hs_279)).trans rfl
                refine g_goto C (tgt := 215) dX12_go_347 (by decide) ?_
                refine g_lo (is := [2, 3, 4, 0, 1]) (lo2 := [(0, .ref x), (1, .int v_9), (2, .int v_10), (3, .int 0), (4, .int x_239)]) rfl ?_
                exact ih_215 I_281 J_261 hU_282 hF_283 hG_262 v_9 (rv_9) (nv_9_10) (nv_9_32) v_10 (rv_10) 0 (rg_w rc_0 (by decide) (by decide)) x_239 (rx_239) v_13 (rv_13) v_14 (rv_14) x_280 (rg_w rx_280 (by decide) (by decide)) v_16 (rv_16) x_275 (kp_j hI_281 (by decide) (kp_j hI_276 (by decide) q_18)) (kp_j hI_281 (by decide) (kp_j hI_276 (by decide) q_19)) (kp_s hI_281) (kp_j hI_281 (by decide) (kp_j hI_276 (by decide) q_21)) (kp_j hI_281 (by decide) (kp_s hI_276)) (by (try simp only [f_29, c_34, c_39, (eq_true h_40), c_193, h_194, hx_239, f_240, (eq_true h_241), f_243, hx_244, h_245, (nle h_245), hy_255, f_256, hy_257, hy_258, hy_259, hy_260, h_264, (nle h_264), f_272, hx_273, hx_274, hx_275, hx_280, if_true, if_false, mqM_tp, mqM_size, mqM_limit, mqM_to, mqM_frm, mqM_kind, mqM_number, mqM_sign, mqM_word, MT_.w_tp, MT_.w_size, MT_.w_limit, MT_.w_to, MT_.w_frm, MT_.w_kind, MT_.w_number, MT_.w_sign, MT_.w_word] at hQ_27); (try simp only [f_29, c_34, c_39, (eq_true h_40), c_193, h_194, hx_239, f_240, (eq_true h_241), f_243, hx_244, h_245, (nle h_245), hy_255, f_256, hy_257, hy_258, hy_259, hy_260, h_264, (nle h_264), f_272, hx_273, hx_274, hx_275, hx_280, if_true, if_false, mqM_tp, mqM_size, mqM_limit, mqM_to, mqM_frm, mqM_kind, mqM_number, mqM_sign, mqM_word, MT_.w_tp, MT_.w_size, MT_.w_limit, MT_.w_to, MT_.w_frm, MT_.w_kind, MT_.w_number, MT_.w_sign, MT_.w_word] at u_28); simp only [mGo2, mGo3, mGoE, mSg, mStep, mGood, emqx, hs_284, hs_3, hQ_27, f_29, u_28, c_34, c_39, (eq_true h_40), c_193, h_194, hx_239, f_240, (eq_true h_241), f_243, hx_244, h_245, (nle h_245), hy_255, f_256, hy_257, hy_258, hy_259, hy_260, h_264, (nle h_264), f_272, hx_273, hx_274, hx_275, hx_280, if_true, if_false, mqM_tp, mqM_size, mqM_limit, mqM_to, mqM_frm, mqM_kind, mqM_number, mqM_sign, mqM_word, MT_.w_tp, MT_.w_size, MT_.w_limit, MT_.w_to, MT_.w_frm, MT_.w_kind, MT_.w_number, MT_.w_sign, MT_.w_word]) (by have := hj_24; have := (ti_k tx_280 rc_1); omega) (ms_1 hm_25 (ti_k tx_280 rc_1) (by decide))
          · skip
            have n_285 : ¬ v_11 = 0 := h_241
            have r_286 := ne_lo (lo := 1) n_285 rv_11 rc_0 rfl (by decide)
            refine g_iload C 0 dX12_go_258 rfl ?_
            refine g_callSI C K (c_X12_isLetter W9 x_239  hU_6) s_12_107 rfl ⟨rfl, rfl⟩ ⟨Nat.le_of_ble_eq_true rfl, Nat.le_of_ble_eq_true rfl⟩ (Nat.le_of_ble_eq_true rfl) ⟨Nat.le_of_ble_eq_true rfl, Nat.le_of_ble_eq_true rfl⟩ dX12_go_260 rfl (st := []) (fun x_287 I_288 J_289 h_290 => ?_)
            obtain ⟨rfl, rfl, rx_287, fx_287, ex_287⟩ := h_290
            have c_291 : isLc (x_239) = x_287 := fx_287.symm
            refine g_iload_n C 3 dX12_go_263 rfl rfl ?_
            refine g_icmp_ne C (tgt := 271) dX12_go_264 (by decide) (fun h_292 => ?_) (fun h_292 => ?_)
            · skip
              refine g_iconst C (v := 0) dX12_go_271 (by decide) ?_
              refine g_istore_n C dX12_go_272 rfl (by decide) (lo2 := [(3, .int 0), (4, .int x_239), (0, .ref x), (1, .int v_9), (2, .int v_10)]) rfl ?_
              refine g_aload_n C 2 dX12_go_273 rfl rfl ?_
              refine g_getI C K hLx hkx f_12_95 (v := v_15) q_20 dX12_go_274 ?_
              refine g_aload_n C 2 dX12_go_277 rfl rfl ?_
              have f_293 : s_26.frm = v_16 := (congrArg MT_.frm hs_26).symm.trans q_21
              refine g_getI C K hLx hkx f_12_98 (v := v_16) q_21 dX12_go_278 ?_
              obtain ⟨x_294, hx_294, rx_294, tx_294⟩ := ex_sub (-898) 939 r_238 rv_16 (by decide) (by decide) (by decide) (by decide)
              refine g_isub C (v := x_294) dX12_go_281 hx_294 ?_
              refine g_bipush C (v := 7) dX12_go_282 (by decide) ?_
              refine g_icmp_ge C (tgt := 307) dX12_go_284 (by decide) (fun h_295 => ?_) (fun h_295 => ?_)
              · skip
                have r_296 := le_r (h_295) rc_7 rx_294
                refine g_aload_n C 2 dX12_go_307 rfl rfl ?_
                refine g_getI C K hLx hkx f_12_95 (v := v_15) q_20 dX12_go_308 ?_
                refine g_aload_n C 2 dX12_go_311 rfl rfl ?_
                refine g_getI C K hLx hkx f_12_98 (v := v_16) q_21 dX12_go_312 ?_
                refine g_isub C (v := x_294) dX12_go_315 hx_294 ?_
                refine g_iconst C (v := 3) dX12_go_316 (by decide) ?_
                refine g_icmp_ge C (tgt := 337) dX12_go_317 (by decide) (fun h_297 => ?_) (fun h_297 => ?_)
                · skip
                  refine g_aload_n C 2 dX12_go_337 rfl rfl ?_
                  refine g_dup C dX12_go_338 rfl ?_
                  refine g_getI C K hLx hkx f_12_95 (v := v_15) q_20 dX12_go_339 ?_
                  refine g_iconst C (v := 1) dX12_go_342 (by decide) ?_
                  obtain ⟨x_298, hx_298, rx_298, tx_298⟩ := ex_add 2 940 r_238 rc_1 (by decide) (by decide) (by decide) (by decide)
                  refine g_iadd C (v := x_298) dX12_go_343 hx_298 ?_
                  refine h_putI C K hLx hkx f_12_95 p_12_5 dX12_go_344 (fun I_299 hI_299 => ?_)
                  have hU_300 := iw_put W9 hU_6 hI_299 (ro_o hkx (by decide)) (lo := 0) (hi := 940) (rfl) (rg_w rx_298 (by decide) (by decide)) rfl
                  have hF_301 := fq_puto hF_7 hI_299 hkx (by decide) (by decide)
                  have hs_302 : MTq I_299 J_5 x b_2 = (MT_.w_to s_26 (x_298)) := by rw [hI_299]; exact ((mq_to wmqx).trans (congrArg (fun z : MT_ => MT_.w_to z (x_298)) hs_26)).trans rfl
                  refine g_goto C (tgt := 215) dX12_go_347 (by decide) ?_
                  refine g_lo (is := [2, 3, 4, 0, 1]) (lo2 := [(0, .ref x), (1, .int v_9), (2, .int v_10), (3, .int 0), (4, .int x_239)]) rfl ?_
                  exact ih_215 I_299 J_5 hU_300 hF_301 hG_8 v_9 (rv_9) (nv_9_10) (nv_9_32) v_10 (rv_10) 0 (rg_w rc_0 (by decide) (by decide)) x_239 (rx_239) v_13 (rv_13) v_14 (rv_14) x_298 (rg_w rx_298 (by decide) (by decide)) v_16 (rv_16) v_17 (kp_j hI_299 (by decide) q_18) (kp_j hI_299 (by decide) q_19) (kp_s hI_299) (kp_j hI_299 (by decide) q_21) (kp_j hI_299 (by decide) q_22) (by (try simp only [f_29, c_34, c_39, (eq_true h_40), c_193, h_194, hx_239, f_240, h_241, c_291, h_292, f_293, hx_294, h_295, h_297, hx_298, if_true, if_false, mqM_tp, mqM_size, mqM_limit, mqM_to, mqM_frm, mqM_kind, mqM_number, mqM_sign, mqM_word, MT_.w_tp, MT_.w_size, MT_.w_limit, MT_.w_to, MT_.w_frm, MT_.w_kind, MT_.w_number, MT_.w_sign, MT_.w_word] at hQ_27); (try simp only [f_29, c_34, c_39, (eq_true h_40), c_193, h_194, hx_239, f_240, h_241, c_291, h_292, f_293, hx_294, h_295, h_297, hx_298, if_true, if_false, mqM_tp, mqM_size, mqM_limit, mqM_to, mqM_frm, mqM_kind, mqM_number, mqM_sign, mqM_word, MT_.w_tp, MT_.w_size, MT_.w_limit, MT_.w_to, MT_.w_frm, MT_.w_kind, MT_.w_number, MT_.w_sign, MT_.w_word] at u_28); simp only [mGo2, mGo3, mGoE, mSg, mStep, mGood, emqx, hs_302, hs_3, hQ_27, f_29, u_28, c_34, c_39, (eq_true h_40), c_193, h_194, hx_239, f_240, h_241, c_291, h_292, f_293, hx_294, h_295, h_297, hx_298, if_true, if_false, mqM_tp, mqM_size, mqM_limit, mqM_to, mqM_frm, mqM_kind, mqM_number, mqM_sign, mqM_word, MT_.w_tp, MT_.w_size, MT_.w_limit, MT_.w_to, MT_.w_frm, MT_.w_kind, MT_.w_number, MT_.w_sign, MT_.w_word]) (by have := hj_24; have := (ti_k tx_298 rc_1); omega) (ms_1 hm_25 (ti_k tx_298 rc_1) (by decide))
                · skip
                  have r_303 := lt_l (hi := 2) (nle h_297) r_296 rc_3 (by decide)
                  exact rg_no r_303 (by decide)
              · skip
                have r_304 := lt_l (hi := 6) (nle h_295) rx_294 rc_7 (by decide)
                refine g_aload_n C 2 dX12_go_287 rfl rfl ?_
                refine g_ldc2 C kl_128 dX12_go_288 ?_
                refine g_aload_n C 2 dX12_go_291 rfl rfl ?_
                obtain ⟨y_305, hy_305⟩ : ∃ z, J_5 x 12 = z := ⟨_, rfl⟩
                have f_306 : s_26.word = y_305 := (congrArg MT_.word hs_26).symm.trans hy_305
                refine g_getJ C K hLx hkx f_12_117 (v := y_305) hy_305 dX12_go_292 ?_
                refine g_lmulE C dX12_go_295 (fun y_307 hy_307 => ?_)
                refine g_iload C 1 dX12_go_296 rfl ?_
                obtain ⟨y_308, hy_308⟩ : ∃ z, Int32.toInt64 x_239 = z := ⟨_, rfl⟩
                refine g_i2l C (v := y_308) dX12_go_298 hy_308 ?_
                refine g_laddE C dX12_go_299 (fun y_309 hy_309 => ?_)
                refine g_ldc2 C kl_130 dX12_go_300 ?_
                refine g_lsubE C dX12_go_303 (fun y_310 hy_310 => ?_)
                refine h_putJ C K hLx hkx f_12_117 p_12_12 dX12_go_304 (fun J_311 hJ_311 => ?_)
                have hG_312 := fq_puto hG_8 hJ_311 hkx (by decide) (by decide)
                have hs_313 : MTq I_4 J_311 x b_2 = (MT_.w_word s_26 (y_310)) := by rw [hJ_311]; exact ((mq_word wmqx).trans (congrArg (fun z : MT_ => MT_.w_word z (y_310)) hs_26)).trans rfl
                refine g_aload_n C 2 dX12_go_307 rfl rfl ?_
                refine g_getI C K hLx hkx f_12_95 (v := v_15) q_20 dX12_go_308 ?_
                refine g_aload_n C 2 dX12_go_311 rfl rfl ?_
                refine g_getI C K hLx hkx f_12_98 (v := v_16) q_21 dX12_go_312 ?_
                refine g_isub C (v := x_294) dX12_go_315 hx_294 ?_
                refine g_iconst C (v := 3) dX12_go_316 (by decide) ?_
                refine g_icmp_ge C (tgt := 337) dX12_go_317 (by decide) (fun h_314 => ?_) (fun h_314 => ?_)
                · skip
                  have r_315 := le_r (h_314) rc_3 r_304
                  refine g_aload_n C 2 dX12_go_337 rfl rfl ?_
                  refine g_dup C dX12_go_338 rfl ?_
                  refine g_getI C K hLx hkx f_12_95 (v := v_15) q_20 dX12_go_339 ?_
                  refine g_iconst C (v := 1) dX12_go_342 (by decide) ?_
                  obtain ⟨x_316, hx_316, rx_316, tx_316⟩ := ex_add 2 940 r_238 rc_1 (by decide) (by decide) (by decide) (by decide)
                  refine g_iadd C (v := x_316) dX12_go_343 hx_316 ?_
                  refine h_putI C K hLx hkx f_12_95 p_12_5 dX12_go_344 (fun I_317 hI_317 => ?_)
                  have hU_318 := iw_put W9 hU_6 hI_317 (ro_o hkx (by decide)) (lo := 0) (hi := 940) (rfl) (rg_w rx_316 (by decide) (by decide)) rfl
                  have hF_319 := fq_puto hF_7 hI_317 hkx (by decide) (by decide)
                  have hs_320 : MTq I_317 J_311 x b_2 = (MT_.w_to (MT_.w_word s_26 (y_310)) (x_316)) := by rw [hI_317]; exact ((mq_to wmqx).trans (congrArg (fun z : MT_ => MT_.w_to z (x_316)) hs_313)).trans rfl
                  refine g_goto C (tgt := 215) dX12_go_347 (by decide) ?_
                  refine g_lo (is := [2, 3, 4, 0, 1]) (lo2 := [(0, .ref x), (1, .int v_9), (2, .int v_10), (3, .int 0), (4, .int x_239)]) rfl ?_
                  exact ih_215 I_317 J_311 hU_318 hF_319 hG_312 v_9 (rv_9) (nv_9_10) (nv_9_32) v_10 (rv_10) 0 (rg_w rc_0 (by decide) (by decide)) x_239 (rx_239) v_13 (rv_13) v_14 (rv_14) x_316 (rg_w rx_316 (by decide) (by decide)) v_16 (rv_16) v_17 (kp_j hI_317 (by decide) q_18) (kp_j hI_317 (by decide) q_19) (kp_s hI_317) (kp_j hI_317 (by decide) q_21) (kp_j hI_317 (by decide) q_22) (by (try simp only [f_29, c_34, c_39, (eq_true h_40), c_193, h_194, hx_239, f_240, h_241, c_291, h_292, f_293, hx_294, h_295, (nle h_295), hy_305, f_306, hy_307, hy_308, hy_309, hy_310, h_314, hx_316, if_true, if_false, mqM_tp, mqM_size, mqM_limit, mqM_to, mqM_frm, mqM_kind, mqM_number, mqM_sign, mqM_word, MT_.w_tp, MT_.w_size, MT_.w_limit, MT_.w_to, MT_.w_frm, MT_.w_kind, MT_.w_number, MT_.w_sign, MT_.w_word] at hQ_27); (try simp only [f_29, c_34, c_39, (eq_true h_40), c_193, h_194, hx_239, f_240, h_241, c_291, h_292, f_293, hx_294, h_295, (nle h_295), hy_305, f_306, hy_307, hy_308, hy_309, hy_310, h_314, hx_316, if_true, if_false, mqM_tp, mqM_size, mqM_limit, mqM_to, mqM_frm, mqM_kind, mqM_number, mqM_sign, mqM_word, MT_.w_tp, MT_.w_size, MT_.w_limit, MT_.w_to, MT_.w_frm, MT_.w_kind, MT_.w_number, MT_.w_sign, MT_.w_word] at u_28); simp only [mGo2, mGo3, mGoE, mSg, mStep, mGood, emqx, hs_320, hs_3, hQ_27, f_29, u_28, c_34, c_39, (eq_true h_40), c_193, h_194, hx_239, f_240, h_241, c_291, h_292, f_293, hx_294, h_295, (nle h_295), hy_305, f_306, hy_307, hy_308, hy_309, hy_310, h_314, hx_316, if_true, if_false, mqM_tp, mqM_size, mqM_limit, mqM_to, mqM_frm, mqM_kind, mqM_number, mqM_sign, mqM_word, MT_.w_tp, MT_.w_size, MT_.w_limit, MT_.w_to, MT_.w_frm, MT_.w_kind, MT_.w_number, MT_.w_sign, MT_.w_word]) (by have := hj_24; have := (ti_k tx_316 rc_1); omega) (ms_1 hm_25 (ti_k tx_316 rc_1) (by decide))
                · skip
                  have r_321 := lt_l (hi := 2) (nle h_314) r_304 rc_3 (by decide)
                  refine g_aload_n C 2 dX12_go_320 rfl rfl ?_
                  refine g_bipush C (v := 10) dX12_go_321 (by decide) ?_
                  refine g_aload_n C 2 dX12_go_323 rfl rfl ?_
                  have f_322 : s_26.number = v_17 := (congrArg MT_.number hs_313).symm.trans q_22
                  refine g_getI C K hLx hkx f_12_121 (v := v_17) q_22 dX12_go_324 ?_
                  obtain ⟨x_323, hx_323, rx_323⟩ := ex_any (z0 := 10 * v_17)
                  refine g_imul C (v := x_323) dX12_go_327 hx_323 ?_
                  refine g_iload C 1 dX12_go_328 rfl ?_
                  obtain ⟨x_324, hx_324, rx_324⟩ := ex_any (z0 := x_323 + x_239)
                  refine g_iadd C (v := x_324) dX12_go_330 hx_324 ?_
                  refine g_bipush C (v := 48) dX12_go_331 (by decide) ?_
                  obtain ⟨x_325, hx_325, rx_325⟩ := ex_any (z0 := x_324 - 48)
                  refine g_isub C (v := x_325) dX12_go_333 hx_325 ?_
                  refine h_putI C K hLx hkx f_12_121 p_12_8 dX12_go_334 (fun I_326 hI_326 => ?_)
                  have hU_327 := iw_put W9 hU_6 hI_326 (ro_o hkx (by decide)) (lo := (-2147483648)) (hi := 2147483647) (rfl) (rx_325) rfl
                  have hF_328 := fq_puto hF_7 hI_326 hkx (by decide) (by decide)
                  have hs_329 : MTq I_326 J_311 x b_2 = (MT_.w_number (MT_.w_word s_26 (y_310)) (x_325)) := by rw [hI_326]; exact ((mq_number wmqx).trans (congrArg (fun z : MT_ => MT_.w_number z (x_325)) hs_313)).trans rfl
                  refine g_aload_n C 2 dX12_go_337 rfl rfl ?_
                  refine g_dup C dX12_go_338 rfl ?_
                  refine g_getI C K hLx hkx f_12_95 (v := v_15) (kp_j hI_326 (by decide) q_20) dX12_go_339 ?_
                  refine g_iconst C (v := 1) dX12_go_342 (by decide) ?_
                  obtain ⟨x_330, hx_330, rx_330, tx_330⟩ := ex_add 2 940 r_238 rc_1 (by decide) (by decide) (by decide) (by decide)
                  refine g_iadd C (v := x_330) dX12_go_343 hx_330 ?_
                  refine h_putI C K hLx hkx f_12_95 p_12_5 dX12_go_344 (fun I_331 hI_331 => ?_)
                  have hU_332 := iw_put W9 hU_327 hI_331 (ro_o hkx (by decide)) (lo := 0) (hi := 940) (rfl) (rg_w rx_330 (by decide) (by decide)) rfl
                  have hF_333 := fq_puto hF_328 hI_331 hkx (by decide) (by decide)
                  have hs_334 : MTq I_331 J_311 x b_2 = (MT_.w_to (MT_.w_number (MT_.w_word s_26 (y_310)) (x_325)) (x_330)) := by rw [hI_331]; exact ((mq_to wmqx).trans (congrArg (fun z : MT_ => MT_.w_to z (x_330)) hs_329)).trans rfl
                  refine g_goto C (tgt := 215) dX12_go_347 (by decide) ?_
                  refine g_lo (is := [2, 3, 4, 0, 1]) (lo2 := [(0, .ref x), (1, .int v_9), (2, .int v_10), (3, .int 0), (4, .int x_239)]) rfl ?_
                  exact ih_215 I_331 J_311 hU_332 hF_333 hG_312 v_9 (rv_9) (nv_9_10) (nv_9_32) v_10 (rv_10) 0 (rg_w rc_0 (by decide) (by decide)) x_239 (rx_239) v_13 (rv_13) v_14 (rv_14) x_330 (rg_w rx_330 (by decide) (by decide)) v_16 (rv_16) x_325 (kp_j hI_331 (by decide) (kp_j hI_326 (by decide) q_18)) (kp_j hI_331 (by decide) (kp_j hI_326 (by decide) q_19)) (kp_s hI_331) (kp_j hI_331 (by decide) (kp_j hI_326 (by decide) q_21)) (kp_j hI_331 (by decide) (kp_s hI_326)) (by (try simp only [f_29, c_34, c_39, (eq_true h_40), c_193, h_194, hx_239, f_240, h_241, c_291, h_292, f_293, hx_294, h_295, (nle h_295), hy_305, f_306, hy_307, hy_308, hy_309, hy_310, h_314, (nle h_314), f_322, hx_323, hx_324, hx_325, hx_330, if_true, if_false, mqM_tp, mqM_size, mqM_limit, mqM_to, mqM_frm, mqM_kind, mqM_number, mqM_sign, mqM_word, MT_.w_tp, MT_.w_size, MT_.w_limit, MT_.w_to, MT_.w_frm, MT_.w_kind, MT_.w_number, MT_.w_sign, MT_.w_word] at hQ_27); (try simp only [f_29, c_34, c_39, (eq_true h_40), c_193, h_194, hx_239, f_240, h_241, c_291, h_292, f_293, hx_294, h_295, (nle h_295), hy_305, f_306, hy_307, hy_308, hy_309, hy_310, h_314, (nle h_314), f_322, hx_323, hx_324, hx_325, hx_330, if_true, if_false, mqM_tp, mqM_size, mqM_limit, mqM_to, mqM_frm, mqM_kind, mqM_number, mqM_sign, mqM_word, MT_.w_tp, MT_.w_size, MT_.w_limit, MT_.w_to, MT_.w_frm, MT_.w_kind, MT_.w_number, MT_.w_sign, MT_.w_word] at u_28); simp only [mGo2, mGo3, mGoE, mSg, mStep, mGood, emqx, hs_334, hs_3, hQ_27, f_29, u_28, c_34, c_39, (eq_true h_40), c_193, h_194, hx_239, f_240, h_241, c_291, h_292, f_293, hx_294, h_295, (nle h_295), hy_305, f_306, hy_307, hy_308, hy_309, hy_310, h_314, (nle h_314), f_322, hx_323, hx_324, hx_325, hx_330, if_true, if_false, mqM_tp, mqM_size, mqM_limit, mqM_to, mqM_frm, mqM_kind, mqM_number, mqM_sign, mqM_word, MT_.w_tp, MT_.w_size, MT_.w_limit, MT_.w_to, MT_.w_frm, MT_.w_kind, MT_.w_number, MT_.w_sign, MT_.w_word]) (by have := hj_24; have := (ti_k tx_330 rc_1); omega) (ms_1 hm_25 (ti_k tx_330 rc_1) (by decide))
            · skip
              refine g_iconst C (v := 1) dX12_go_267 (by decide) ?_
              refine g_goto C (tgt := 272) dX12_go_268 (by decide) ?_
              refine g_istore_n C dX12_go_272 rfl (by decide) (lo2 := [(3, .int 1), (4, .int x_239), (0, .ref x), (1, .int v_9), (2, .int v_10)]) rfl ?_
              refine g_aload_n C 2 dX12_go_273 rfl rfl ?_
              refine g_getI C K hLx hkx f_12_95 (v := v_15) q_20 dX12_go_274 ?_
              refine g_aload_n C 2 dX12_go_277 rfl rfl ?_
              have f_335 : s_26.frm = v_16 := (congrArg MT_.frm hs_26).symm.trans q_21
              refine g_getI C K hLx hkx f_12_98 (v := v_16) q_21 dX12_go_278 ?_
              obtain ⟨x_336, hx_336, rx_336, tx_336⟩ := ex_sub (-898) 939 r_238 rv_16 (by decide) (by decide) (by decide) (by decide)
              refine g_isub C (v := x_336) dX12_go_281 hx_336 ?_
              refine g_bipush C (v := 7) dX12_go_282 (by decide) ?_
              refine g_icmp_ge C (tgt := 307) dX12_go_284 (by decide) (fun h_337 => ?_) (fun h_337 => ?_)
              · skip
                have r_338 := le_r (h_337) rc_7 rx_336
                refine g_aload_n C 2 dX12_go_307 rfl rfl ?_
                refine g_getI C K hLx hkx f_12_95 (v := v_15) q_20 dX12_go_308 ?_
                refine g_aload_n C 2 dX12_go_311 rfl rfl ?_
                refine g_getI C K hLx hkx f_12_98 (v := v_16) q_21 dX12_go_312 ?_
                refine g_isub C (v := x_336) dX12_go_315 hx_336 ?_
                refine g_iconst C (v := 3) dX12_go_316 (by decide) ?_
                refine g_icmp_ge C (tgt := 337) dX12_go_317 (by decide) (fun h_339 => ?_) (fun h_339 => ?_)
                · skip
                  refine g_aload_n C 2 dX12_go_337 rfl rfl ?_
                  refine g_dup C dX12_go_338 rfl ?_
                  refine g_getI C K hLx hkx f_12_95 (v := v_15) q_20 dX12_go_339 ?_
                  refine g_iconst C (v := 1) dX12_go_342 (by decide) ?_
                  obtain ⟨x_340, hx_340, rx_340, tx_340⟩ := ex_add 2 940 r_238 rc_1 (by decide) (by decide) (by decide) (by decide)
                  refine g_iadd C (v := x_340) dX12_go_343 hx_340 ?_
                  refine h_putI C K hLx hkx f_12_95 p_12_5 dX12_go_344 (fun I_341 hI_341 => ?_)
                  have hU_342 := iw_put W9 hU_6 hI_341 (ro_o hkx (by decide)) (lo := 0) (hi := 940) (rfl) (rg_w rx_340 (by decide) (by decide)) rfl
                  have hF_343 := fq_puto hF_7 hI_341 hkx (by decide) (by decide)
                  have hs_344 : MTq I_341 J_5 x b_2 = (MT_.w_to s_26 (x_340)) := by rw [hI_341]; exact ((mq_to wmqx).trans (congrArg (fun z : MT_ => MT_.w_to z (x_340)) hs_26)).trans rfl
                  refine g_goto C (tgt := 215) dX12_go_347 (by decide) ?_
                  refine g_lo (is := [2, 3, 4, 0, 1]) (lo2 := [(0, .ref x), (1, .int v_9), (2, .int v_10), (3, .int 1), (4, .int x_239)]) rfl ?_
                  exact ih_215 I_341 J_5 hU_342 hF_343 hG_8 v_9 (rv_9) (nv_9_10) (nv_9_32) v_10 (rv_10) 1 (rg_w rc_1 (by decide) (by decide)) x_239 (rx_239) v_13 (rv_13) v_14 (rv_14) x_340 (rg_w rx_340 (by decide) (by decide)) v_16 (rv_16) v_17 (kp_j hI_341 (by decide) q_18) (kp_j hI_341 (by decide) q_19) (kp_s hI_341) (kp_j hI_341 (by decide) q_21) (kp_j hI_341 (by decide) q_22) (by (try simp only [f_29, c_34, c_39, (eq_true h_40), c_193, h_194, hx_239, f_240, h_241, c_291, (eq_true h_292), f_335, hx_336, h_337, h_339, hx_340, if_true, if_false, mqM_tp, mqM_size, mqM_limit, mqM_to, mqM_frm, mqM_kind, mqM_number, mqM_sign, mqM_word, MT_.w_tp, MT_.w_size, MT_.w_limit, MT_.w_to, MT_.w_frm, MT_.w_kind, MT_.w_number, MT_.w_sign, MT_.w_word] at hQ_27); (try simp only [f_29, c_34, c_39, (eq_true h_40), c_193, h_194, hx_239, f_240, h_241, c_291, (eq_true h_292), f_335, hx_336, h_337, h_339, hx_340, if_true, if_false, mqM_tp, mqM_size, mqM_limit, mqM_to, mqM_frm, mqM_kind, mqM_number, mqM_sign, mqM_word, MT_.w_tp, MT_.w_size, MT_.w_limit, MT_.w_to, MT_.w_frm, MT_.w_kind, MT_.w_number, MT_.w_sign, MT_.w_word] at u_28); simp only [mGo2, mGo3, mGoE, mSg, mStep, mGood, emqx, hs_344, hs_3, hQ_27, f_29, u_28, c_34, c_39, (eq_true h_40), c_193, h_194, hx_239, f_240, h_241, c_291, (eq_true h_292), f_335, hx_336, h_337, h_339, hx_340, if_true, if_false, mqM_tp, mqM_size, mqM_limit, mqM_to, mqM_frm, mqM_kind, mqM_number, mqM_sign, mqM_word, MT_.w_tp, MT_.w_size, MT_.w_limit, MT_.w_to, MT_.w_frm, MT_.w_kind, MT_.w_number, MT_.w_sign, MT_.w_word]) (by have := hj_24; have := (ti_k tx_340 rc_1); omega) (ms_1 hm_25 (ti_k tx_340 rc_1) (by decide))
                · skip
                  have r_345 := lt_l (hi := 2) (nle h_339) r_338 rc_3 (by decide)
                  exact rg_no r_345 (by decide)
              · skip
                have r_346 := lt_l (hi := 6) (nle h_337) rx_336 rc_7 (by decide)
                refine g_aload_n C 2 dX12_go_287 rfl rfl ?_
                refine g_ldc2 C kl_128 dX12_go_288 ?_
                refine g_aload_n C 2 dX12_go_291 rfl rfl ?_
                obtain ⟨y_347, hy_347⟩ : ∃ z, J_5 x 12 = z := ⟨_, rfl⟩
                have f_348 : s_26.word = y_347 := (congrArg MT_.word hs_26).symm.trans hy_347
                refine g_getJ C K hLx hkx f_12_117 (v := y_347) hy_347 dX12_go_292 ?_
                refine g_lmulE C dX12_go_295 (fun y_349 hy_349 => ?_)
                refine g_iload C 1 dX12_go_296 rfl ?_
                obtain ⟨y_350, hy_350⟩ : ∃ z, Int32.toInt64 x_239 = z := ⟨_, rfl⟩
                refine g_i2l C (v := y_350) dX12_go_298 hy_350 ?_
                refine g_laddE C dX12_go_299 (fun y_351 hy_351 => ?_)
                refine g_ldc2 C kl_130 dX12_go_300 ?_
                refine g_lsubE C dX12_go_303 (fun y_352 hy_352 => ?_)
                refine h_putJ C K hLx hkx f_12_117 p_12_12 dX12_go_304 (fun J_353 hJ_353 => ?_)
                have hG_354 := fq_puto hG_8 hJ_353 hkx (by decide) (by decide)
                have hs_355 : MTq I_4 J_353 x b_2 = (MT_.w_word s_26 (y_352)) := by rw [hJ_353]; exact ((mq_word wmqx).trans (congrArg (fun z : MT_ => MT_.w_word z (y_352)) hs_26)).trans rfl
                refine g_aload_n C 2 dX12_go_307 rfl rfl ?_
                refine g_getI C K hLx hkx f_12_95 (v := v_15) q_20 dX12_go_308 ?_
                refine g_aload_n C 2 dX12_go_311 rfl rfl ?_
                refine g_getI C K hLx hkx f_12_98 (v := v_16) q_21 dX12_go_312 ?_
                refine g_isub C (v := x_336) dX12_go_315 hx_336 ?_
                refine g_iconst C (v := 3) dX12_go_316 (by decide) ?_
                refine g_icmp_ge C (tgt := 337) dX12_go_317 (by decide) (fun h_356 => ?_) (fun h_356 => ?_)
                · skip
                  have r_357 := le_r (h_356) rc_3 r_346
                  refine g_aload_n C 2 dX12_go_337 rfl rfl ?_
                  refine g_dup C dX12_go_338 rfl ?_
                  refine g_getI C K hLx hkx f_12_95 (v := v_15) q_20 dX12_go_339 ?_
                  refine g_iconst C (v := 1) dX12_go_342 (by decide) ?_
                  obtain ⟨x_358, hx_358, rx_358, tx_358⟩ := ex_add 2 940 r_238 rc_1 (by decide) (by decide) (by decide) (by decide)
                  refine g_iadd C (v := x_358) dX12_go_343 hx_358 ?_
                  refine h_putI C K hLx hkx f_12_95 p_12_5 dX12_go_344 (fun I_359 hI_359 => ?_)
                  have hU_360 := iw_put W9 hU_6 hI_359 (ro_o hkx (by decide)) (lo := 0) (hi := 940) (rfl) (rg_w rx_358 (by decide) (by decide)) rfl
                  have hF_361 := fq_puto hF_7 hI_359 hkx (by decide) (by decide)
                  have hs_362 : MTq I_359 J_353 x b_2 = (MT_.w_to (MT_.w_word s_26 (y_352)) (x_358)) := by rw [hI_359]; exact ((mq_to wmqx).trans (congrArg (fun z : MT_ => MT_.w_to z (x_358)) hs_355)).trans rfl
                  refine g_goto C (tgt := 215) dX12_go_347 (by decide) ?_
                  refine g_lo (is := [2, 3, 4, 0, 1]) (lo2 := [(0, .ref x), (1, .int v_9), (2, .int v_10), (3, .int 1), (4, .int x_239)]) rfl ?_
                  exact ih_215 I_359 J_353 hU_360 hF_361 hG_354 v_9 (rv_9) (nv_9_10) (nv_9_32) v_10 (rv_10) 1 (rg_w rc_1 (by decide) (by decide)) x_239 (rx_239) v_13 (rv_13) v_14 (rv_14) x_358 (rg_w rx_358 (by decide) (by decide)) v_16 (rv_16) v_17 (kp_j hI_359 (by decide) q_18) (kp_j hI_359 (by decide) q_19) (kp_s hI_359) (kp_j hI_359 (by decide) q_21) (kp_j hI_359 (by decide) q_22) (by (try simp only [f_29, c_34, c_39, (eq_true h_40), c_193, h_194, hx_239, f_240, h_241, c_291, (eq_true h_292), f_335, hx_336, h_337, (nle h_337), hy_347, f_348, hy_349, hy_350, hy_351, hy_352, h_356, hx_358, if_true, if_false, mqM_tp, mqM_size, mqM_limit, mqM_to, mqM_frm, mqM_kind, mqM_number, mqM_sign, mqM_word, MT_.w_tp, MT_.w_size, MT_.w_limit, MT_.w_to, MT_.w_frm, MT_.w_kind, MT_.w_number, MT_.w_sign, MT_.w_word] at hQ_27); (try simp only [f_29, c_34, c_39, (eq_true h_40), c_193, h_194, hx_239, f_240, h_241, c_291, (eq_true h_292), f_335, hx_336, h_337, (nle h_337), hy_347, f_348, hy_349, hy_350, hy_351, hy_352, h_356, hx_358, if_true, if_false, mqM_tp, mqM_size, mqM_limit, mqM_to, mqM_frm, mqM_kind, mqM_number, mqM_sign, mqM_word, MT_.w_tp, MT_.w_size, MT_.w_limit, MT_.w_to, MT_.w_frm, MT_.w_kind, MT_.w_number, MT_.w_sign, MT_.w_word] at u_28); simp only [mGo2, mGo3, mGoE, mSg, mStep, mGood, emqx, hs_362, hs_3, hQ_27, f_29, u_28, c_34, c_39, (eq_true h_40), c_193, h_194, hx_239, f_240, h_241, c_291, (eq_true h_292), f_335, hx_336, h_337, (nle h_337), hy_347, f_348, hy_349, hy_350, hy_351, hy_352, h_356, hx_358, if_true, if_false, mqM_tp, mqM_size, mqM_limit, mqM_to, mqM_frm, mqM_kind, mqM_number, mqM_sign, mqM_word, MT_.w_tp, MT_.w_size, MT_.w_limit, MT_.w_to, MT_.w_frm, MT_.w_kind, MT_.w_number, MT_.w_sign, MT_.w_word]) (by have := hj_24; have := (ti_k tx_358 rc_1); omega) (ms_1 hm_25 (ti_k tx_358 rc_1) (by decide))
                · skip
                  have r_363 := lt_l (hi := 2) (nle h_356) r_346 rc_3 (by decide)
                  refine g_aload_n C 2 dX12_go_320 rfl rfl ?_
                  refine g_bipush C (v := 10) dX12_go_321 (by decide) ?_
                  refine g_aload_n C 2 dX12_go_323 rfl rfl ?_
                  have f_364 : s_26.number = v_17 := (congrArg MT_.number hs_355).symm.trans q_22
                  refine g_getI C K hLx hkx f_12_121 (v := v_17) q_22 dX12_go_324 ?_
                  obtain ⟨x_365, hx_365, rx_365⟩ := ex_any (z0 := 10 * v_17)
                  refine g_imul C (v := x_365) dX12_go_327 hx_365 ?_
                  refine g_iload C 1 dX12_go_328 rfl ?_
                  obtain ⟨x_366, hx_366, rx_366⟩ := ex_any (z0 := x_365 + x_239)
                  refine g_iadd C (v := x_366) dX12_go_330 hx_366 ?_
                  refine g_bipush C (v := 48) dX12_go_331 (by decide) ?_
                  obtain ⟨x_367, hx_367, rx_367⟩ := ex_any (z0 := x_366 - 48)
                  refine g_isub C (v := x_367) dX12_go_333 hx_367 ?_
                  refine h_putI C K hLx hkx f_12_121 p_12_8 dX12_go_334 (fun I_368 hI_368 => ?_)
                  have hU_369 := iw_put W9 hU_6 hI_368 (ro_o hkx (by decide)) (lo := (-2147483648)) (hi := 2147483647) (rfl) (rx_367) rfl
                  have hF_370 := fq_puto hF_7 hI_368 hkx (by decide) (by decide)
                  have hs_371 : MTq I_368 J_353 x b_2 = (MT_.w_number (MT_.w_word s_26 (y_352)) (x_367)) := by rw [hI_368]; exact ((mq_number wmqx).trans (congrArg (fun z : MT_ => MT_.w_number z (x_367)) hs_355)).trans rfl
                  refine g_aload_n C 2 dX12_go_337 rfl rfl ?_
                  refine g_dup C dX12_go_338 rfl ?_
                  refine g_getI C K hLx hkx f_12_95 (v := v_15) (kp_j hI_368 (by decide) q_20) dX12_go_339 ?_
                  refine g_iconst C (v := 1) dX12_go_342 (by decide) ?_
                  obtain ⟨x_372, hx_372, rx_372, tx_372⟩ := ex_add 2 940 r_238 rc_1 (by decide) (by decide) (by decide) (by decide)
                  refine g_iadd C (v := x_372) dX12_go_343 hx_372 ?_
                  refine h_putI C K hLx hkx f_12_95 p_12_5 dX12_go_344 (fun I_373 hI_373 => ?_)
                  have hU_374 := iw_put W9 hU_369 hI_373 (ro_o hkx (by decide)) (lo := 0) (hi := 940) (rfl) (rg_w rx_372 (by decide) (by decide)) rfl
                  have hF_375 := fq_puto hF_370 hI_373 hkx (by decide) (by decide)
                  have hs_376 : MTq I_373 J_353 x b_2 = (MT_.w_to (MT_.w_number (MT_.w_word s_26 (y_352)) (x_367)) (x_372)) := by rw [hI_373]; exact ((mq_to wmqx).trans (congrArg (fun z : MT_ => MT_.w_to z (x_372)) hs_371)).trans rfl
                  refine g_goto C (tgt := 215) dX12_go_347 (by decide) ?_
                  refine g_lo (is := [2, 3, 4, 0, 1]) (lo2 := [(0, .ref x), (1, .int v_9), (2, .int v_10), (3, .int 1), (4, .int x_239)]) rfl ?_
                  exact ih_215 I_373 J_353 hU_374 hF_375 hG_354 v_9 (rv_9) (nv_9_10) (nv_9_32) v_10 (rv_10) 1 (rg_w rc_1 (by decide) (by decide)) x_239 (rx_239) v_13 (rv_13) v_14 (rv_14) x_372 (rg_w rx_372 (by decide) (by decide)) v_16 (rv_16) x_367 (kp_j hI_373 (by decide) (kp_j hI_368 (by decide) q_18)) (kp_j hI_373 (by decide) (kp_j hI_368 (by decide) q_19)) (kp_s hI_373) (kp_j hI_373 (by decide) (kp_j hI_368 (by decide) q_21)) (kp_j hI_373 (by decide) (kp_s hI_368)) (by (try simp only [f_29, c_34, c_39, (eq_true h_40), c_193, h_194, hx_239, f_240, h_241, c_291, (eq_true h_292), f_335, hx_336, h_337, (nle h_337), hy_347, f_348, hy_349, hy_350, hy_351, hy_352, h_356, (nle h_356), f_364, hx_365, hx_366, hx_367, hx_372, if_true, if_false, mqM_tp, mqM_size, mqM_limit, mqM_to, mqM_frm, mqM_kind, mqM_number, mqM_sign, mqM_word, MT_.w_tp, MT_.w_size, MT_.w_limit, MT_.w_to, MT_.w_frm, MT_.w_kind, MT_.w_number, MT_.w_sign, MT_.w_word] at hQ_27); (try simp only [f_29, c_34, c_39, (eq_true h_40), c_193, h_194, hx_239, f_240, h_241, c_291, (eq_true h_292), f_335, hx_336, h_337, (nle h_337), hy_347, f_348, hy_349, hy_350, hy_351, hy_352, h_356, (nle h_356), f_364, hx_365, hx_366, hx_367, hx_372, if_true, if_false, mqM_tp, mqM_size, mqM_limit, mqM_to, mqM_frm, mqM_kind, mqM_number, mqM_sign, mqM_word, MT_.w_tp, MT_.w_size, MT_.w_limit, MT_.w_to, MT_.w_frm, MT_.w_kind, MT_.w_number, MT_.w_sign, MT_.w_word] at u_28); simp only [mGo2, mGo3, mGoE, mSg, mStep, mGood, emqx, hs_376, hs_3, hQ_27, f_29, u_28, c_34, c_39, (eq_true h_40), c_193, h_194, hx_239, f_240, h_241, c_291, (eq_true h_292), f_335, hx_336, h_337, (nle h_337), hy_347, f_348, hy_349, hy_350, hy_351, hy_352, h_356, (nle h_356), f_364, hx_365, hx_366, hx_367, hx_372, if_true, if_false, mqM_tp, mqM_size, mqM_limit, mqM_to, mqM_frm, mqM_kind, mqM_number, mqM_sign, mqM_word, MT_.w_tp, MT_.w_size, MT_.w_limit, MT_.w_to, MT_.w_frm, MT_.w_kind, MT_.w_number, MT_.w_sign, MT_.w_word]) (by have := hj_24; have := (ti_k tx_372 rc_1); omega) (ms_1 hm_25 (ti_k tx_372 rc_1) (by decide))
  have l_0 : ∀ (n_0 : Nat) (I_377 : Nat → Nat → Int32) (J_378 : Nat → Nat → Int64) (hU_379 : Iw L κ R ow I_377) (hF_380 : Fq L κ ow [1205, 1206, 1207, 1208, 1209] I I_377) (hG_381 : Fq L κ ow [1212] J J_378) (v_382 : Int32) (rv_382 : Rg 0 940 v_382) (q_383 : I_377 x 5 = v_382) (hq_384 : msk (MTq I_377 J_378 x b_2) = msk s_3) (hj_385 : x_1.toInt ≤ v_382.toInt) (hm_386 : 940 < (v_382 : Int32).toInt + (n_0 : Int)), WG p l e { frames := 1, cells := 0, slots := 0, locals := 21 } s m ([.ref x] : List Value).toArray below meth c 5 0 0 (MQ below (Qv_ D cy L κ ln R (fun I2 J2 => Iw L κ R ow I2 ∧ Fq L κ ow [1205, 1206, 1207, 1208, 1209] I I2 ∧ Fq L κ ow [1212] J J2 ∧ (MTf R I2 J2 x = mGo (MTf R I J x)) ∧ (Ps_ x I I2))) ([.ref x] : List Value).toArray s 0 0 (Al_ L)) D cy (Al_ L) s.heap L κ ln R I_377 J_378 0 [(0, .ref x)] [] := by
    intro n_0
    induction n_0 with
    | zero =>
      intro I_377 J_378 hU_379 hF_380 hG_381 v_382 rv_382 q_383 hq_384 hj_385 hm_386
      exact ms_0 rv_382 hm_386
    | succ n_0 ih_0 =>
      intro I_377 J_378 hU_379 hF_380 hG_381 v_382 rv_382 q_383 hq_384 hj_385 hm_386
      obtain ⟨s_387, hs_387⟩ : ∃ z, MTq I_377 J_378 x b_2 = z := ⟨_, rfl⟩
      simp only [hs_387] at hq_384
      have hQ_388 := hq_384.symm
      have f_390 : s_387.to = v_382 := (congrArg MT_.to hs_387).symm.trans q_383
      have u_389 := msk_eq (m := s_387) ((congrArg MT_.to hs_387).symm.trans q_383) (rv_382)
      refine g_aload_n C 0 dX12_go_0 rfl rfl ?_
      refine g_getI C K hLx hkx f_12_95 (v := v_382) q_383 dX12_go_1 ?_
      refine g_aload_n C 0 dX12_go_4 rfl rfl ?_
      obtain ⟨x_391, hx_391, rx_391⟩ := ex_getw (I := I_377) (a := x) (j := 3) (lo := 0) (hi := 940) hU_379.1 hLx (ro_o hkx (by decide)) rfl
      have f_392 : s_387.size = x_391 := (congrArg MT_.size hs_387).symm.trans hx_391
      refine g_getI C K hLx hkx f_12_92 (v := x_391) hx_391 dX12_go_5 ?_
      refine g_icmp_ge C (tgt := 52) dX12_go_8 (by decide) (fun h_393 => ?_) (fun h_393 => ?_)
      · skip
        refine g_aload_n C 0 dX12_go_52 rfl rfl ?_
        refine g_aload_n C 0 dX12_go_53 rfl rfl ?_
        refine g_getI C K hLx hkx f_12_95 (v := v_382) q_383 dX12_go_54 ?_
        refine h_putI C K hLx hkx f_12_98 p_12_6 dX12_go_57 (fun I_394 hI_394 => ?_)
        have hU_395 := iw_put W9 hU_379 hI_394 (ro_o hkx (by decide)) (lo := 0) (hi := 940) (rfl) (rv_382) rfl
        have hF_396 := fq_puto hF_380 hI_394 hkx (by decide) (by decide)
        have hs_397 : MTq I_394 J_378 x b_2 = (MT_.w_frm s_387 (v_382)) := by rw [hI_394]; exact ((mq_frm wmqx).trans (congrArg (fun z : MT_ => MT_.w_frm z (v_382)) hs_387)).trans rfl
        refine g_aload_n C 0 dX12_go_60 rfl rfl ?_
        refine g_getI C K hLx hkx f_12_92 (v := x_391) (kp_j hI_394 (by decide) hx_391) dX12_go_61 ?_
        refine g_aload_n C 0 dX12_go_64 rfl rfl ?_
        obtain ⟨x_398, hx_398, rx_398⟩ := ex_getw (I := I_394) (a := x) (j := 4) (lo := 0) (hi := 900) hU_395.1 hLx (ro_o hkx (by decide)) rfl
        have f_399 : s_387.limit = x_398 := (congrArg MT_.limit hs_397).symm.trans hx_398
        refine g_getI C K hLx hkx f_12_101 (v := x_398) hx_398 dX12_go_65 ?_
        refine g_icmp_le C (tgt := 96) dX12_go_68 (by decide) (fun h_400 => ?_) (fun h_400 => ?_)
        · skip
          have r_401 := le_l (h_400) rx_391 rx_398
          refine g_aload_n C 0 dX12_go_96 rfl rfl ?_
          refine g_getI C K hLx hkx f_12_95 (v := v_382) (kp_j hI_394 (by decide) q_383) dX12_go_97 ?_
          refine g_aload_n C 0 dX12_go_100 rfl rfl ?_
          refine g_getI C K hLx hkx f_12_92 (v := x_391) (kp_j hI_394 (by decide) hx_391) dX12_go_101 ?_
          refine g_icmp_lt C (tgt := 113) dX12_go_104 (by decide) (fun h_402 => ?_) (fun h_402 => ?_)
          · skip
            have r_403 := lt_l (hi := 899) (h_402) rv_382 r_401 (by decide)
            have r_404 := lt_r (lo := 1) (h_402) rv_382 r_401 (by decide)
            refine g_aload_n C 0 dX12_go_113 rfl rfl ?_
            refine g_getR C K hLx hkx f_12_7 hb_2 dX12_go_114 ?_
            refine g_aload_n C 0 dX12_go_117 rfl rfl ?_
            refine g_getI C K hLx hkx f_12_95 (v := v_382) (kp_j hI_394 (by decide) q_383) dX12_go_118 ?_
            obtain ⟨x_405, hx_405, rx_405⟩ := ex_getw (I := I_394) (a := b_2) (j := v_382.toNatClampNeg) (lo := 0) (hi := 255) hU_395.1 hb_2L (ro_a hb_2k (by decide) hb_2o hkx rfl) (rfl)
            refine h_iald C K hb_2L hb_2k (v := x_405) (v_382.toNatClampNeg) (rfl) (ix_0 r_403 (by decide)) (ix_lt r_403 (by decide) hb_2n (by decide)) hx_405 dX12_go_121 ?_
            have f_406 : s_387.tp (v_382.toNatClampNeg) = x_405 := (congrFun (congrArg MT_.tp hs_397) _).symm.trans hx_405
            refine g_istore_n C dX12_go_122 rfl (by decide) (lo2 := [(1, .int x_405), (0, .ref x)]) rfl ?_
            refine g_iload_n C 0 dX12_go_123 rfl rfl ?_
            refine g_callSI C K (c_X12_isLetter W9 x_405  hU_395) s_12_107 rfl ⟨rfl, rfl⟩ ⟨Nat.le_of_ble_eq_true rfl, Nat.le_of_ble_eq_true rfl⟩ (Nat.le_of_ble_eq_true rfl) ⟨Nat.le_of_ble_eq_true rfl, Nat.le_of_ble_eq_true rfl⟩ dX12_go_124 rfl (st := []) (fun x_407 I_408 J_409 h_410 => ?_)
            obtain ⟨rfl, rfl, rx_407, fx_407, ex_407⟩ := h_410
            have c_411 : isLc (x_405) = x_407 := fx_407.symm
            refine g_if_ne C (tgt := 198) dX12_go_127 (by decide) (fun h_412 => ?_) (fun h_412 => ?_)
            · skip
              have n_413 : ¬ x_407 = 0 := h_412
              have r_414 := ne_lo (lo := 1) n_413 rx_407 rc_0 rfl (by decide)
              have r_415 := rg_i rx_405 ((ex_407.2) n_413) (lo := 97) (hi := 122) (by decide) (by decide)
              refine g_iload_n C 0 dX12_go_198 rfl rfl ?_
              refine g_callSI C K (c_X12_isLetter W9 x_405  hU_395) s_12_107 rfl ⟨rfl, rfl⟩ ⟨Nat.le_of_ble_eq_true rfl, Nat.le_of_ble_eq_true rfl⟩ (Nat.le_of_ble_eq_true rfl) ⟨Nat.le_of_ble_eq_true rfl, Nat.le_of_ble_eq_true rfl⟩ dX12_go_199 rfl (st := []) (fun x_416 I_417 J_418 h_419 => ?_)
              obtain ⟨rfl, rfl, rx_416, fx_416, ex_416⟩ := h_419
              have c_420 : isLc (x_405) = x_416 := fx_416.symm
              have ec_420 : x_407 = x_416 := c_411.symm.trans c_420
              subst ec_420
              refine g_istore_n C dX12_go_202 rfl (by decide) (lo2 := [(2, .int x_407), (1, .int x_405), (0, .ref x)]) rfl ?_
              refine g_iconst C (v := 1) dX12_go_203 (by decide) ?_
              refine g_istore_n C dX12_go_204 rfl (by decide) (lo2 := [(3, .int 1), (2, .int x_407), (1, .int x_405), (0, .ref x)]) rfl ?_
              refine g_aload_n C 3 dX12_go_205 rfl rfl ?_
              refine g_lconst C (v := 0) dX12_go_206 (by decide) ?_
              refine h_putJ C K hLx hkx f_12_117 p_12_12 dX12_go_207 (fun J_421 hJ_421 => ?_)
              have hG_422 := fq_puto hG_381 hJ_421 hkx (by decide) (by decide)
              have hs_423 : MTq I_394 J_421 x b_2 = (MT_.w_word (MT_.w_frm s_387 (v_382)) (0)) := by rw [hJ_421]; exact ((mq_word wmqx).trans (congrArg (fun z : MT_ => MT_.w_word z (0)) hs_397)).trans rfl
              refine g_aload_n C 3 dX12_go_210 rfl rfl ?_
              refine g_iconst C (v := 0) dX12_go_211 (by decide) ?_
              refine h_putI C K hLx hkx f_12_121 p_12_8 dX12_go_212 (fun I_424 hI_424 => ?_)
              have hU_425 := iw_put W9 hU_395 hI_424 (ro_o hkx (by decide)) (lo := (-2147483648)) (hi := 2147483647) (rfl) (rg_all _) rfl
              have hF_426 := fq_puto hF_396 hI_424 hkx (by decide) (by decide)
              have hs_427 : MTq I_424 J_421 x b_2 = (MT_.w_number (MT_.w_word (MT_.w_frm s_387 (v_382)) (0)) (0)) := by rw [hI_424]; exact ((mq_number wmqx).trans (congrArg (fun z : MT_ => MT_.w_number z (0)) hs_423)).trans rfl
              have u_428 := mrun_eq (lt := x_407) (g := 1) (m := (MT_.w_number (MT_.w_word (MT_.w_frm s_387 (v_382)) (0)) (0))) ((congrArg MT_.to hs_427).symm.trans (kp_j hI_424 (by decide) (kp_j hI_394 (by decide) q_383))) (rg_w r_403 (by decide) (by decide))
              refine g_aload_n C 3 dX12_go_215 rfl rfl ?_
              refine g_aload_n C 3 dX12_go_216 rfl rfl ?_
              refine g_getI C K hLx hkx f_12_95 (v := v_382) (kp_j hI_424 (by decide) (kp_j hI_394 (by decide) q_383)) dX12_go_217 ?_
              refine g_callVI C K (c_X12_tapeAt W9 hLx hkx v_382 (rg_w r_403 (by decide) (by decide)) hU_425) hLx hkx (by decide) rfl v_12_124 rfl ⟨rfl, rfl⟩ ⟨Nat.le_of_ble_eq_true rfl, Nat.le_of_ble_eq_true rfl⟩ (Nat.le_of_ble_eq_true rfl) ⟨Nat.le_of_ble_eq_true rfl, Nat.le_of_ble_eq_true rfl⟩ dX12_go_220 rfl (st := []) (fun x_429 I_430 J_431 h_432 => ?_)
              obtain ⟨rfl, rfl, rx_429, fx_429, ex_429⟩ := h_432
              have c_433 : mTapeAt (v_382) ((MT_.w_number (MT_.w_word (MT_.w_frm s_387 (v_382)) (0)) (0))) = x_429 := by have q := fx_429; simp only [emqx, hs_427] at q; exact q.symm
              have r_434 := eq_rg ((ex_429.1 _ hb_2 (by rw [(kp_j hI_424 (by decide) (kp_j hI_394 (by decide) hx_391))]; exact h_402)).trans (kp_k (κ := κ) hI_424 (by rw [hb_2k, hkx]; decide) hx_405)) r_415
              refine g_callSI C K (c_X12_isLetter W9 x_429  hU_425) s_12_107 rfl ⟨rfl, rfl⟩ ⟨Nat.le_of_ble_eq_true rfl, Nat.le_of_ble_eq_true rfl⟩ (Nat.le_of_ble_eq_true rfl) ⟨Nat.le_of_ble_eq_true rfl, Nat.le_of_ble_eq_true rfl⟩ dX12_go_223 rfl (st := []) (fun x_435 I_436 J_437 h_438 => ?_)
              obtain ⟨rfl, rfl, rx_435, fx_435, ex_435⟩ := h_438
              have c_439 : isLc (x_429) = x_435 := fx_435.symm
              have n_440 : ¬ x_435 = 0 := by rcases ex_435.1 with q | q | q; exact q; exact absurd q (by have := (r_434).1; omega); exact absurd q (by have := (r_434).2; omega)
              have n_441 : ¬ x_435 = 0 := n_440
              have r_442 := ne_lo (lo := 1) n_441 rx_435 rc_0 rfl (by decide)
              refine g_if_ne C (tgt := 243) dX12_go_226 (by decide) (fun h_443 => ?_) (fun h_443 => ?_)
              · skip
                have n_444 : ¬ x_435 = 0 := h_443
                refine g_aload_n C 3 dX12_go_243 rfl rfl ?_
                refine g_getR C K hLx hkx f_12_7 hb_2 dX12_go_244 ?_
                refine g_aload_n C 3 dX12_go_247 rfl rfl ?_
                refine g_getI C K hLx hkx f_12_95 (v := v_382) (kp_j hI_424 (by decide) (kp_j hI_394 (by decide) q_383)) dX12_go_248 ?_
                refine h_iald C K hb_2L hb_2k (v := x_405) (v_382.toNatClampNeg) (rfl) (ix_0 r_403 (by decide)) (ix_lt r_403 (by decide) hb_2n (by decide)) (kp_k (κ := κ) hI_424 (by rw [hb_2k, hkx]; decide) hx_405) dX12_go_251 ?_
                refine g_istore C dX12_go_252 (by decide) (lo2 := [(4, .int x_405), (3, .int 1), (2, .int x_407), (1, .int x_405), (0, .ref x)]) rfl ?_
                refine g_iload_n C 1 dX12_go_254 rfl rfl ?_
                refine g_if_eq C (tgt := 271) dX12_go_255 (by decide) (fun h_446 => ?_) (fun h_446 => ?_)
                · skip
                  exact absurd (h_446) (by decide)
                · skip
                  refine g_iload C 0 dX12_go_258 rfl ?_
                  refine g_callSI C K (c_X12_isLetter W9 x_405  hU_425) s_12_107 rfl ⟨rfl, rfl⟩ ⟨Nat.le_of_ble_eq_true rfl, Nat.le_of_ble_eq_true rfl⟩ (Nat.le_of_ble_eq_true rfl) ⟨Nat.le_of_ble_eq_true rfl, Nat.le_of_ble_eq_true rfl⟩ dX12_go_260 rfl (st := []) (fun x_447 I_448 J_449 h_450 => ?_)
                  obtain ⟨rfl, rfl, rx_447, fx_447, ex_447⟩ := h_450
                  have c_451 : isLc (x_405) = x_447 := fx_447.symm
                  have ec_451 : x_407 = x_447 := c_411.symm.trans c_451
                  subst ec_451
                  refine g_iload_n C 2 dX12_go_263 rfl rfl ?_
                  refine g_icmp_ne C (tgt := 271) dX12_go_264 (by decide) (fun h_452 => ?_) (fun h_452 => ?_)
                  · skip
                    exact ne_no (h_452) r_414 r_414
                  · skip
                    refine g_iconst C (v := 1) dX12_go_267 (by decide) ?_
                    refine g_goto C (tgt := 272) dX12_go_268 (by decide) ?_
                    refine g_istore_n C dX12_go_272 rfl (by decide) (lo2 := [(3, .int 1), (4, .int x_405), (2, .int x_407), (1, .int x_405), (0, .ref x)]) rfl ?_
                    refine g_aload_n C 4 dX12_go_273 rfl rfl ?_
                    refine g_getI C K hLx hkx f_12_95 (v := v_382) (kp_j hI_424 (by decide) (kp_j hI_394 (by decide) q_383)) dX12_go_274 ?_
                    refine g_aload_n C 4 dX12_go_277 rfl rfl ?_
                    refine g_getI C K hLx hkx f_12_98 (v := v_382) (kp_j hI_424 (by decide) (kp_s hI_394)) dX12_go_278 ?_
                    refine g_isub C (v := 0) dX12_go_281 (Int32.sub_self _) ?_
                    refine g_bipush C (v := 7) dX12_go_282 (by decide) ?_
                    refine g_icmp_ge C (tgt := 307) dX12_go_284 (by decide) (fun h_453 => ?_) (fun h_453 => ?_)
                    · skip
                      exact absurd (h_453) (by decide)
                    · skip
                      refine g_aload_n C 4 dX12_go_287 rfl rfl ?_
                      refine g_ldc2 C kl_128 dX12_go_288 ?_
                      refine g_aload_n C 4 dX12_go_291 rfl rfl ?_
                      obtain ⟨y_454, hy_454⟩ : ∃ z, J_421 x 12 = z := ⟨_, rfl⟩
                      refine g_getJ C K hLx hkx f_12_117 (v := y_454) hy_454 dX12_go_292 ?_
                      refine g_lmulE C dX12_go_295 (fun y_455 hy_455 => ?_)
                      refine g_iload C 1 dX12_go_296 rfl ?_
                      obtain ⟨y_456, hy_456⟩ : ∃ z, Int32.toInt64 x_405 = z := ⟨_, rfl⟩
                      refine g_i2l C (v := y_456) dX12_go_298 hy_456 ?_
                      refine g_laddE C dX12_go_299 (fun y_457 hy_457 => ?_)
                      refine g_ldc2 C kl_130 dX12_go_300 ?_
                      refine g_lsubE C dX12_go_303 (fun y_458 hy_458 => ?_)
                      refine h_putJ C K hLx hkx f_12_117 p_12_12 dX12_go_304 (fun J_459 hJ_459 => ?_)
                      have hG_460 := fq_puto hG_422 hJ_459 hkx (by decide) (by decide)
                      have hs_461 : MTq I_424 J_459 x b_2 = (MT_.w_word (MT_.w_number (MT_.w_frm s_387 (v_382)) (0)) (y_458)) := by rw [hJ_459]; exact ((mq_word wmqx).trans (congrArg (fun z : MT_ => MT_.w_word z (y_458)) hs_427)).trans rfl
                      refine g_aload_n C 4 dX12_go_307 rfl rfl ?_
                      refine g_getI C K hLx hkx f_12_95 (v := v_382) (kp_j hI_424 (by decide) (kp_j hI_394 (by decide) q_383)) dX12_go_308 ?_
                      refine g_aload_n C 4 dX12_go_311 rfl rfl ?_
                      refine g_getI C K hLx hkx f_12_98 (v := v_382) (kp_j hI_424 (by decide) (kp_s hI_394)) dX12_go_312 ?_
                      refine g_isub C (v := 0) dX12_go_315 (Int32.sub_self _) ?_
                      refine g_iconst C (v := 3) dX12_go_316 (by decide) ?_
                      refine g_icmp_ge C (tgt := 337) dX12_go_317 (by decide) (fun h_462 => ?_) (fun h_462 => ?_)
                      · skip
                        exact absurd (h_462) (by decide)
                      · skip
                        refine g_aload_n C 4 dX12_go_320 rfl rfl ?_
                        refine g_bipush C (v := 10) dX12_go_321 (by decide) ?_
                        refine g_aload_n C 4 dX12_go_323 rfl rfl ?_
                        refine g_getI C K hLx hkx f_12_121 (v := 0) (kp_s hI_424) dX12_go_324 ?_
                        refine g_imul C (v := 0) dX12_go_327 (by decide) ?_
                        refine g_iload C 1 dX12_go_328 rfl ?_
                        obtain ⟨x_463, hx_463, rx_463, tx_463⟩ := ex_add 97 122 rc_0 r_415 (by decide) (by decide) (by decide) (by decide)
                        refine g_iadd C (v := x_463) dX12_go_330 hx_463 ?_
                        refine g_bipush C (v := 48) dX12_go_331 (by decide) ?_
                        obtain ⟨x_464, hx_464, rx_464, tx_464⟩ := ex_sub 49 74 rx_463 rc_48 (by decide) (by decide) (by decide) (by decide)
                        refine g_isub C (v := x_464) dX12_go_333 hx_464 ?_
                        refine h_putI C K hLx hkx f_12_121 p_12_8 dX12_go_334 (fun I_465 hI_465 => ?_)
                        have hU_466 := iw_put W9 hU_425 hI_465 (ro_o hkx (by decide)) (lo := (-2147483648)) (hi := 2147483647) (rfl) (rg_all _) rfl
                        have hF_467 := fq_puto hF_426 hI_465 hkx (by decide) (by decide)
                        have hs_468 : MTq I_465 J_459 x b_2 = (MT_.w_number (MT_.w_word (MT_.w_frm s_387 (v_382)) (y_458)) (x_464)) := by rw [hI_465]; exact ((mq_number wmqx).trans (congrArg (fun z : MT_ => MT_.w_number z (x_464)) hs_461)).trans rfl
                        refine g_aload_n C 4 dX12_go_337 rfl rfl ?_
                        refine g_dup C dX12_go_338 rfl ?_
                        refine g_getI C K hLx hkx f_12_95 (v := v_382) (kp_j hI_465 (by decide) (kp_j hI_424 (by decide) (kp_j hI_394 (by decide) q_383))) dX12_go_339 ?_
                        refine g_iconst C (v := 1) dX12_go_342 (by decide) ?_
                        obtain ⟨x_469, hx_469, rx_469, tx_469⟩ := ex_add 1 900 r_403 rc_1 (by decide) (by decide) (by decide) (by decide)
                        refine g_iadd C (v := x_469) dX12_go_343 hx_469 ?_
                        refine h_putI C K hLx hkx f_12_95 p_12_5 dX12_go_344 (fun I_470 hI_470 => ?_)
                        have hU_471 := iw_put W9 hU_466 hI_470 (ro_o hkx (by decide)) (lo := 0) (hi := 940) (rfl) (rg_w rx_469 (by decide) (by decide)) rfl
                        have hF_472 := fq_puto hF_467 hI_470 hkx (by decide) (by decide)
                        have hs_473 : MTq I_470 J_459 x b_2 = (MT_.w_to (MT_.w_number (MT_.w_word (MT_.w_frm s_387 (v_382)) (y_458)) (x_464)) (x_469)) := by rw [hI_470]; exact ((mq_to wmqx).trans (congrArg (fun z : MT_ => MT_.w_to z (x_469)) hs_468)).trans rfl
                        refine g_goto C (tgt := 215) dX12_go_347 (by decide) ?_
                        refine g_lo (is := [4, 3, 2, 0, 1]) (lo2 := [(0, .ref x), (1, .int x_405), (2, .int x_407), (3, .int 1), (4, .int x_405)]) rfl ?_
                        exact l_215 940 I_470 J_459 hU_471 hF_472 hG_460 x_405 (rg_w r_415 (by decide) (by decide)) (rg_nek r_415 rc_10 (by decide)) (rg_nek r_415 rc_32 (by decide)) x_407 (rg_w r_414 (by decide) (by decide)) 1 (rg_w rc_1 (by decide) (by decide)) x_405 (rg_w r_415 (by decide) (by decide)) x_391 (rg_w r_404 (by decide) (by decide)) x_398 (rx_398) x_469 (rg_w rx_469 (by decide) (by decide)) v_382 (r_403) x_464 (kp_j hI_470 (by decide) (kp_j hI_465 (by decide) (kp_j hI_424 (by decide) (kp_j hI_394 (by decide) hx_391)))) (kp_j hI_470 (by decide) (kp_j hI_465 (by decide) (kp_j hI_424 (by decide) hx_398))) (kp_s hI_470) (kp_j hI_470 (by decide) (kp_j hI_465 (by decide) (kp_j hI_424 (by decide) (kp_s hI_394)))) (kp_j hI_470 (by decide) (kp_s hI_465)) (by (try simp only [f_390, hx_391, f_392, h_393, hx_398, f_399, h_400, h_402, hx_405, f_406, c_411, h_412, c_439, h_443, h_446, (eq_true h_452), h_453, (nle h_453), hy_454, hy_455, hy_456, hy_457, hy_458, h_462, (nle h_462), hx_463, hx_464, hx_469, if_true, if_false, mqM_tp, mqM_size, mqM_limit, mqM_to, mqM_frm, mqM_kind, mqM_number, mqM_sign, mqM_word, MT_.w_tp, MT_.w_size, MT_.w_limit, MT_.w_to, MT_.w_frm, MT_.w_kind, MT_.w_number, MT_.w_sign, MT_.w_word] at hQ_388); (try simp only [f_390, hx_391, f_392, h_393, hx_398, f_399, h_400, h_402, hx_405, f_406, c_411, h_412, c_439, h_443, h_446, (eq_true h_452), h_453, (nle h_453), hy_454, hy_455, hy_456, hy_457, hy_458, h_462, (nle h_462), hx_463, hx_464, hx_469, if_true, if_false, mqM_tp, mqM_size, mqM_limit, mqM_to, mqM_frm, mqM_kind, mqM_number, mqM_sign, mqM_word, MT_.w_tp, MT_.w_size, MT_.w_limit, MT_.w_to, MT_.w_frm, MT_.w_kind, MT_.w_number, MT_.w_sign, MT_.w_word] at u_389); (try simp only [f_390, hx_391, f_392, h_393, hx_398, f_399, h_400, h_402, hx_405, f_406, c_411, h_412, c_439, h_443, h_446, (eq_true h_452), h_453, (nle h_453), hy_454, hy_455, hy_456, hy_457, hy_458, h_462, (nle h_462), hx_463, hx_464, hx_469, if_true, if_false, mqM_tp, mqM_size, mqM_limit, mqM_to, mqM_frm, mqM_kind, mqM_number, mqM_sign, mqM_word, MT_.w_tp, MT_.w_size, MT_.w_limit, MT_.w_to, MT_.w_frm, MT_.w_kind, MT_.w_number, MT_.w_sign, MT_.w_word] at u_428); (try simp only [f_390, hx_391, f_392, h_393, hx_398, f_399, h_400, h_402, hx_405, f_406, c_411, h_412, c_439, h_443, h_446, (eq_true h_452), h_453, (nle h_453), hy_454, hy_455, hy_456, hy_457, hy_458, h_462, (nle h_462), hx_463, hx_464, hx_469, if_true, if_false, mqM_tp, mqM_size, mqM_limit, mqM_to, mqM_frm, mqM_kind, mqM_number, mqM_sign, mqM_word, MT_.w_tp, MT_.w_size, MT_.w_limit, MT_.w_to, MT_.w_frm, MT_.w_kind, MT_.w_number, MT_.w_sign, MT_.w_word] at c_433); simp only [mGo, mGo2, mGo3, mGoE, mSg, mStep, mGood, emqx, hs_473, hs_3, hQ_388, f_390, u_389, hx_391, f_392, h_393, hx_398, f_399, h_400, h_402, hx_405, f_406, c_411, h_412, u_428, c_433, c_439, h_443, h_446, (eq_true h_452), h_453, (nle h_453), hy_454, hy_455, hy_456, hy_457, hy_458, h_462, (nle h_462), hx_463, hx_464, hx_469, if_true, if_false, mqM_tp, mqM_size, mqM_limit, mqM_to, mqM_frm, mqM_kind, mqM_number, mqM_sign, mqM_word, MT_.w_tp, MT_.w_size, MT_.w_limit, MT_.w_to, MT_.w_frm, MT_.w_kind, MT_.w_number, MT_.w_sign, MT_.w_word]) (by have := hj_385; have := (ti_k tx_469 rc_1); omega) (ms_s (a := 1) (b := 940) (N := 940) (rg_w rx_469 (by decide) (by decide)) (by decide))
              · skip
                exact eq_no (h_443) r_442 rc_0 (by decide)
            · skip
              have r_474 := (⟨(rx_407).1, (eq_rg (h_412) rc_0).2⟩ : Rg 0 0 x_407)
              refine g_iload_n C 0 dX12_go_130 rfl rfl ?_
              refine g_callSI C K (c_X12_isDigit W9 x_405  hU_395) s_12_111 rfl ⟨rfl, rfl⟩ ⟨Nat.le_of_ble_eq_true rfl, Nat.le_of_ble_eq_true rfl⟩ (Nat.le_of_ble_eq_true rfl) ⟨Nat.le_of_ble_eq_true rfl, Nat.le_of_ble_eq_true rfl⟩ dX12_go_131 rfl (st := []) (fun x_475 I_476 J_477 h_478 => ?_)
              obtain ⟨rfl, rfl, rx_475, fx_475, ex_475⟩ := h_478
              have c_479 : isDc (x_405) = x_475 := fx_475.symm
              refine g_if_ne C (tgt := 198) dX12_go_134 (by decide) (fun h_480 => ?_) (fun h_480 => ?_)
              · skip
                have n_481 : ¬ x_475 = 0 := h_480
                have r_482 := ne_lo (lo := 1) n_481 rx_475 rc_0 rfl (by decide)
                have r_483 := rg_i rx_405 ((ex_475.2) n_481) (lo := 48) (hi := 57) (by decide) (by decide)
                refine g_iload_n C 0 dX12_go_198 rfl rfl ?_
                refine g_callSI C K (c_X12_isLetter W9 x_405  hU_395) s_12_107 rfl ⟨rfl, rfl⟩ ⟨Nat.le_of_ble_eq_true rfl, Nat.le_of_ble_eq_true rfl⟩ (Nat.le_of_ble_eq_true rfl) ⟨Nat.le_of_ble_eq_true rfl, Nat.le_of_ble_eq_true rfl⟩ dX12_go_199 rfl (st := []) (fun x_484 I_485 J_486 h_487 => ?_)
                obtain ⟨rfl, rfl, rx_484, fx_484, ex_484⟩ := h_487
                have c_488 : isLc (x_405) = x_484 := fx_484.symm
                have ec_488 : x_407 = x_484 := c_411.symm.trans c_488
                subst ec_488
                refine g_istore_n C dX12_go_202 rfl (by decide) (lo2 := [(2, .int x_407), (1, .int x_405), (0, .ref x)]) rfl ?_
                refine g_iconst C (v := 1) dX12_go_203 (by decide) ?_
                refine g_istore_n C dX12_go_204 rfl (by decide) (lo2 := [(3, .int 1), (2, .int x_407), (1, .int x_405), (0, .ref x)]) rfl ?_
                refine g_aload_n C 3 dX12_go_205 rfl rfl ?_
                refine g_lconst C (v := 0) dX12_go_206 (by decide) ?_
                refine h_putJ C K hLx hkx f_12_117 p_12_12 dX12_go_207 (fun J_489 hJ_489 => ?_)
                have hG_490 := fq_puto hG_381 hJ_489 hkx (by decide) (by decide)
                have hs_491 : MTq I_394 J_489 x b_2 = (MT_.w_word (MT_.w_frm s_387 (v_382)) (0)) := by rw [hJ_489]; exact ((mq_word wmqx).trans (congrArg (fun z : MT_ => MT_.w_word z (0)) hs_397)).trans rfl
                refine g_aload_n C 3 dX12_go_210 rfl rfl ?_
                refine g_iconst C (v := 0) dX12_go_211 (by decide) ?_
                refine h_putI C K hLx hkx f_12_121 p_12_8 dX12_go_212 (fun I_492 hI_492 => ?_)
                have hU_493 := iw_put W9 hU_395 hI_492 (ro_o hkx (by decide)) (lo := (-2147483648)) (hi := 2147483647) (rfl) (rg_all _) rfl
                have hF_494 := fq_puto hF_396 hI_492 hkx (by decide) (by decide)
                have hs_495 : MTq I_492 J_489 x b_2 = (MT_.w_number (MT_.w_word (MT_.w_frm s_387 (v_382)) (0)) (0)) := by rw [hI_492]; exact ((mq_number wmqx).trans (congrArg (fun z : MT_ => MT_.w_number z (0)) hs_491)).trans rfl
                have u_496 := mrun_eq (lt := x_407) (g := 1) (m := (MT_.w_number (MT_.w_word (MT_.w_frm s_387 (v_382)) (0)) (0))) ((congrArg MT_.to hs_495).symm.trans (kp_j hI_492 (by decide) (kp_j hI_394 (by decide) q_383))) (rg_w r_403 (by decide) (by decide))
                refine g_aload_n C 3 dX12_go_215 rfl rfl ?_
                refine g_aload_n C 3 dX12_go_216 rfl rfl ?_
                refine g_getI C K hLx hkx f_12_95 (v := v_382) (kp_j hI_492 (by decide) (kp_j hI_394 (by decide) q_383)) dX12_go_217 ?_
                refine g_callVI C K (c_X12_tapeAt W9 hLx hkx v_382 (rg_w r_403 (by decide) (by decide)) hU_493) hLx hkx (by decide) rfl v_12_124 rfl ⟨rfl, rfl⟩ ⟨Nat.le_of_ble_eq_true rfl, Nat.le_of_ble_eq_true rfl⟩ (Nat.le_of_ble_eq_true rfl) ⟨Nat.le_of_ble_eq_true rfl, Nat.le_of_ble_eq_true rfl⟩ dX12_go_220 rfl (st := []) (fun x_497 I_498 J_499 h_500 => ?_)
                obtain ⟨rfl, rfl, rx_497, fx_497, ex_497⟩ := h_500
                have c_501 : mTapeAt (v_382) ((MT_.w_number (MT_.w_word (MT_.w_frm s_387 (v_382)) (0)) (0))) = x_497 := by have q := fx_497; simp only [emqx, hs_495] at q; exact q.symm
                have r_502 := eq_rg ((ex_497.1 _ hb_2 (by rw [(kp_j hI_492 (by decide) (kp_j hI_394 (by decide) hx_391))]; exact h_402)).trans (kp_k (κ := κ) hI_492 (by rw [hb_2k, hkx]; decide) hx_405)) r_483
                refine g_callSI C K (c_X12_isLetter W9 x_497  hU_493) s_12_107 rfl ⟨rfl, rfl⟩ ⟨Nat.le_of_ble_eq_true rfl, Nat.le_of_ble_eq_true rfl⟩ (Nat.le_of_ble_eq_true rfl) ⟨Nat.le_of_ble_eq_true rfl, Nat.le_of_ble_eq_true rfl⟩ dX12_go_223 rfl (st := []) (fun x_503 I_504 J_505 h_506 => ?_)
                obtain ⟨rfl, rfl, rx_503, fx_503, ex_503⟩ := h_506
                have c_507 : isLc (x_497) = x_503 := fx_503.symm
                refine g_if_ne C (tgt := 243) dX12_go_226 (by decide) (fun h_508 => ?_) (fun h_508 => ?_)
                · skip
                  have n_509 : ¬ x_503 = 0 := h_508
                  have r_510 := ne_lo (lo := 1) n_509 rx_503 rc_0 rfl (by decide)
                  have r_511 := rg_i r_502 ((ex_503.2) n_509) (lo := 97) (hi := 57) (by decide) (by decide)
                  exact rg_no r_511 (by decide)
                · skip
                  have r_512 := (⟨(rx_503).1, (eq_rg (h_508) rc_0).2⟩ : Rg 0 0 x_503)
                  refine g_aload_n C 3 dX12_go_229 rfl rfl ?_
                  refine g_aload_n C 3 dX12_go_230 rfl rfl ?_
                  refine g_getI C K hLx hkx f_12_95 (v := v_382) (kp_j hI_492 (by decide) (kp_j hI_394 (by decide) q_383)) dX12_go_231 ?_
                  refine g_callVI C K (c_X12_tapeAt W9 hLx hkx v_382 (rg_w r_403 (by decide) (by decide)) hU_493) hLx hkx (by decide) rfl v_12_124 rfl ⟨rfl, rfl⟩ ⟨Nat.le_of_ble_eq_true rfl, Nat.le_of_ble_eq_true rfl⟩ (Nat.le_of_ble_eq_true rfl) ⟨Nat.le_of_ble_eq_true rfl, Nat.le_of_ble_eq_true rfl⟩ dX12_go_234 rfl (st := []) (fun x_513 I_514 J_515 h_516 => ?_)
                  obtain ⟨rfl, rfl, rx_513, fx_513, ex_513⟩ := h_516
                  have c_517 : mTapeAt (v_382) ((MT_.w_number (MT_.w_word (MT_.w_frm s_387 (v_382)) (0)) (0))) = x_513 := by have q := fx_513; simp only [emqx, hs_495] at q; exact q.symm
                  have ec_517 : x_497 = x_513 := c_501.symm.trans c_517
                  subst ec_517
                  refine g_callSI C K (c_X12_isDigit W9 x_497  hU_493) s_12_111 rfl ⟨rfl, rfl⟩ ⟨Nat.le_of_ble_eq_true rfl, Nat.le_of_ble_eq_true rfl⟩ (Nat.le_of_ble_eq_true rfl) ⟨Nat.le_of_ble_eq_true rfl, Nat.le_of_ble_eq_true rfl⟩ dX12_go_237 rfl (st := []) (fun x_518 I_519 J_520 h_521 => ?_)
                  obtain ⟨rfl, rfl, rx_518, fx_518, ex_518⟩ := h_521
                  have c_522 : isDc (x_497) = x_518 := fx_518.symm
                  have n_523 : ¬ x_518 = 0 := by rcases ex_518.1 with q | q | q; exact q; exact absurd q (by have := (r_502).1; omega); exact absurd q (by have := (r_502).2; omega)
                  have n_524 : ¬ x_518 = 0 := n_523
                  have r_525 := ne_lo (lo := 1) n_524 rx_518 rc_0 rfl (by decide)
                  refine g_if_eq C (tgt := 350) dX12_go_240 (by decide) (fun h_526 => ?_) (fun h_526 => ?_)
                  · skip
                    exact eq_no (h_526) r_525 rc_0 (by decide)
                  · skip
                    have n_527 : ¬ x_518 = 0 := h_526
                    refine g_aload_n C 3 dX12_go_243 rfl rfl ?_
                    refine g_getR C K hLx hkx f_12_7 hb_2 dX12_go_244 ?_
                    refine g_aload_n C 3 dX12_go_247 rfl rfl ?_
                    refine g_getI C K hLx hkx f_12_95 (v := v_382) (kp_j hI_492 (by decide) (kp_j hI_394 (by decide) q_383)) dX12_go_248 ?_
                    refine h_iald C K hb_2L hb_2k (v := x_405) (v_382.toNatClampNeg) (rfl) (ix_0 r_403 (by decide)) (ix_lt r_403 (by decide) hb_2n (by decide)) (kp_k (κ := κ) hI_492 (by rw [hb_2k, hkx]; decide) hx_405) dX12_go_251 ?_
                    refine g_istore C dX12_go_252 (by decide) (lo2 := [(4, .int x_405), (3, .int 1), (2, .int x_407), (1, .int x_405), (0, .ref x)]) rfl ?_
                    refine g_iload_n C 1 dX12_go_254 rfl rfl ?_
                    refine g_if_eq C (tgt := 271) dX12_go_255 (by decide) (fun h_529 => ?_) (fun h_529 => ?_)
                    · skip
                      exact absurd (h_529) (by decide)
                    · skip
                      refine g_iload C 0 dX12_go_258 rfl ?_
                      refine g_callSI C K (c_X12_isLetter W9 x_405  hU_493) s_12_107 rfl ⟨rfl, rfl⟩ ⟨Nat.le_of_ble_eq_true rfl, Nat.le_of_ble_eq_true rfl⟩ (Nat.le_of_ble_eq_true rfl) ⟨Nat.le_of_ble_eq_true rfl, Nat.le_of_ble_eq_true rfl⟩ dX12_go_260 rfl (st := []) (fun x_530 I_531 J_532 h_533 => ?_)
                      obtain ⟨rfl, rfl, rx_530, fx_530, ex_530⟩ := h_533
                      have c_534 : isLc (x_405) = x_530 := fx_530.symm
                      have ec_534 : x_407 = x_530 := c_411.symm.trans c_534
                      subst ec_534
                      refine g_iload_n C 2 dX12_go_263 rfl rfl ?_
                      refine g_icmp_ne C (tgt := 271) dX12_go_264 (by decide) (fun h_535 => ?_) (fun h_535 => ?_)
                      · skip
                        exact ne_no (h_535) r_474 r_474
                      · skip
                        refine g_iconst C (v := 1) dX12_go_267 (by decide) ?_
                        refine g_goto C (tgt := 272) dX12_go_268 (by decide) ?_
                        refine g_istore_n C dX12_go_272 rfl (by decide) (lo2 := [(3, .int 1), (4, .int x_405), (2, .int x_407), (1, .int x_405), (0, .ref x)]) rfl ?_
                        refine g_aload_n C 4 dX12_go_273 rfl rfl ?_
                        refine g_getI C K hLx hkx f_12_95 (v := v_382) (kp_j hI_492 (by decide) (kp_j hI_394 (by decide) q_383)) dX12_go_274 ?_
                        refine g_aload_n C 4 dX12_go_277 rfl rfl ?_
                        refine g_getI C K hLx hkx f_12_98 (v := v_382) (kp_j hI_492 (by decide) (kp_s hI_394)) dX12_go_278 ?_
                        refine g_isub C (v := 0) dX12_go_281 (Int32.sub_self _) ?_
                        refine g_bipush C (v := 7) dX12_go_282 (by decide) ?_
                        refine g_icmp_ge C (tgt := 307) dX12_go_284 (by decide) (fun h_536 => ?_) (fun h_536 => ?_)
                        · skip
                          exact absurd (h_536) (by decide)
                        · skip
                          refine g_aload_n C 4 dX12_go_287 rfl rfl ?_
                          refine g_ldc2 C kl_128 dX12_go_288 ?_
                          refine g_aload_n C 4 dX12_go_291 rfl rfl ?_
                          obtain ⟨y_537, hy_537⟩ : ∃ z, J_489 x 12 = z := ⟨_, rfl⟩
                          refine g_getJ C K hLx hkx f_12_117 (v := y_537) hy_537 dX12_go_292 ?_
                          refine g_lmulE C dX12_go_295 (fun y_538 hy_538 => ?_)
                          refine g_iload C 1 dX12_go_296 rfl ?_
                          obtain ⟨y_539, hy_539⟩ : ∃ z, Int32.toInt64 x_405 = z := ⟨_, rfl⟩
                          refine g_i2l C (v := y_539) dX12_go_298 hy_539 ?_
                          refine g_laddE C dX12_go_299 (fun y_540 hy_540 => ?_)
                          refine g_ldc2 C kl_130 dX12_go_300 ?_
                          refine g_lsubE C dX12_go_303 (fun y_541 hy_541 => ?_)
                          refine h_putJ C K hLx hkx f_12_117 p_12_12 dX12_go_304 (fun J_542 hJ_542 => ?_)
                          have hG_543 := fq_puto hG_490 hJ_542 hkx (by decide) (by decide)
                          have hs_544 : MTq I_492 J_542 x b_2 = (MT_.w_word (MT_.w_number (MT_.w_frm s_387 (v_382)) (0)) (y_541)) := by rw [hJ_542]; exact ((mq_word wmqx).trans (congrArg (fun z : MT_ => MT_.w_word z (y_541)) hs_495)).trans rfl
                          refine g_aload_n C 4 dX12_go_307 rfl rfl ?_
                          refine g_getI C K hLx hkx f_12_95 (v := v_382) (kp_j hI_492 (by decide) (kp_j hI_394 (by decide) q_383)) dX12_go_308 ?_
                          refine g_aload_n C 4 dX12_go_311 rfl rfl ?_
                          refine g_getI C K hLx hkx f_12_98 (v := v_382) (kp_j hI_492 (by decide) (kp_s hI_394)) dX12_go_312 ?_
                          refine g_isub C (v := 0) dX12_go_315 (Int32.sub_self _) ?_
                          refine g_iconst C (v := 3) dX12_go_316 (by decide) ?_
                          refine g_icmp_ge C (tgt := 337) dX12_go_317 (by decide) (fun h_545 => ?_) (fun h_545 => ?_)
                          · skip
                            exact absurd (h_545) (by decide)
                          · skip
                            refine g_aload_n C 4 dX12_go_320 rfl rfl ?_
                            refine g_bipush C (v := 10) dX12_go_321 (by decide) ?_
                            refine g_aload_n C 4 dX12_go_323 rfl rfl ?_
                            refine g_getI C K hLx hkx f_12_121 (v := 0) (kp_s hI_492) dX12_go_324 ?_
                            refine g_imul C (v := 0) dX12_go_327 (by decide) ?_
                            refine g_iload C 1 dX12_go_328 rfl ?_
                            obtain ⟨x_546, hx_546, rx_546, tx_546⟩ := ex_add 48 57 rc_0 r_483 (by decide) (by decide) (by decide) (by decide)
                            refine g_iadd C (v := x_546) dX12_go_330 hx_546 ?_
                            refine g_bipush C (v := 48) dX12_go_331 (by decide) ?_
                            obtain ⟨x_547, hx_547, rx_547, tx_547⟩ := ex_sub 0 9 rx_546 rc_48 (by decide) (by decide) (by decide) (by decide)
                            refine g_isub C (v := x_547) dX12_go_333 hx_547 ?_
                            refine h_putI C K hLx hkx f_12_121 p_12_8 dX12_go_334 (fun I_548 hI_548 => ?_)
                            have hU_549 := iw_put W9 hU_493 hI_548 (ro_o hkx (by decide)) (lo := (-2147483648)) (hi := 2147483647) (rfl) (rg_all _) rfl
                            have hF_550 := fq_puto hF_494 hI_548 hkx (by decide) (by decide)
                            have hs_551 : MTq I_548 J_542 x b_2 = (MT_.w_number (MT_.w_word (MT_.w_frm s_387 (v_382)) (y_541)) (x_547)) := by rw [hI_548]; exact ((mq_number wmqx).trans (congrArg (fun z : MT_ => MT_.w_number z (x_547)) hs_544)).trans rfl
                            refine g_aload_n C 4 dX12_go_337 rfl rfl ?_
                            refine g_dup C dX12_go_338 rfl ?_
                            refine g_getI C K hLx hkx f_12_95 (v := v_382) (kp_j hI_548 (by decide) (kp_j hI_492 (by decide) (kp_j hI_394 (by decide) q_383))) dX12_go_339 ?_
                            refine g_iconst C (v := 1) dX12_go_342 (by decide) ?_
                            obtain ⟨x_552, hx_552, rx_552, tx_552⟩ := ex_add 1 900 r_403 rc_1 (by decide) (by decide) (by decide) (by decide)
                            refine g_iadd C (v := x_552) dX12_go_343 hx_552 ?_
                            refine h_putI C K hLx hkx f_12_95 p_12_5 dX12_go_344 (fun I_553 hI_553 => ?_)
                            have hU_554 := iw_put W9 hU_549 hI_553 (ro_o hkx (by decide)) (lo := 0) (hi := 940) (rfl) (rg_w rx_552 (by decide) (by decide)) rfl
                            have hF_555 := fq_puto hF_550 hI_553 hkx (by decide) (by decide)
                            have hs_556 : MTq I_553 J_542 x b_2 = (MT_.w_to (MT_.w_number (MT_.w_word (MT_.w_frm s_387 (v_382)) (y_541)) (x_547)) (x_552)) := by rw [hI_553]; exact ((mq_to wmqx).trans (congrArg (fun z : MT_ => MT_.w_to z (x_552)) hs_551)).trans rfl
                            refine g_goto C (tgt := 215) dX12_go_347 (by decide) ?_
                            refine g_lo (is := [4, 3, 2, 0, 1]) (lo2 := [(0, .ref x), (1, .int x_405), (2, .int x_407), (3, .int 1), (4, .int x_405)]) rfl ?_
                            exact l_215 940 I_553 J_542 hU_554 hF_555 hG_543 x_405 (rg_w r_483 (by decide) (by decide)) (rg_nek r_483 rc_10 (by decide)) (rg_nek r_483 rc_32 (by decide)) x_407 (rg_w r_474 (by decide) (by decide)) 1 (rg_w rc_1 (by decide) (by decide)) x_405 (rg_w r_483 (by decide) (by decide)) x_391 (rg_w r_404 (by decide) (by decide)) x_398 (rx_398) x_552 (rg_w rx_552 (by decide) (by decide)) v_382 (r_403) x_547 (kp_j hI_553 (by decide) (kp_j hI_548 (by decide) (kp_j hI_492 (by decide) (kp_j hI_394 (by decide) hx_391)))) (kp_j hI_553 (by decide) (kp_j hI_548 (by decide) (kp_j hI_492 (by decide) hx_398))) (kp_s hI_553) (kp_j hI_553 (by decide) (kp_j hI_548 (by decide) (kp_j hI_492 (by decide) (kp_s hI_394)))) (kp_j hI_553 (by decide) (kp_s hI_548)) (by (try simp only [f_390, hx_391, f_392, h_393, hx_398, f_399, h_400, h_402, hx_405, f_406, c_411, (eq_true h_412), c_479, h_480, c_507, (eq_true h_508), c_522, h_526, h_529, (eq_true h_535), h_536, (nle h_536), hy_537, hy_538, hy_539, hy_540, hy_541, h_545, (nle h_545), hx_546, hx_547, hx_552, if_true, if_false, mqM_tp, mqM_size, mqM_limit, mqM_to, mqM_frm, mqM_kind, mqM_number, mqM_sign, mqM_word, MT_.w_tp, MT_.w_size, MT_.w_limit, MT_.w_to, MT_.w_frm, MT_.w_kind, MT_.w_number, MT_.w_sign, MT_.w_word] at hQ_388); (try simp only [f_390, hx_391, f_392, h_393, hx_398, f_399, h_400, h_402, hx_405, f_406, c_411, (eq_true h_412), c_479, h_480, c_507, (eq_true h_508), c_522, h_526, h_529, (eq_true h_535), h_536, (nle h_536), hy_537, hy_538, hy_539, hy_540, hy_541, h_545, (nle h_545), hx_546, hx_547, hx_552, if_true, if_false, mqM_tp, mqM_size, mqM_limit, mqM_to, mqM_frm, mqM_kind, mqM_number, mqM_sign, mqM_word, MT_.w_tp, MT_.w_size, MT_.w_limit, MT_.w_to, MT_.w_frm, MT_.w_kind, MT_.w_number, MT_.w_sign, MT_.w_word] at u_389); (try simp only [f_390, hx_391, f_392, h_393, hx_398, f_399, h_400, h_402, hx_405, f_406, c_411, (eq_true h_412), c_479, h_480, c_507, (eq_true h_508), c_522, h_526, h_529, (eq_true h_535), h_536, (nle h_536), hy_537, hy_538, hy_539, hy_540, hy_541, h_545, (nle h_545), hx_546, hx_547, hx_552, if_true, if_false, mqM_tp, mqM_size, mqM_limit, mqM_to, mqM_frm, mqM_kind, mqM_number, mqM_sign, mqM_word, MT_.w_tp, MT_.w_size, MT_.w_limit, MT_.w_to, MT_.w_frm, MT_.w_kind, MT_.w_number, MT_.w_sign, MT_.w_word] at u_496); (try simp only [f_390, hx_391, f_392, h_393, hx_398, f_399, h_400, h_402, hx_405, f_406, c_411, (eq_true h_412), c_479, h_480, c_507, (eq_true h_508), c_522, h_526, h_529, (eq_true h_535), h_536, (nle h_536), hy_537, hy_538, hy_539, hy_540, hy_541, h_545, (nle h_545), hx_546, hx_547, hx_552, if_true, if_false, mqM_tp, mqM_size, mqM_limit, mqM_to, mqM_frm, mqM_kind, mqM_number, mqM_sign, mqM_word, MT_.w_tp, MT_.w_size, MT_.w_limit, MT_.w_to, MT_.w_frm, MT_.w_kind, MT_.w_number, MT_.w_sign, MT_.w_word] at c_501); simp only [mGo, mGo2, mGo3, mGoE, mSg, mStep, mGood, emqx, hs_556, hs_3, hQ_388, f_390, u_389, hx_391, f_392, h_393, hx_398, f_399, h_400, h_402, hx_405, f_406, c_411, (eq_true h_412), c_479, h_480, u_496, c_501, c_507, (eq_true h_508), c_522, h_526, h_529, (eq_true h_535), h_536, (nle h_536), hy_537, hy_538, hy_539, hy_540, hy_541, h_545, (nle h_545), hx_546, hx_547, hx_552, if_true, if_false, mqM_tp, mqM_size, mqM_limit, mqM_to, mqM_frm, mqM_kind, mqM_number, mqM_sign, mqM_word, MT_.w_tp, MT_.w_size, MT_.w_limit, MT_.w_to, MT_.w_frm, MT_.w_kind, MT_.w_number, MT_.w_sign, MT_.w_word]) (by have := hj_385; have := (ti_k tx_552 rc_1); omega) (ms_s (a := 1) (b := 940) (N := 940) (rg_w rx_552 (by decide) (by decide)) (by decide))
              · skip
                have r_557 := (⟨(rx_475).1, (eq_rg (h_480) rc_0).2⟩ : Rg 0 0 x_475)
                refine g_aload_n C 1 dX12_go_137 rfl rfl ?_
                refine g_iload_n C 0 dX12_go_138 rfl rfl ?_
                refine g_bipush C (v := 59) dX12_go_139 (by decide) ?_
                refine g_icmp_eq C (tgt := 174) dX12_go_141 (by decide) (fun h_558 => ?_) (fun h_558 => ?_)
                · skip
                  have r_559 := (⟨(eq_rg (h_558) rc_59).1, (eq_rg (h_558) rc_59).2⟩ : Rg 59 59 x_405)
                  refine g_iconst C (v := 4) dX12_go_174 (by decide) ?_
                  refine g_goto C (tgt := 179) dX12_go_175 (by decide) ?_
                  refine h_putI C K hLx hkx f_12_104 p_12_7 dX12_go_179 (fun I_560 hI_560 => ?_)
                  have hU_561 := iw_put W9 hU_395 hI_560 (ro_o hkx (by decide)) (lo := 0) (hi := 4) (rfl) (rg_w rc_4 (by decide) (by decide)) rfl
                  have hF_562 := fq_puto hF_396 hI_560 hkx (by decide) (by decide)
                  have hs_563 : MTq I_560 J_378 x b_2 = (MT_.w_kind (MT_.w_frm s_387 (v_382)) (4)) := by rw [hI_560]; exact ((mq_kind wmqx).trans (congrArg (fun z : MT_ => MT_.w_kind z (4)) hs_397)).trans rfl
                  refine g_aload_n C 1 dX12_go_182 rfl rfl ?_
                  refine g_iload_n C 0 dX12_go_183 rfl rfl ?_
                  refine h_putI C K hLx hkx f_12_114 p_12_9 dX12_go_184 (fun I_564 hI_564 => ?_)
                  have hU_565 := iw_put W9 hU_561 hI_564 (ro_o hkx (by decide)) (lo := (-2147483648)) (hi := 2147483647) (rfl) (rg_all _) rfl
                  have hF_566 := fq_puto hF_562 hI_564 hkx (by decide) (by decide)
                  have hs_567 : MTq I_564 J_378 x b_2 = (MT_.w_sign (MT_.w_kind (MT_.w_frm s_387 (v_382)) (4)) (x_405)) := by rw [hI_564]; exact ((mq_sign wmqx).trans (congrArg (fun z : MT_ => MT_.w_sign z (x_405)) hs_563)).trans rfl
                  refine g_aload_n C 1 dX12_go_187 rfl rfl ?_
                  refine g_dup C dX12_go_188 rfl ?_
                  refine g_getI C K hLx hkx f_12_95 (v := v_382) (kp_j hI_564 (by decide) (kp_j hI_560 (by decide) (kp_j hI_394 (by decide) q_383))) dX12_go_189 ?_
                  refine g_iconst C (v := 1) dX12_go_192 (by decide) ?_
                  obtain ⟨x_568, hx_568, rx_568, tx_568⟩ := ex_add 1 900 r_403 rc_1 (by decide) (by decide) (by decide) (by decide)
                  refine g_iadd C (v := x_568) dX12_go_193 hx_568 ?_
                  refine h_putI C K hLx hkx f_12_95 p_12_5 dX12_go_194 (fun I_569 hI_569 => ?_)
                  have hU_570 := iw_put W9 hU_565 hI_569 (ro_o hkx (by decide)) (lo := 0) (hi := 940) (rfl) (rg_w rx_568 (by decide) (by decide)) rfl
                  have hF_571 := fq_puto hF_566 hI_569 hkx (by decide) (by decide)
                  have hs_572 : MTq I_569 J_378 x b_2 = (MT_.w_to (MT_.w_sign (MT_.w_kind (MT_.w_frm s_387 (v_382)) (4)) (x_405)) (x_568)) := by rw [hI_569]; exact ((mq_to wmqx).trans (congrArg (fun z : MT_ => MT_.w_to z (x_568)) hs_567)).trans rfl
                  exact g_vret B K rfl ⟨hU_570, hF_571, hG_381, (by (try simp only [f_390, hx_391, f_392, h_393, hx_398, f_399, h_400, h_402, hx_405, f_406, c_411, (eq_true h_412), c_479, (eq_true h_480), (eq_true h_558), hx_568, if_true, if_false, mqM_tp, mqM_size, mqM_limit, mqM_to, mqM_frm, mqM_kind, mqM_number, mqM_sign, mqM_word, MT_.w_tp, MT_.w_size, MT_.w_limit, MT_.w_to, MT_.w_frm, MT_.w_kind, MT_.w_number, MT_.w_sign, MT_.w_word] at hQ_388); (try simp only [f_390, hx_391, f_392, h_393, hx_398, f_399, h_400, h_402, hx_405, f_406, c_411, (eq_true h_412), c_479, (eq_true h_480), (eq_true h_558), hx_568, if_true, if_false, mqM_tp, mqM_size, mqM_limit, mqM_to, mqM_frm, mqM_kind, mqM_number, mqM_sign, mqM_word, MT_.w_tp, MT_.w_size, MT_.w_limit, MT_.w_to, MT_.w_frm, MT_.w_kind, MT_.w_number, MT_.w_sign, MT_.w_word] at u_389); simp only [mGo, mGo2, mGo3, mGoE, mSg, mStep, mGood, emqx, hs_572, hs_3, hQ_388, f_390, u_389, hx_391, f_392, h_393, hx_398, f_399, h_400, h_402, hx_405, f_406, c_411, (eq_true h_412), c_479, (eq_true h_480), (eq_true h_558), hx_568, if_true, if_false, mqM_tp, mqM_size, mqM_limit, mqM_to, mqM_frm, mqM_kind, mqM_number, mqM_sign, mqM_word, MT_.w_tp, MT_.w_size, MT_.w_limit, MT_.w_to, MT_.w_frm, MT_.w_kind, MT_.w_number, MT_.w_sign, MT_.w_word]), (ps_mk hx_1 (kp_s hI_569) (kp_j hI_569 (by decide) (kp_j hI_564 (by decide) (kp_s hI_560))) (Int.le_of_lt (by have := hj_385; have := (ti_k tx_568 rc_1); omega)) (Or.inl (by have := hj_385; have := (ti_k tx_568 rc_1); omega)))⟩ dX12_go_197
                · skip
                  have n_573 : ¬ x_405 = 59 := h_558
                  refine g_iload_n C 0 dX12_go_144 rfl rfl ?_
                  refine g_bipush C (v := 60) dX12_go_145 (by decide) ?_
                  refine g_icmp_eq C (tgt := 174) dX12_go_147 (by decide) (fun h_574 => ?_) (fun h_574 => ?_)
                  · skip
                    have r_575 := (⟨(eq_rg (h_574) rc_60).1, (eq_rg (h_574) rc_60).2⟩ : Rg 60 60 x_405)
                    refine g_iconst C (v := 4) dX12_go_174 (by decide) ?_
                    refine g_goto C (tgt := 179) dX12_go_175 (by decide) ?_
                    refine h_putI C K hLx hkx f_12_104 p_12_7 dX12_go_179 (fun I_576 hI_576 => ?_)
                    have hU_577 := iw_put W9 hU_395 hI_576 (ro_o hkx (by decide)) (lo := 0) (hi := 4) (rfl) (rg_w rc_4 (by decide) (by decide)) rfl
                    have hF_578 := fq_puto hF_396 hI_576 hkx (by decide) (by decide)
                    have hs_579 : MTq I_576 J_378 x b_2 = (MT_.w_kind (MT_.w_frm s_387 (v_382)) (4)) := by rw [hI_576]; exact ((mq_kind wmqx).trans (congrArg (fun z : MT_ => MT_.w_kind z (4)) hs_397)).trans rfl
                    refine g_aload_n C 1 dX12_go_182 rfl rfl ?_
                    refine g_iload_n C 0 dX12_go_183 rfl rfl ?_
                    refine h_putI C K hLx hkx f_12_114 p_12_9 dX12_go_184 (fun I_580 hI_580 => ?_)
                    have hU_581 := iw_put W9 hU_577 hI_580 (ro_o hkx (by decide)) (lo := (-2147483648)) (hi := 2147483647) (rfl) (rg_all _) rfl
                    have hF_582 := fq_puto hF_578 hI_580 hkx (by decide) (by decide)
                    have hs_583 : MTq I_580 J_378 x b_2 = (MT_.w_sign (MT_.w_kind (MT_.w_frm s_387 (v_382)) (4)) (x_405)) := by rw [hI_580]; exact ((mq_sign wmqx).trans (congrArg (fun z : MT_ => MT_.w_sign z (x_405)) hs_579)).trans rfl
                    refine g_aload_n C 1 dX12_go_187 rfl rfl ?_
                    refine g_dup C dX12_go_188 rfl ?_
                    refine g_getI C K hLx hkx f_12_95 (v := v_382) (kp_j hI_580 (by decide) (kp_j hI_576 (by decide) (kp_j hI_394 (by decide) q_383))) dX12_go_189 ?_
                    refine g_iconst C (v := 1) dX12_go_192 (by decide) ?_
                    obtain ⟨x_584, hx_584, rx_584, tx_584⟩ := ex_add 1 900 r_403 rc_1 (by decide) (by decide) (by decide) (by decide)
                    refine g_iadd C (v := x_584) dX12_go_193 hx_584 ?_
                    refine h_putI C K hLx hkx f_12_95 p_12_5 dX12_go_194 (fun I_585 hI_585 => ?_)
                    have hU_586 := iw_put W9 hU_581 hI_585 (ro_o hkx (by decide)) (lo := 0) (hi := 940) (rfl) (rg_w rx_584 (by decide) (by decide)) rfl
                    have hF_587 := fq_puto hF_582 hI_585 hkx (by decide) (by decide)
                    have hs_588 : MTq I_585 J_378 x b_2 = (MT_.w_to (MT_.w_sign (MT_.w_kind (MT_.w_frm s_387 (v_382)) (4)) (x_405)) (x_584)) := by rw [hI_585]; exact ((mq_to wmqx).trans (congrArg (fun z : MT_ => MT_.w_to z (x_584)) hs_583)).trans rfl
                    exact g_vret B K rfl ⟨hU_586, hF_587, hG_381, (by (try simp only [f_390, hx_391, f_392, h_393, hx_398, f_399, h_400, h_402, hx_405, f_406, c_411, (eq_true h_412), c_479, (eq_true h_480), h_558, (eq_true h_574), hx_584, if_true, if_false, mqM_tp, mqM_size, mqM_limit, mqM_to, mqM_frm, mqM_kind, mqM_number, mqM_sign, mqM_word, MT_.w_tp, MT_.w_size, MT_.w_limit, MT_.w_to, MT_.w_frm, MT_.w_kind, MT_.w_number, MT_.w_sign, MT_.w_word] at hQ_388); (try simp only [f_390, hx_391, f_392, h_393, hx_398, f_399, h_400, h_402, hx_405, f_406, c_411, (eq_true h_412), c_479, (eq_true h_480), h_558, (eq_true h_574), hx_584, if_true, if_false, mqM_tp, mqM_size, mqM_limit, mqM_to, mqM_frm, mqM_kind, mqM_number, mqM_sign, mqM_word, MT_.w_tp, MT_.w_size, MT_.w_limit, MT_.w_to, MT_.w_frm, MT_.w_kind, MT_.w_number, MT_.w_sign, MT_.w_word] at u_389); simp only [mGo, mGo2, mGo3, mGoE, mSg, mStep, mGood, emqx, hs_588, hs_3, hQ_388, f_390, u_389, hx_391, f_392, h_393, hx_398, f_399, h_400, h_402, hx_405, f_406, c_411, (eq_true h_412), c_479, (eq_true h_480), h_558, (eq_true h_574), hx_584, if_true, if_false, mqM_tp, mqM_size, mqM_limit, mqM_to, mqM_frm, mqM_kind, mqM_number, mqM_sign, mqM_word, MT_.w_tp, MT_.w_size, MT_.w_limit, MT_.w_to, MT_.w_frm, MT_.w_kind, MT_.w_number, MT_.w_sign, MT_.w_word]), (ps_mk hx_1 (kp_s hI_585) (kp_j hI_585 (by decide) (kp_j hI_580 (by decide) (kp_s hI_576))) (Int.le_of_lt (by have := hj_385; have := (ti_k tx_584 rc_1); omega)) (Or.inl (by have := hj_385; have := (ti_k tx_584 rc_1); omega)))⟩ dX12_go_197
                  · skip
                    have n_589 : ¬ x_405 = 60 := h_574
                    refine g_iload_n C 0 dX12_go_150 rfl rfl ?_
                    refine g_bipush C (v := 61) dX12_go_151 (by decide) ?_
                    refine g_icmp_eq C (tgt := 174) dX12_go_153 (by decide) (fun h_590 => ?_) (fun h_590 => ?_)
                    · skip
                      have r_591 := (⟨(eq_rg (h_590) rc_61).1, (eq_rg (h_590) rc_61).2⟩ : Rg 61 61 x_405)
                      refine g_iconst C (v := 4) dX12_go_174 (by decide) ?_
                      refine g_goto C (tgt := 179) dX12_go_175 (by decide) ?_
                      refine h_putI C K hLx hkx f_12_104 p_12_7 dX12_go_179 (fun I_592 hI_592 => ?_)
                      have hU_593 := iw_put W9 hU_395 hI_592 (ro_o hkx (by decide)) (lo := 0) (hi := 4) (rfl) (rg_w rc_4 (by decide) (by decide)) rfl
                      have hF_594 := fq_puto hF_396 hI_592 hkx (by decide) (by decide)
                      have hs_595 : MTq I_592 J_378 x b_2 = (MT_.w_kind (MT_.w_frm s_387 (v_382)) (4)) := by rw [hI_592]; exact ((mq_kind wmqx).trans (congrArg (fun z : MT_ => MT_.w_kind z (4)) hs_397)).trans rfl
                      refine g_aload_n C 1 dX12_go_182 rfl rfl ?_
                      refine g_iload_n C 0 dX12_go_183 rfl rfl ?_
                      refine h_putI C K hLx hkx f_12_114 p_12_9 dX12_go_184 (fun I_596 hI_596 => ?_)
                      have hU_597 := iw_put W9 hU_593 hI_596 (ro_o hkx (by decide)) (lo := (-2147483648)) (hi := 2147483647) (rfl) (rg_all _) rfl
                      have hF_598 := fq_puto hF_594 hI_596 hkx (by decide) (by decide)
                      have hs_599 : MTq I_596 J_378 x b_2 = (MT_.w_sign (MT_.w_kind (MT_.w_frm s_387 (v_382)) (4)) (x_405)) := by rw [hI_596]; exact ((mq_sign wmqx).trans (congrArg (fun z : MT_ => MT_.w_sign z (x_405)) hs_595)).trans rfl
                      refine g_aload_n C 1 dX12_go_187 rfl rfl ?_
                      refine g_dup C dX12_go_188 rfl ?_
                      refine g_getI C K hLx hkx f_12_95 (v := v_382) (kp_j hI_596 (by decide) (kp_j hI_592 (by decide) (kp_j hI_394 (by decide) q_383))) dX12_go_189 ?_
                      refine g_iconst C (v := 1) dX12_go_192 (by decide) ?_
                      obtain ⟨x_600, hx_600, rx_600, tx_600⟩ := ex_add 1 900 r_403 rc_1 (by decide) (by decide) (by decide) (by decide)
                      refine g_iadd C (v := x_600) dX12_go_193 hx_600 ?_
                      refine h_putI C K hLx hkx f_12_95 p_12_5 dX12_go_194 (fun I_601 hI_601 => ?_)
                      have hU_602 := iw_put W9 hU_597 hI_601 (ro_o hkx (by decide)) (lo := 0) (hi := 940) (rfl) (rg_w rx_600 (by decide) (by decide)) rfl
                      have hF_603 := fq_puto hF_598 hI_601 hkx (by decide) (by decide)
                      have hs_604 : MTq I_601 J_378 x b_2 = (MT_.w_to (MT_.w_sign (MT_.w_kind (MT_.w_frm s_387 (v_382)) (4)) (x_405)) (x_600)) := by rw [hI_601]; exact ((mq_to wmqx).trans (congrArg (fun z : MT_ => MT_.w_to z (x_600)) hs_599)).trans rfl
                      exact g_vret B K rfl ⟨hU_602, hF_603, hG_381, (by (try simp only [f_390, hx_391, f_392, h_393, hx_398, f_399, h_400, h_402, hx_405, f_406, c_411, (eq_true h_412), c_479, (eq_true h_480), h_558, h_574, (eq_true h_590), hx_600, if_true, if_false, mqM_tp, mqM_size, mqM_limit, mqM_to, mqM_frm, mqM_kind, mqM_number, mqM_sign, mqM_word, MT_.w_tp, MT_.w_size, MT_.w_limit, MT_.w_to, MT_.w_frm, MT_.w_kind, MT_.w_number, MT_.w_sign, MT_.w_word] at hQ_388); (try simp only [f_390, hx_391, f_392, h_393, hx_398, f_399, h_400, h_402, hx_405, f_406, c_411, (eq_true h_412), c_479, (eq_true h_480), h_558, h_574, (eq_true h_590), hx_600, if_true, if_false, mqM_tp, mqM_size, mqM_limit, mqM_to, mqM_frm, mqM_kind, mqM_number, mqM_sign, mqM_word, MT_.w_tp, MT_.w_size, MT_.w_limit, MT_.w_to, MT_.w_frm, MT_.w_kind, MT_.w_number, MT_.w_sign, MT_.w_word] at u_389); simp only [mGo, mGo2, mGo3, mGoE, mSg, mStep, mGood, emqx, hs_604, hs_3, hQ_388, f_390, u_389, hx_391, f_392, h_393, hx_398, f_399, h_400, h_402, hx_405, f_406, c_411, (eq_true h_412), c_479, (eq_true h_480), h_558, h_574, (eq_true h_590), hx_600, if_true, if_false, mqM_tp, mqM_size, mqM_limit, mqM_to, mqM_frm, mqM_kind, mqM_number, mqM_sign, mqM_word, MT_.w_tp, MT_.w_size, MT_.w_limit, MT_.w_to, MT_.w_frm, MT_.w_kind, MT_.w_number, MT_.w_sign, MT_.w_word]), (ps_mk hx_1 (kp_s hI_601) (kp_j hI_601 (by decide) (kp_j hI_596 (by decide) (kp_s hI_592))) (Int.le_of_lt (by have := hj_385; have := (ti_k tx_600 rc_1); omega)) (Or.inl (by have := hj_385; have := (ti_k tx_600 rc_1); omega)))⟩ dX12_go_197
                    · skip
                      have n_605 : ¬ x_405 = 61 := h_590
                      refine g_iload_n C 0 dX12_go_156 rfl rfl ?_
                      refine g_bipush C (v := 62) dX12_go_157 (by decide) ?_
                      refine g_icmp_eq C (tgt := 174) dX12_go_159 (by decide) (fun h_606 => ?_) (fun h_606 => ?_)
                      · skip
                        have r_607 := (⟨(eq_rg (h_606) rc_62).1, (eq_rg (h_606) rc_62).2⟩ : Rg 62 62 x_405)
                        refine g_iconst C (v := 4) dX12_go_174 (by decide) ?_
                        refine g_goto C (tgt := 179) dX12_go_175 (by decide) ?_
                        refine h_putI C K hLx hkx f_12_104 p_12_7 dX12_go_179 (fun I_608 hI_608 => ?_)
                        have hU_609 := iw_put W9 hU_395 hI_608 (ro_o hkx (by decide)) (lo := 0) (hi := 4) (rfl) (rg_w rc_4 (by decide) (by decide)) rfl
                        have hF_610 := fq_puto hF_396 hI_608 hkx (by decide) (by decide)
                        have hs_611 : MTq I_608 J_378 x b_2 = (MT_.w_kind (MT_.w_frm s_387 (v_382)) (4)) := by rw [hI_608]; exact ((mq_kind wmqx).trans (congrArg (fun z : MT_ => MT_.w_kind z (4)) hs_397)).trans rfl
                        refine g_aload_n C 1 dX12_go_182 rfl rfl ?_
                        refine g_iload_n C 0 dX12_go_183 rfl rfl ?_
                        refine h_putI C K hLx hkx f_12_114 p_12_9 dX12_go_184 (fun I_612 hI_612 => ?_)
                        have hU_613 := iw_put W9 hU_609 hI_612 (ro_o hkx (by decide)) (lo := (-2147483648)) (hi := 2147483647) (rfl) (rg_all _) rfl
                        have hF_614 := fq_puto hF_610 hI_612 hkx (by decide) (by decide)
                        have hs_615 : MTq I_612 J_378 x b_2 = (MT_.w_sign (MT_.w_kind (MT_.w_frm s_387 (v_382)) (4)) (x_405)) := by rw [hI_612]; exact ((mq_sign wmqx).trans (congrArg (fun z : MT_ => MT_.w_sign z (x_405)) hs_611)).trans rfl
                        refine g_aload_n C 1 dX12_go_187 rfl rfl ?_
                        refine g_dup C dX12_go_188 rfl ?_
                        refine g_getI C K hLx hkx f_12_95 (v := v_382) (kp_j hI_612 (by decide) (kp_j hI_608 (by decide) (kp_j hI_394 (by decide) q_383))) dX12_go_189 ?_
                        refine g_iconst C (v := 1) dX12_go_192 (by decide) ?_
                        obtain ⟨x_616, hx_616, rx_616, tx_616⟩ := ex_add 1 900 r_403 rc_1 (by decide) (by decide) (by decide) (by decide)
                        refine g_iadd C (v := x_616) dX12_go_193 hx_616 ?_
                        refine h_putI C K hLx hkx f_12_95 p_12_5 dX12_go_194 (fun I_617 hI_617 => ?_)
                        have hU_618 := iw_put W9 hU_613 hI_617 (ro_o hkx (by decide)) (lo := 0) (hi := 940) (rfl) (rg_w rx_616 (by decide) (by decide)) rfl
                        have hF_619 := fq_puto hF_614 hI_617 hkx (by decide) (by decide)
                        have hs_620 : MTq I_617 J_378 x b_2 = (MT_.w_to (MT_.w_sign (MT_.w_kind (MT_.w_frm s_387 (v_382)) (4)) (x_405)) (x_616)) := by rw [hI_617]; exact ((mq_to wmqx).trans (congrArg (fun z : MT_ => MT_.w_to z (x_616)) hs_615)).trans rfl
                        exact g_vret B K rfl ⟨hU_618, hF_619, hG_381, (by (try simp only [f_390, hx_391, f_392, h_393, hx_398, f_399, h_400, h_402, hx_405, f_406, c_411, (eq_true h_412), c_479, (eq_true h_480), h_558, h_574, h_590, (eq_true h_606), hx_616, if_true, if_false, mqM_tp, mqM_size, mqM_limit, mqM_to, mqM_frm, mqM_kind, mqM_number, mqM_sign, mqM_word, MT_.w_tp, MT_.w_size, MT_.w_limit, MT_.w_to, MT_.w_frm, MT_.w_kind, MT_.w_number, MT_.w_sign, MT_.w_word] at hQ_388); (try simp only [f_390, hx_391, f_392, h_393, hx_398, f_399, h_400, h_402, hx_405, f_406, c_411, (eq_true h_412), c_479, (eq_true h_480), h_558, h_574, h_590, (eq_true h_606), hx_616, if_true, if_false, mqM_tp, mqM_size, mqM_limit, mqM_to, mqM_frm, mqM_kind, mqM_number, mqM_sign, mqM_word, MT_.w_tp, MT_.w_size, MT_.w_limit, MT_.w_to, MT_.w_frm, MT_.w_kind, MT_.w_number, MT_.w_sign, MT_.w_word] at u_389); simp only [mGo, mGo2, mGo3, mGoE, mSg, mStep, mGood, emqx, hs_620, hs_3, hQ_388, f_390, u_389, hx_391, f_392, h_393, hx_398, f_399, h_400, h_402, hx_405, f_406, c_411, (eq_true h_412), c_479, (eq_true h_480), h_558, h_574, h_590, (eq_true h_606), hx_616, if_true, if_false, mqM_tp, mqM_size, mqM_limit, mqM_to, mqM_frm, mqM_kind, mqM_number, mqM_sign, mqM_word, MT_.w_tp, MT_.w_size, MT_.w_limit, MT_.w_to, MT_.w_frm, MT_.w_kind, MT_.w_number, MT_.w_sign, MT_.w_word]), (ps_mk hx_1 (kp_s hI_617) (kp_j hI_617 (by decide) (kp_j hI_612 (by decide) (kp_s hI_608))) (Int.le_of_lt (by have := hj_385; have := (ti_k tx_616 rc_1); omega)) (Or.inl (by have := hj_385; have := (ti_k tx_616 rc_1); omega)))⟩ dX12_go_197
                      · skip
                        have n_621 : ¬ x_405 = 62 := h_606
                        refine g_iload_n C 0 dX12_go_162 rfl rfl ?_
                        refine g_bipush C (v := 40) dX12_go_163 (by decide) ?_
                        refine g_icmp_eq C (tgt := 174) dX12_go_165 (by decide) (fun h_622 => ?_) (fun h_622 => ?_)
                        · skip
                          have r_623 := (⟨(eq_rg (h_622) rc_40).1, (eq_rg (h_622) rc_40).2⟩ : Rg 40 40 x_405)
                          refine g_iconst C (v := 4) dX12_go_174 (by decide) ?_
                          refine g_goto C (tgt := 179) dX12_go_175 (by decide) ?_
                          refine h_putI C K hLx hkx f_12_104 p_12_7 dX12_go_179 (fun I_624 hI_624 => ?_)
                          have hU_625 := iw_put W9 hU_395 hI_624 (ro_o hkx (by decide)) (lo := 0) (hi := 4) (rfl) (rg_w rc_4 (by decide) (by decide)) rfl
                          have hF_626 := fq_puto hF_396 hI_624 hkx (by decide) (by decide)
                          have hs_627 : MTq I_624 J_378 x b_2 = (MT_.w_kind (MT_.w_frm s_387 (v_382)) (4)) := by rw [hI_624]; exact ((mq_kind wmqx).trans (congrArg (fun z : MT_ => MT_.w_kind z (4)) hs_397)).trans rfl
                          refine g_aload_n C 1 dX12_go_182 rfl rfl ?_
                          refine g_iload_n C 0 dX12_go_183 rfl rfl ?_
                          refine h_putI C K hLx hkx f_12_114 p_12_9 dX12_go_184 (fun I_628 hI_628 => ?_)
                          have hU_629 := iw_put W9 hU_625 hI_628 (ro_o hkx (by decide)) (lo := (-2147483648)) (hi := 2147483647) (rfl) (rg_all _) rfl
                          have hF_630 := fq_puto hF_626 hI_628 hkx (by decide) (by decide)
                          have hs_631 : MTq I_628 J_378 x b_2 = (MT_.w_sign (MT_.w_kind (MT_.w_frm s_387 (v_382)) (4)) (x_405)) := by rw [hI_628]; exact ((mq_sign wmqx).trans (congrArg (fun z : MT_ => MT_.w_sign z (x_405)) hs_627)).trans rfl
                          refine g_aload_n C 1 dX12_go_187 rfl rfl ?_
                          refine g_dup C dX12_go_188 rfl ?_
                          refine g_getI C K hLx hkx f_12_95 (v := v_382) (kp_j hI_628 (by decide) (kp_j hI_624 (by decide) (kp_j hI_394 (by decide) q_383))) dX12_go_189 ?_
                          refine g_iconst C (v := 1) dX12_go_192 (by decide) ?_
                          obtain ⟨x_632, hx_632, rx_632, tx_632⟩ := ex_add 1 900 r_403 rc_1 (by decide) (by decide) (by decide) (by decide)
                          refine g_iadd C (v := x_632) dX12_go_193 hx_632 ?_
                          refine h_putI C K hLx hkx f_12_95 p_12_5 dX12_go_194 (fun I_633 hI_633 => ?_)
                          have hU_634 := iw_put W9 hU_629 hI_633 (ro_o hkx (by decide)) (lo := 0) (hi := 940) (rfl) (rg_w rx_632 (by decide) (by decide)) rfl
                          have hF_635 := fq_puto hF_630 hI_633 hkx (by decide) (by decide)
                          have hs_636 : MTq I_633 J_378 x b_2 = (MT_.w_to (MT_.w_sign (MT_.w_kind (MT_.w_frm s_387 (v_382)) (4)) (x_405)) (x_632)) := by rw [hI_633]; exact ((mq_to wmqx).trans (congrArg (fun z : MT_ => MT_.w_to z (x_632)) hs_631)).trans rfl
                          exact g_vret B K rfl ⟨hU_634, hF_635, hG_381, (by (try simp only [f_390, hx_391, f_392, h_393, hx_398, f_399, h_400, h_402, hx_405, f_406, c_411, (eq_true h_412), c_479, (eq_true h_480), h_558, h_574, h_590, h_606, (eq_true h_622), hx_632, if_true, if_false, mqM_tp, mqM_size, mqM_limit, mqM_to, mqM_frm, mqM_kind, mqM_number, mqM_sign, mqM_word, MT_.w_tp, MT_.w_size, MT_.w_limit, MT_.w_to, MT_.w_frm, MT_.w_kind, MT_.w_number, MT_.w_sign, MT_.w_word] at hQ_388); (try simp only [f_390, hx_391, f_392, h_393, hx_398, f_399, h_400, h_402, hx_405, f_406, c_411, (eq_true h_412), c_479, (eq_true h_480), h_558, h_574, h_590, h_606, (eq_true h_622), hx_632, if_true, if_false, mqM_tp, mqM_size, mqM_limit, mqM_to, mqM_frm, mqM_kind, mqM_number, mqM_sign, mqM_word, MT_.w_tp, MT_.w_size, MT_.w_limit, MT_.w_to, MT_.w_frm, MT_.w_kind, MT_.w_number, MT_.w_sign, MT_.w_word] at u_389); simp only [mGo, mGo2, mGo3, mGoE, mSg, mStep, mGood, emqx, hs_636, hs_3, hQ_388, f_390, u_389, hx_391, f_392, h_393, hx_398, f_399, h_400, h_402, hx_405, f_406, c_411, (eq_true h_412), c_479, (eq_true h_480), h_558, h_574, h_590, h_606, (eq_true h_622), hx_632, if_true, if_false, mqM_tp, mqM_size, mqM_limit, mqM_to, mqM_frm, mqM_kind, mqM_number, mqM_sign, mqM_word, MT_.w_tp, MT_.w_size, MT_.w_limit, MT_.w_to, MT_.w_frm, MT_.w_kind, MT_.w_number, MT_.w_sign, MT_.w_word]), (ps_mk hx_1 (kp_s hI_633) (kp_j hI_633 (by decide) (kp_j hI_628 (by decide) (kp_s hI_624))) (Int.le_of_lt (by have := hj_385; have := (ti_k tx_632 rc_1); omega)) (Or.inl (by have := hj_385; have := (ti_k tx_632 rc_1); omega)))⟩ dX12_go_197
                        · skip
                          have n_637 : ¬ x_405 = 40 := h_622
                          refine g_iload_n C 0 dX12_go_168 rfl rfl ?_
                          refine g_bipush C (v := 41) dX12_go_169 (by decide) ?_
                          refine g_icmp_ne C (tgt := 178) dX12_go_171 (by decide) (fun h_638 => ?_) (fun h_638 => ?_)
                          · skip
                            have n_639 : ¬ x_405 = 41 := h_638
                            refine g_iconst C (v := 1) dX12_go_178 (by decide) ?_
                            refine h_putI C K hLx hkx f_12_104 p_12_7 dX12_go_179 (fun I_640 hI_640 => ?_)
                            have hU_641 := iw_put W9 hU_395 hI_640 (ro_o hkx (by decide)) (lo := 0) (hi := 4) (rfl) (rg_w rc_1 (by decide) (by decide)) rfl
                            have hF_642 := fq_puto hF_396 hI_640 hkx (by decide) (by decide)
                            have hs_643 : MTq I_640 J_378 x b_2 = (MT_.w_kind (MT_.w_frm s_387 (v_382)) (1)) := by rw [hI_640]; exact ((mq_kind wmqx).trans (congrArg (fun z : MT_ => MT_.w_kind z (1)) hs_397)).trans rfl
                            refine g_aload_n C 1 dX12_go_182 rfl rfl ?_
                            refine g_iload_n C 0 dX12_go_183 rfl rfl ?_
                            refine h_putI C K hLx hkx f_12_114 p_12_9 dX12_go_184 (fun I_644 hI_644 => ?_)
                            have hU_645 := iw_put W9 hU_641 hI_644 (ro_o hkx (by decide)) (lo := (-2147483648)) (hi := 2147483647) (rfl) (rg_all _) rfl
                            have hF_646 := fq_puto hF_642 hI_644 hkx (by decide) (by decide)
                            have hs_647 : MTq I_644 J_378 x b_2 = (MT_.w_sign (MT_.w_kind (MT_.w_frm s_387 (v_382)) (1)) (x_405)) := by rw [hI_644]; exact ((mq_sign wmqx).trans (congrArg (fun z : MT_ => MT_.w_sign z (x_405)) hs_643)).trans rfl
                            refine g_aload_n C 1 dX12_go_187 rfl rfl ?_
                            refine g_dup C dX12_go_188 rfl ?_
                            refine g_getI C K hLx hkx f_12_95 (v := v_382) (kp_j hI_644 (by decide) (kp_j hI_640 (by decide) (kp_j hI_394 (by decide) q_383))) dX12_go_189 ?_
                            refine g_iconst C (v := 1) dX12_go_192 (by decide) ?_
                            obtain ⟨x_648, hx_648, rx_648, tx_648⟩ := ex_add 1 900 r_403 rc_1 (by decide) (by decide) (by decide) (by decide)
                            refine g_iadd C (v := x_648) dX12_go_193 hx_648 ?_
                            refine h_putI C K hLx hkx f_12_95 p_12_5 dX12_go_194 (fun I_649 hI_649 => ?_)
                            have hU_650 := iw_put W9 hU_645 hI_649 (ro_o hkx (by decide)) (lo := 0) (hi := 940) (rfl) (rg_w rx_648 (by decide) (by decide)) rfl
                            have hF_651 := fq_puto hF_646 hI_649 hkx (by decide) (by decide)
                            have hs_652 : MTq I_649 J_378 x b_2 = (MT_.w_to (MT_.w_sign (MT_.w_kind (MT_.w_frm s_387 (v_382)) (1)) (x_405)) (x_648)) := by rw [hI_649]; exact ((mq_to wmqx).trans (congrArg (fun z : MT_ => MT_.w_to z (x_648)) hs_647)).trans rfl
                            exact g_vret B K rfl ⟨hU_650, hF_651, hG_381, (by (try simp only [f_390, hx_391, f_392, h_393, hx_398, f_399, h_400, h_402, hx_405, f_406, c_411, (eq_true h_412), c_479, (eq_true h_480), h_558, h_574, h_590, h_606, h_622, h_638, hx_648, if_true, if_false, mqM_tp, mqM_size, mqM_limit, mqM_to, mqM_frm, mqM_kind, mqM_number, mqM_sign, mqM_word, MT_.w_tp, MT_.w_size, MT_.w_limit, MT_.w_to, MT_.w_frm, MT_.w_kind, MT_.w_number, MT_.w_sign, MT_.w_word] at hQ_388); (try simp only [f_390, hx_391, f_392, h_393, hx_398, f_399, h_400, h_402, hx_405, f_406, c_411, (eq_true h_412), c_479, (eq_true h_480), h_558, h_574, h_590, h_606, h_622, h_638, hx_648, if_true, if_false, mqM_tp, mqM_size, mqM_limit, mqM_to, mqM_frm, mqM_kind, mqM_number, mqM_sign, mqM_word, MT_.w_tp, MT_.w_size, MT_.w_limit, MT_.w_to, MT_.w_frm, MT_.w_kind, MT_.w_number, MT_.w_sign, MT_.w_word] at u_389); simp only [mGo, mGo2, mGo3, mGoE, mSg, mStep, mGood, emqx, hs_652, hs_3, hQ_388, f_390, u_389, hx_391, f_392, h_393, hx_398, f_399, h_400, h_402, hx_405, f_406, c_411, (eq_true h_412), c_479, (eq_true h_480), h_558, h_574, h_590, h_606, h_622, h_638, hx_648, if_true, if_false, mqM_tp, mqM_size, mqM_limit, mqM_to, mqM_frm, mqM_kind, mqM_number, mqM_sign, mqM_word, MT_.w_tp, MT_.w_size, MT_.w_limit, MT_.w_to, MT_.w_frm, MT_.w_kind, MT_.w_number, MT_.w_sign, MT_.w_word]), (ps_mk hx_1 (kp_s hI_649) (kp_j hI_649 (by decide) (kp_j hI_644 (by decide) (kp_s hI_640))) (by have := hj_385; have := (ti_k tx_648 rc_1); omega) (Or.inr (by have := (rc_1).2; omega)))⟩ dX12_go_197
                          · skip
                            have r_653 := (⟨(eq_rg (h_638) rc_41).1, (eq_rg (h_638) rc_41).2⟩ : Rg 41 41 x_405)
                            refine g_iconst C (v := 4) dX12_go_174 (by decide) ?_
                            refine g_goto C (tgt := 179) dX12_go_175 (by decide) ?_
                            refine h_putI C K hLx hkx f_12_104 p_12_7 dX12_go_179 (fun I_654 hI_654 => ?_)
                            have hU_655 := iw_put W9 hU_395 hI_654 (ro_o hkx (by decide)) (lo := 0) (hi := 4) (rfl) (rg_w rc_4 (by decide) (by decide)) rfl
                            have hF_656 := fq_puto hF_396 hI_654 hkx (by decide) (by decide)
                            have hs_657 : MTq I_654 J_378 x b_2 = (MT_.w_kind (MT_.w_frm s_387 (v_382)) (4)) := by rw [hI_654]; exact ((mq_kind wmqx).trans (congrArg (fun z : MT_ => MT_.w_kind z (4)) hs_397)).trans rfl
                            refine g_aload_n C 1 dX12_go_182 rfl rfl ?_
                            refine g_iload_n C 0 dX12_go_183 rfl rfl ?_
                            refine h_putI C K hLx hkx f_12_114 p_12_9 dX12_go_184 (fun I_658 hI_658 => ?_)
                            have hU_659 := iw_put W9 hU_655 hI_658 (ro_o hkx (by decide)) (lo := (-2147483648)) (hi := 2147483647) (rfl) (rg_all _) rfl
                            have hF_660 := fq_puto hF_656 hI_658 hkx (by decide) (by decide)
                            have hs_661 : MTq I_658 J_378 x b_2 = (MT_.w_sign (MT_.w_kind (MT_.w_frm s_387 (v_382)) (4)) (x_405)) := by rw [hI_658]; exact ((mq_sign wmqx).trans (congrArg (fun z : MT_ => MT_.w_sign z (x_405)) hs_657)).trans rfl
                            refine g_aload_n C 1 dX12_go_187 rfl rfl ?_
                            refine g_dup C dX12_go_188 rfl ?_
                            refine g_getI C K hLx hkx f_12_95 (v := v_382) (kp_j hI_658 (by decide) (kp_j hI_654 (by decide) (kp_j hI_394 (by decide) q_383))) dX12_go_189 ?_
                            refine g_iconst C (v := 1) dX12_go_192 (by decide) ?_
                            obtain ⟨x_662, hx_662, rx_662, tx_662⟩ := ex_add 1 900 r_403 rc_1 (by decide) (by decide) (by decide) (by decide)
                            refine g_iadd C (v := x_662) dX12_go_193 hx_662 ?_
                            refine h_putI C K hLx hkx f_12_95 p_12_5 dX12_go_194 (fun I_663 hI_663 => ?_)
                            have hU_664 := iw_put W9 hU_659 hI_663 (ro_o hkx (by decide)) (lo := 0) (hi := 940) (rfl) (rg_w rx_662 (by decide) (by decide)) rfl
                            have hF_665 := fq_puto hF_660 hI_663 hkx (by decide) (by decide)
                            have hs_666 : MTq I_663 J_378 x b_2 = (MT_.w_to (MT_.w_sign (MT_.w_kind (MT_.w_frm s_387 (v_382)) (4)) (x_405)) (x_662)) := by rw [hI_663]; exact ((mq_to wmqx).trans (congrArg (fun z : MT_ => MT_.w_to z (x_662)) hs_661)).trans rfl
                            exact g_vret B K rfl ⟨hU_664, hF_665, hG_381, (by (try simp only [f_390, hx_391, f_392, h_393, hx_398, f_399, h_400, h_402, hx_405, f_406, c_411, (eq_true h_412), c_479, (eq_true h_480), h_558, h_574, h_590, h_606, h_622, (eq_true h_638), hx_662, if_true, if_false, mqM_tp, mqM_size, mqM_limit, mqM_to, mqM_frm, mqM_kind, mqM_number, mqM_sign, mqM_word, MT_.w_tp, MT_.w_size, MT_.w_limit, MT_.w_to, MT_.w_frm, MT_.w_kind, MT_.w_number, MT_.w_sign, MT_.w_word] at hQ_388); (try simp only [f_390, hx_391, f_392, h_393, hx_398, f_399, h_400, h_402, hx_405, f_406, c_411, (eq_true h_412), c_479, (eq_true h_480), h_558, h_574, h_590, h_606, h_622, (eq_true h_638), hx_662, if_true, if_false, mqM_tp, mqM_size, mqM_limit, mqM_to, mqM_frm, mqM_kind, mqM_number, mqM_sign, mqM_word, MT_.w_tp, MT_.w_size, MT_.w_limit, MT_.w_to, MT_.w_frm, MT_.w_kind, MT_.w_number, MT_.w_sign, MT_.w_word] at u_389); simp only [mGo, mGo2, mGo3, mGoE, mSg, mStep, mGood, emqx, hs_666, hs_3, hQ_388, f_390, u_389, hx_391, f_392, h_393, hx_398, f_399, h_400, h_402, hx_405, f_406, c_411, (eq_true h_412), c_479, (eq_true h_480), h_558, h_574, h_590, h_606, h_622, (eq_true h_638), hx_662, if_true, if_false, mqM_tp, mqM_size, mqM_limit, mqM_to, mqM_frm, mqM_kind, mqM_number, mqM_sign, mqM_word, MT_.w_tp, MT_.w_size, MT_.w_limit, MT_.w_to, MT_.w_frm, MT_.w_kind, MT_.w_number, MT_.w_sign, MT_.w_word]), (ps_mk hx_1 (kp_s hI_663) (kp_j hI_663 (by decide) (kp_j hI_658 (by decide) (kp_s hI_654))) (Int.le_of_lt (by have := hj_385; have := (ti_k tx_662 rc_1); omega)) (Or.inl (by have := hj_385; have := (ti_k tx_662 rc_1); omega)))⟩ dX12_go_197
          · skip
            refine g_aload_n C 0 dX12_go_107 rfl rfl ?_
            refine g_iconst C (v := 0) dX12_go_108 (by decide) ?_
            refine h_putI C K hLx hkx f_12_104 p_12_7 dX12_go_109 (fun I_667 hI_667 => ?_)
            have hU_668 := iw_put W9 hU_395 hI_667 (ro_o hkx (by decide)) (lo := 0) (hi := 4) (rfl) (rg_w rc_0 (by decide) (by decide)) rfl
            have hF_669 := fq_puto hF_396 hI_667 hkx (by decide) (by decide)
            have hs_670 : MTq I_667 J_378 x b_2 = (MT_.w_kind (MT_.w_frm s_387 (v_382)) (0)) := by rw [hI_667]; exact ((mq_kind wmqx).trans (congrArg (fun z : MT_ => MT_.w_kind z (0)) hs_397)).trans rfl
            exact g_vret B K rfl ⟨hU_668, hF_669, hG_381, (by (try simp only [f_390, hx_391, f_392, h_393, hx_398, f_399, h_400, h_402, (nlt h_402), if_true, if_false, mqM_tp, mqM_size, mqM_limit, mqM_to, mqM_frm, mqM_kind, mqM_number, mqM_sign, mqM_word, MT_.w_tp, MT_.w_size, MT_.w_limit, MT_.w_to, MT_.w_frm, MT_.w_kind, MT_.w_number, MT_.w_sign, MT_.w_word] at hQ_388); (try simp only [f_390, hx_391, f_392, h_393, hx_398, f_399, h_400, h_402, (nlt h_402), if_true, if_false, mqM_tp, mqM_size, mqM_limit, mqM_to, mqM_frm, mqM_kind, mqM_number, mqM_sign, mqM_word, MT_.w_tp, MT_.w_size, MT_.w_limit, MT_.w_to, MT_.w_frm, MT_.w_kind, MT_.w_number, MT_.w_sign, MT_.w_word] at u_389); simp only [mGo, mGo2, mGo3, mGoE, mSg, mStep, mGood, emqx, hs_670, hs_3, hQ_388, f_390, u_389, hx_391, f_392, h_393, hx_398, f_399, h_400, h_402, (nlt h_402), if_true, if_false, mqM_tp, mqM_size, mqM_limit, mqM_to, mqM_frm, mqM_kind, mqM_number, mqM_sign, mqM_word, MT_.w_tp, MT_.w_size, MT_.w_limit, MT_.w_to, MT_.w_frm, MT_.w_kind, MT_.w_number, MT_.w_sign, MT_.w_word]), (ps_mk hx_1 (kp_j hI_667 (by decide) (kp_j hI_394 (by decide) q_383)) (kp_s hI_667) (by have := hj_385; omega) (Or.inr (by have := (rc_0).2; omega)))⟩ dX12_go_112
        · skip
          have r_671 := lt_r (lo := 1) (nle h_400) rx_398 rx_391 (by decide)
          refine g_aload_n C 0 dX12_go_71 rfl rfl ?_
          refine g_getI C K hLx hkx f_12_98 (v := v_382) (kp_s hI_394) dX12_go_72 ?_
          refine g_aload_n C 0 dX12_go_75 rfl rfl ?_
          refine g_getI C K hLx hkx f_12_101 (v := x_398) hx_398 dX12_go_76 ?_
          refine g_icmp_lt C (tgt := 96) dX12_go_79 (by decide) (fun h_672 => ?_) (fun h_672 => ?_)
          · skip
            have r_673 := lt_l (hi := 899) (h_672) rv_382 rx_398 (by decide)
            have r_674 := lt_r (lo := 1) (h_672) rv_382 rx_398 (by decide)
            refine g_aload_n C 0 dX12_go_96 rfl rfl ?_
            refine g_getI C K hLx hkx f_12_95 (v := v_382) (kp_j hI_394 (by decide) q_383) dX12_go_97 ?_
            refine g_aload_n C 0 dX12_go_100 rfl rfl ?_
            refine g_getI C K hLx hkx f_12_92 (v := x_391) (kp_j hI_394 (by decide) hx_391) dX12_go_101 ?_
            refine g_icmp_lt C (tgt := 113) dX12_go_104 (by decide) (fun h_675 => ?_) (fun h_675 => ?_)
            · skip
              refine g_aload_n C 0 dX12_go_113 rfl rfl ?_
              refine g_getR C K hLx hkx f_12_7 hb_2 dX12_go_114 ?_
              refine g_aload_n C 0 dX12_go_117 rfl rfl ?_
              refine g_getI C K hLx hkx f_12_95 (v := v_382) (kp_j hI_394 (by decide) q_383) dX12_go_118 ?_
              obtain ⟨x_676, hx_676, rx_676⟩ := ex_getw (I := I_394) (a := b_2) (j := v_382.toNatClampNeg) (lo := 0) (hi := 255) hU_395.1 hb_2L (ro_a hb_2k (by decide) hb_2o hkx rfl) (rfl)
              refine h_iald C K hb_2L hb_2k (v := x_676) (v_382.toNatClampNeg) (rfl) (ix_0 r_673 (by decide)) (ix_lt r_673 (by decide) hb_2n (by decide)) hx_676 dX12_go_121 ?_
              have f_677 : s_387.tp (v_382.toNatClampNeg) = x_676 := (congrFun (congrArg MT_.tp hs_397) _).symm.trans hx_676
              refine g_istore_n C dX12_go_122 rfl (by decide) (lo2 := [(1, .int x_676), (0, .ref x)]) rfl ?_
              refine g_iload_n C 0 dX12_go_123 rfl rfl ?_
              refine g_callSI C K (c_X12_isLetter W9 x_676  hU_395) s_12_107 rfl ⟨rfl, rfl⟩ ⟨Nat.le_of_ble_eq_true rfl, Nat.le_of_ble_eq_true rfl⟩ (Nat.le_of_ble_eq_true rfl) ⟨Nat.le_of_ble_eq_true rfl, Nat.le_of_ble_eq_true rfl⟩ dX12_go_124 rfl (st := []) (fun x_678 I_679 J_680 h_681 => ?_)
              obtain ⟨rfl, rfl, rx_678, fx_678, ex_678⟩ := h_681
              have c_682 : isLc (x_676) = x_678 := fx_678.symm
              refine g_if_ne C (tgt := 198) dX12_go_127 (by decide) (fun h_683 => ?_) (fun h_683 => ?_)
              · skip
                have n_684 : ¬ x_678 = 0 := h_683
                have r_685 := ne_lo (lo := 1) n_684 rx_678 rc_0 rfl (by decide)
                have r_686 := rg_i rx_676 ((ex_678.2) n_684) (lo := 97) (hi := 122) (by decide) (by decide)
                refine g_iload_n C 0 dX12_go_198 rfl rfl ?_
                refine g_callSI C K (c_X12_isLetter W9 x_676  hU_395) s_12_107 rfl ⟨rfl, rfl⟩ ⟨Nat.le_of_ble_eq_true rfl, Nat.le_of_ble_eq_true rfl⟩ (Nat.le_of_ble_eq_true rfl) ⟨Nat.le_of_ble_eq_true rfl, Nat.le_of_ble_eq_true rfl⟩ dX12_go_199 rfl (st := []) (fun x_687 I_688 J_689 h_690 => ?_)
                obtain ⟨rfl, rfl, rx_687, fx_687, ex_687⟩ := h_690
                have c_691 : isLc (x_676) = x_687 := fx_687.symm
                have ec_691 : x_678 = x_687 := c_682.symm.trans c_691
                subst ec_691
                refine g_istore_n C dX12_go_202 rfl (by decide) (lo2 := [(2, .int x_678), (1, .int x_676), (0, .ref x)]) rfl ?_
                refine g_iconst C (v := 1) dX12_go_203 (by decide) ?_
                refine g_istore_n C dX12_go_204 rfl (by decide) (lo2 := [(3, .int 1), (2, .int x_678), (1, .int x_676), (0, .ref x)]) rfl ?_
                refine g_aload_n C 3 dX12_go_205 rfl rfl ?_
                refine g_lconst C (v := 0) dX12_go_206 (by decide) ?_
                refine h_putJ C K hLx hkx f_12_117 p_12_12 dX12_go_207 (fun J_692 hJ_692 => ?_)
                have hG_693 := fq_puto hG_381 hJ_692 hkx (by decide) (by decide)
                have hs_694 : MTq I_394 J_692 x b_2 = (MT_.w_word (MT_.w_frm s_387 (v_382)) (0)) := by rw [hJ_692]; exact ((mq_word wmqx).trans (congrArg (fun z : MT_ => MT_.w_word z (0)) hs_397)).trans rfl
                refine g_aload_n C 3 dX12_go_210 rfl rfl ?_
                refine g_iconst C (v := 0) dX12_go_211 (by decide) ?_
                refine h_putI C K hLx hkx f_12_121 p_12_8 dX12_go_212 (fun I_695 hI_695 => ?_)
                have hU_696 := iw_put W9 hU_395 hI_695 (ro_o hkx (by decide)) (lo := (-2147483648)) (hi := 2147483647) (rfl) (rg_all _) rfl
                have hF_697 := fq_puto hF_396 hI_695 hkx (by decide) (by decide)
                have hs_698 : MTq I_695 J_692 x b_2 = (MT_.w_number (MT_.w_word (MT_.w_frm s_387 (v_382)) (0)) (0)) := by rw [hI_695]; exact ((mq_number wmqx).trans (congrArg (fun z : MT_ => MT_.w_number z (0)) hs_694)).trans rfl
                have u_699 := mrun_eq (lt := x_678) (g := 1) (m := (MT_.w_number (MT_.w_word (MT_.w_frm s_387 (v_382)) (0)) (0))) ((congrArg MT_.to hs_698).symm.trans (kp_j hI_695 (by decide) (kp_j hI_394 (by decide) q_383))) (rg_w r_673 (by decide) (by decide))
                refine g_aload_n C 3 dX12_go_215 rfl rfl ?_
                refine g_aload_n C 3 dX12_go_216 rfl rfl ?_
                refine g_getI C K hLx hkx f_12_95 (v := v_382) (kp_j hI_695 (by decide) (kp_j hI_394 (by decide) q_383)) dX12_go_217 ?_
                refine g_callVI C K (c_X12_tapeAt W9 hLx hkx v_382 (rg_w r_673 (by decide) (by decide)) hU_696) hLx hkx (by decide) rfl v_12_124 rfl ⟨rfl, rfl⟩ ⟨Nat.le_of_ble_eq_true rfl, Nat.le_of_ble_eq_true rfl⟩ (Nat.le_of_ble_eq_true rfl) ⟨Nat.le_of_ble_eq_true rfl, Nat.le_of_ble_eq_true rfl⟩ dX12_go_220 rfl (st := []) (fun x_700 I_701 J_702 h_703 => ?_)
                obtain ⟨rfl, rfl, rx_700, fx_700, ex_700⟩ := h_703
                have c_704 : mTapeAt (v_382) ((MT_.w_number (MT_.w_word (MT_.w_frm s_387 (v_382)) (0)) (0))) = x_700 := by have q := fx_700; simp only [emqx, hs_698] at q; exact q.symm
                have r_705 := eq_rg ((ex_700.1 _ hb_2 (by rw [(kp_j hI_695 (by decide) (kp_j hI_394 (by decide) hx_391))]; exact h_675)).trans (kp_k (κ := κ) hI_695 (by rw [hb_2k, hkx]; decide) hx_676)) r_686
                refine g_callSI C K (c_X12_isLetter W9 x_700  hU_696) s_12_107 rfl ⟨rfl, rfl⟩ ⟨Nat.le_of_ble_eq_true rfl, Nat.le_of_ble_eq_true rfl⟩ (Nat.le_of_ble_eq_true rfl) ⟨Nat.le_of_ble_eq_true rfl, Nat.le_of_ble_eq_true rfl⟩ dX12_go_223 rfl (st := []) (fun x_706 I_707 J_708 h_709 => ?_)
                obtain ⟨rfl, rfl, rx_706, fx_706, ex_706⟩ := h_709
                have c_710 : isLc (x_700) = x_706 := fx_706.symm
                have n_711 : ¬ x_706 = 0 := by rcases ex_706.1 with q | q | q; exact q; exact absurd q (by have := (r_705).1; omega); exact absurd q (by have := (r_705).2; omega)
                have n_712 : ¬ x_706 = 0 := n_711
                have r_713 := ne_lo (lo := 1) n_712 rx_706 rc_0 rfl (by decide)
                refine g_if_ne C (tgt := 243) dX12_go_226 (by decide) (fun h_714 => ?_) (fun h_714 => ?_)
                · skip
                  have n_715 : ¬ x_706 = 0 := h_714
                  refine g_aload_n C 3 dX12_go_243 rfl rfl ?_
                  refine g_getR C K hLx hkx f_12_7 hb_2 dX12_go_244 ?_
                  refine g_aload_n C 3 dX12_go_247 rfl rfl ?_
                  refine g_getI C K hLx hkx f_12_95 (v := v_382) (kp_j hI_695 (by decide) (kp_j hI_394 (by decide) q_383)) dX12_go_248 ?_
                  refine h_iald C K hb_2L hb_2k (v := x_676) (v_382.toNatClampNeg) (rfl) (ix_0 r_673 (by decide)) (ix_lt r_673 (by decide) hb_2n (by decide)) (kp_k (κ := κ) hI_695 (by rw [hb_2k, hkx]; decide) hx_676) dX12_go_251 ?_
                  refine g_istore C dX12_go_252 (by decide) (lo2 := [(4, .int x_676), (3, .int 1), (2, .int x_678), (1, .int x_676), (0, .ref x)]) rfl ?_
                  refine g_iload_n C 1 dX12_go_254 rfl rfl ?_
                  refine g_if_eq C (tgt := 271) dX12_go_255 (by decide) (fun h_717 => ?_) (fun h_717 => ?_)
                  · skip
                    exact absurd (h_717) (by decide)
                  · skip
                    refine g_iload C 0 dX12_go_258 rfl ?_
                    refine g_callSI C K (c_X12_isLetter W9 x_676  hU_696) s_12_107 rfl ⟨rfl, rfl⟩ ⟨Nat.le_of_ble_eq_true rfl, Nat.le_of_ble_eq_true rfl⟩ (Nat.le_of_ble_eq_true rfl) ⟨Nat.le_of_ble_eq_true rfl, Nat.le_of_ble_eq_true rfl⟩ dX12_go_260 rfl (st := []) (fun x_718 I_719 J_720 h_721 => ?_)
                    obtain ⟨rfl, rfl, rx_718, fx_718, ex_718⟩ := h_721
                    have c_722 : isLc (x_676) = x_718 := fx_718.symm
                    have ec_722 : x_678 = x_718 := c_682.symm.trans c_722
                    subst ec_722
                    refine g_iload_n C 2 dX12_go_263 rfl rfl ?_
                    refine g_icmp_ne C (tgt := 271) dX12_go_264 (by decide) (fun h_723 => ?_) (fun h_723 => ?_)
                    · skip
                      exact ne_no (h_723) r_685 r_685
                    · skip
                      refine g_iconst C (v := 1) dX12_go_267 (by decide) ?_
                      refine g_goto C (tgt := 272) dX12_go_268 (by decide) ?_
                      refine g_istore_n C dX12_go_272 rfl (by decide) (lo2 := [(3, .int 1), (4, .int x_676), (2, .int x_678), (1, .int x_676), (0, .ref x)]) rfl ?_
                      refine g_aload_n C 4 dX12_go_273 rfl rfl ?_
                      refine g_getI C K hLx hkx f_12_95 (v := v_382) (kp_j hI_695 (by decide) (kp_j hI_394 (by decide) q_383)) dX12_go_274 ?_
                      refine g_aload_n C 4 dX12_go_277 rfl rfl ?_
                      refine g_getI C K hLx hkx f_12_98 (v := v_382) (kp_j hI_695 (by decide) (kp_s hI_394)) dX12_go_278 ?_
                      refine g_isub C (v := 0) dX12_go_281 (Int32.sub_self _) ?_
                      refine g_bipush C (v := 7) dX12_go_282 (by decide) ?_
                      refine g_icmp_ge C (tgt := 307) dX12_go_284 (by decide) (fun h_724 => ?_) (fun h_724 => ?_)
                      · skip
                        exact absurd (h_724) (by decide)
                      · skip
                        refine g_aload_n C 4 dX12_go_287 rfl rfl ?_
                        refine g_ldc2 C kl_128 dX12_go_288 ?_
                        refine g_aload_n C 4 dX12_go_291 rfl rfl ?_
                        obtain ⟨y_725, hy_725⟩ : ∃ z, J_692 x 12 = z := ⟨_, rfl⟩
                        refine g_getJ C K hLx hkx f_12_117 (v := y_725) hy_725 dX12_go_292 ?_
                        refine g_lmulE C dX12_go_295 (fun y_726 hy_726 => ?_)
                        refine g_iload C 1 dX12_go_296 rfl ?_
                        obtain ⟨y_727, hy_727⟩ : ∃ z, Int32.toInt64 x_676 = z := ⟨_, rfl⟩
                        refine g_i2l C (v := y_727) dX12_go_298 hy_727 ?_
                        refine g_laddE C dX12_go_299 (fun y_728 hy_728 => ?_)
                        refine g_ldc2 C kl_130 dX12_go_300 ?_
                        refine g_lsubE C dX12_go_303 (fun y_729 hy_729 => ?_)
                        refine h_putJ C K hLx hkx f_12_117 p_12_12 dX12_go_304 (fun J_730 hJ_730 => ?_)
                        have hG_731 := fq_puto hG_693 hJ_730 hkx (by decide) (by decide)
                        have hs_732 : MTq I_695 J_730 x b_2 = (MT_.w_word (MT_.w_number (MT_.w_frm s_387 (v_382)) (0)) (y_729)) := by rw [hJ_730]; exact ((mq_word wmqx).trans (congrArg (fun z : MT_ => MT_.w_word z (y_729)) hs_698)).trans rfl
                        refine g_aload_n C 4 dX12_go_307 rfl rfl ?_
                        refine g_getI C K hLx hkx f_12_95 (v := v_382) (kp_j hI_695 (by decide) (kp_j hI_394 (by decide) q_383)) dX12_go_308 ?_
                        refine g_aload_n C 4 dX12_go_311 rfl rfl ?_
                        refine g_getI C K hLx hkx f_12_98 (v := v_382) (kp_j hI_695 (by decide) (kp_s hI_394)) dX12_go_312 ?_
                        refine g_isub C (v := 0) dX12_go_315 (Int32.sub_self _) ?_
                        refine g_iconst C (v := 3) dX12_go_316 (by decide) ?_
                        refine g_icmp_ge C (tgt := 337) dX12_go_317 (by decide) (fun h_733 => ?_) (fun h_733 => ?_)
                        · skip
                          exact absurd (h_733) (by decide)
                        · skip
                          refine g_aload_n C 4 dX12_go_320 rfl rfl ?_
                          refine g_bipush C (v := 10) dX12_go_321 (by decide) ?_
                          refine g_aload_n C 4 dX12_go_323 rfl rfl ?_
                          refine g_getI C K hLx hkx f_12_121 (v := 0) (kp_s hI_695) dX12_go_324 ?_
                          refine g_imul C (v := 0) dX12_go_327 (by decide) ?_
                          refine g_iload C 1 dX12_go_328 rfl ?_
                          obtain ⟨x_734, hx_734, rx_734, tx_734⟩ := ex_add 97 122 rc_0 r_686 (by decide) (by decide) (by decide) (by decide)
                          refine g_iadd C (v := x_734) dX12_go_330 hx_734 ?_
                          refine g_bipush C (v := 48) dX12_go_331 (by decide) ?_
                          obtain ⟨x_735, hx_735, rx_735, tx_735⟩ := ex_sub 49 74 rx_734 rc_48 (by decide) (by decide) (by decide) (by decide)
                          refine g_isub C (v := x_735) dX12_go_333 hx_735 ?_
                          refine h_putI C K hLx hkx f_12_121 p_12_8 dX12_go_334 (fun I_736 hI_736 => ?_)
                          have hU_737 := iw_put W9 hU_696 hI_736 (ro_o hkx (by decide)) (lo := (-2147483648)) (hi := 2147483647) (rfl) (rg_all _) rfl
                          have hF_738 := fq_puto hF_697 hI_736 hkx (by decide) (by decide)
                          have hs_739 : MTq I_736 J_730 x b_2 = (MT_.w_number (MT_.w_word (MT_.w_frm s_387 (v_382)) (y_729)) (x_735)) := by rw [hI_736]; exact ((mq_number wmqx).trans (congrArg (fun z : MT_ => MT_.w_number z (x_735)) hs_732)).trans rfl
                          refine g_aload_n C 4 dX12_go_337 rfl rfl ?_
                          refine g_dup C dX12_go_338 rfl ?_
                          refine g_getI C K hLx hkx f_12_95 (v := v_382) (kp_j hI_736 (by decide) (kp_j hI_695 (by decide) (kp_j hI_394 (by decide) q_383))) dX12_go_339 ?_
                          refine g_iconst C (v := 1) dX12_go_342 (by decide) ?_
                          obtain ⟨x_740, hx_740, rx_740, tx_740⟩ := ex_add 1 900 r_673 rc_1 (by decide) (by decide) (by decide) (by decide)
                          refine g_iadd C (v := x_740) dX12_go_343 hx_740 ?_
                          refine h_putI C K hLx hkx f_12_95 p_12_5 dX12_go_344 (fun I_741 hI_741 => ?_)
                          have hU_742 := iw_put W9 hU_737 hI_741 (ro_o hkx (by decide)) (lo := 0) (hi := 940) (rfl) (rg_w rx_740 (by decide) (by decide)) rfl
                          have hF_743 := fq_puto hF_738 hI_741 hkx (by decide) (by decide)
                          have hs_744 : MTq I_741 J_730 x b_2 = (MT_.w_to (MT_.w_number (MT_.w_word (MT_.w_frm s_387 (v_382)) (y_729)) (x_735)) (x_740)) := by rw [hI_741]; exact ((mq_to wmqx).trans (congrArg (fun z : MT_ => MT_.w_to z (x_740)) hs_739)).trans rfl
                          refine g_goto C (tgt := 215) dX12_go_347 (by decide) ?_
                          refine g_lo (is := [4, 3, 2, 0, 1]) (lo2 := [(0, .ref x), (1, .int x_676), (2, .int x_678), (3, .int 1), (4, .int x_676)]) rfl ?_
                          exact l_215 940 I_741 J_730 hU_742 hF_743 hG_731 x_676 (rg_w r_686 (by decide) (by decide)) (rg_nek r_686 rc_10 (by decide)) (rg_nek r_686 rc_32 (by decide)) x_678 (rg_w r_685 (by decide) (by decide)) 1 (rg_w rc_1 (by decide) (by decide)) x_676 (rg_w r_686 (by decide) (by decide)) x_391 (r_671) x_398 (rg_w r_674 (by decide) (by decide)) x_740 (rg_w rx_740 (by decide) (by decide)) v_382 (r_673) x_735 (kp_j hI_741 (by decide) (kp_j hI_736 (by decide) (kp_j hI_695 (by decide) (kp_j hI_394 (by decide) hx_391)))) (kp_j hI_741 (by decide) (kp_j hI_736 (by decide) (kp_j hI_695 (by decide) hx_398))) (kp_s hI_741) (kp_j hI_741 (by decide) (kp_j hI_736 (by decide) (kp_j hI_695 (by decide) (kp_s hI_394)))) (kp_j hI_741 (by decide) (kp_s hI_736)) (by (try simp only [f_390, hx_391, f_392, h_393, hx_398, f_399, h_400, (nle h_400), h_672, h_675, hx_676, f_677, c_682, h_683, c_710, h_714, h_717, (eq_true h_723), h_724, (nle h_724), hy_725, hy_726, hy_727, hy_728, hy_729, h_733, (nle h_733), hx_734, hx_735, hx_740, if_true, if_false, mqM_tp, mqM_size, mqM_limit, mqM_to, mqM_frm, mqM_kind, mqM_number, mqM_sign, mqM_word, MT_.w_tp, MT_.w_size, MT_.w_limit, MT_.w_to, MT_.w_frm, MT_.w_kind, MT_.w_number, MT_.w_sign, MT_.w_word] at hQ_388); (try simp only [f_390, hx_391, f_392, h_393, hx_398, f_399, h_400, (nle h_400), h_672, h_675, hx_676, f_677, c_682, h_683, c_710, h_714, h_717, (eq_true h_723), h_724, (nle h_724), hy_725, hy_726, hy_727, hy_728, hy_729, h_733, (nle h_733), hx_734, hx_735, hx_740, if_true, if_false, mqM_tp, mqM_size, mqM_limit, mqM_to, mqM_frm, mqM_kind, mqM_number, mqM_sign, mqM_word, MT_.w_tp, MT_.w_size, MT_.w_limit, MT_.w_to, MT_.w_frm, MT_.w_kind, MT_.w_number, MT_.w_sign, MT_.w_word] at u_389); (try simp only [f_390, hx_391, f_392, h_393, hx_398, f_399, h_400, (nle h_400), h_672, h_675, hx_676, f_677, c_682, h_683, c_710, h_714, h_717, (eq_true h_723), h_724, (nle h_724), hy_725, hy_726, hy_727, hy_728, hy_729, h_733, (nle h_733), hx_734, hx_735, hx_740, if_true, if_false, mqM_tp, mqM_size, mqM_limit, mqM_to, mqM_frm, mqM_kind, mqM_number, mqM_sign, mqM_word, MT_.w_tp, MT_.w_size, MT_.w_limit, MT_.w_to, MT_.w_frm, MT_.w_kind, MT_.w_number, MT_.w_sign, MT_.w_word] at u_699); (try simp only [f_390, hx_391, f_392, h_393, hx_398, f_399, h_400, (nle h_400), h_672, h_675, hx_676, f_677, c_682, h_683, c_710, h_714, h_717, (eq_true h_723), h_724, (nle h_724), hy_725, hy_726, hy_727, hy_728, hy_729, h_733, (nle h_733), hx_734, hx_735, hx_740, if_true, if_false, mqM_tp, mqM_size, mqM_limit, mqM_to, mqM_frm, mqM_kind, mqM_number, mqM_sign, mqM_word, MT_.w_tp, MT_.w_size, MT_.w_limit, MT_.w_to, MT_.w_frm, MT_.w_kind, MT_.w_number, MT_.w_sign, MT_.w_word] at c_704); simp only [mGo, mGo2, mGo3, mGoE, mSg, mStep, mGood, emqx, hs_744, hs_3, hQ_388, f_390, u_389, hx_391, f_392, h_393, hx_398, f_399, h_400, (nle h_400), h_672, h_675, hx_676, f_677, c_682, h_683, u_699, c_704, c_710, h_714, h_717, (eq_true h_723), h_724, (nle h_724), hy_725, hy_726, hy_727, hy_728, hy_729, h_733, (nle h_733), hx_734, hx_735, hx_740, if_true, if_false, mqM_tp, mqM_size, mqM_limit, mqM_to, mqM_frm, mqM_kind, mqM_number, mqM_sign, mqM_word, MT_.w_tp, MT_.w_size, MT_.w_limit, MT_.w_to, MT_.w_frm, MT_.w_kind, MT_.w_number, MT_.w_sign, MT_.w_word]) (by have := hj_385; have := (ti_k tx_740 rc_1); omega) (ms_s (a := 1) (b := 940) (N := 940) (rg_w rx_740 (by decide) (by decide)) (by decide))
                · skip
                  exact eq_no (h_714) r_713 rc_0 (by decide)
              · skip
                have r_745 := (⟨(rx_678).1, (eq_rg (h_683) rc_0).2⟩ : Rg 0 0 x_678)
                refine g_iload_n C 0 dX12_go_130 rfl rfl ?_
                refine g_callSI C K (c_X12_isDigit W9 x_676  hU_395) s_12_111 rfl ⟨rfl, rfl⟩ ⟨Nat.le_of_ble_eq_true rfl, Nat.le_of_ble_eq_true rfl⟩ (Nat.le_of_ble_eq_true rfl) ⟨Nat.le_of_ble_eq_true rfl, Nat.le_of_ble_eq_true rfl⟩ dX12_go_131 rfl (st := []) (fun x_746 I_747 J_748 h_749 => ?_)
                obtain ⟨rfl, rfl, rx_746, fx_746, ex_746⟩ := h_749
                have c_750 : isDc (x_676) = x_746 := fx_746.symm
                refine g_if_ne C (tgt := 198) dX12_go_134 (by decide) (fun h_751 => ?_) (fun h_751 => ?_)
                · skip
                  have n_752 : ¬ x_746 = 0 := h_751
                  have r_753 := ne_lo (lo := 1) n_752 rx_746 rc_0 rfl (by decide)
                  have r_754 := rg_i rx_676 ((ex_746.2) n_752) (lo := 48) (hi := 57) (by decide) (by decide)
                  refine g_iload_n C 0 dX12_go_198 rfl rfl ?_
                  refine g_callSI C K (c_X12_isLetter W9 x_676  hU_395) s_12_107 rfl ⟨rfl, rfl⟩ ⟨Nat.le_of_ble_eq_true rfl, Nat.le_of_ble_eq_true rfl⟩ (Nat.le_of_ble_eq_true rfl) ⟨Nat.le_of_ble_eq_true rfl, Nat.le_of_ble_eq_true rfl⟩ dX12_go_199 rfl (st := []) (fun x_755 I_756 J_757 h_758 => ?_)
                  obtain ⟨rfl, rfl, rx_755, fx_755, ex_755⟩ := h_758
                  have c_759 : isLc (x_676) = x_755 := fx_755.symm
                  have ec_759 : x_678 = x_755 := c_682.symm.trans c_759
                  subst ec_759
                  refine g_istore_n C dX12_go_202 rfl (by decide) (lo2 := [(2, .int x_678), (1, .int x_676), (0, .ref x)]) rfl ?_
                  refine g_iconst C (v := 1) dX12_go_203 (by decide) ?_
                  refine g_istore_n C dX12_go_204 rfl (by decide) (lo2 := [(3, .int 1), (2, .int x_678), (1, .int x_676), (0, .ref x)]) rfl ?_
                  refine g_aload_n C 3 dX12_go_205 rfl rfl ?_
                  refine g_lconst C (v := 0) dX12_go_206 (by decide) ?_
                  refine h_putJ C K hLx hkx f_12_117 p_12_12 dX12_go_207 (fun J_760 hJ_760 => ?_)
                  have hG_761 := fq_puto hG_381 hJ_760 hkx (by decide) (by decide)
                  have hs_762 : MTq I_394 J_760 x b_2 = (MT_.w_word (MT_.w_frm s_387 (v_382)) (0)) := by rw [hJ_760]; exact ((mq_word wmqx).trans (congrArg (fun z : MT_ => MT_.w_word z (0)) hs_397)).trans rfl
                  refine g_aload_n C 3 dX12_go_210 rfl rfl ?_
                  refine g_iconst C (v := 0) dX12_go_211 (by decide) ?_
                  refine h_putI C K hLx hkx f_12_121 p_12_8 dX12_go_212 (fun I_763 hI_763 => ?_)
                  have hU_764 := iw_put W9 hU_395 hI_763 (ro_o hkx (by decide)) (lo := (-2147483648)) (hi := 2147483647) (rfl) (rg_all _) rfl
                  have hF_765 := fq_puto hF_396 hI_763 hkx (by decide) (by decide)
                  have hs_766 : MTq I_763 J_760 x b_2 = (MT_.w_number (MT_.w_word (MT_.w_frm s_387 (v_382)) (0)) (0)) := by rw [hI_763]; exact ((mq_number wmqx).trans (congrArg (fun z : MT_ => MT_.w_number z (0)) hs_762)).trans rfl
                  have u_767 := mrun_eq (lt := x_678) (g := 1) (m := (MT_.w_number (MT_.w_word (MT_.w_frm s_387 (v_382)) (0)) (0))) ((congrArg MT_.to hs_766).symm.trans (kp_j hI_763 (by decide) (kp_j hI_394 (by decide) q_383))) (rg_w r_673 (by decide) (by decide))
                  refine g_aload_n C 3 dX12_go_215 rfl rfl ?_
                  refine g_aload_n C 3 dX12_go_216 rfl rfl ?_
                  refine g_getI C K hLx hkx f_12_95 (v := v_382) (kp_j hI_763 (by decide) (kp_j hI_394 (by decide) q_383)) dX12_go_217 ?_
                  refine g_callVI C K (c_X12_tapeAt W9 hLx hkx v_382 (rg_w r_673 (by decide) (by decide)) hU_764) hLx hkx (by decide) rfl v_12_124 rfl ⟨rfl, rfl⟩ ⟨Nat.le_of_ble_eq_true rfl, Nat.le_of_ble_eq_true rfl⟩ (Nat.le_of_ble_eq_true rfl) ⟨Nat.le_of_ble_eq_true rfl, Nat.le_of_ble_eq_true rfl⟩ dX12_go_220 rfl (st := []) (fun x_768 I_769 J_770 h_771 => ?_)
                  obtain ⟨rfl, rfl, rx_768, fx_768, ex_768⟩ := h_771
                  have c_772 : mTapeAt (v_382) ((MT_.w_number (MT_.w_word (MT_.w_frm s_387 (v_382)) (0)) (0))) = x_768 := by have q := fx_768; simp only [emqx, hs_766] at q; exact q.symm
                  have r_773 := eq_rg ((ex_768.1 _ hb_2 (by rw [(kp_j hI_763 (by decide) (kp_j hI_394 (by decide) hx_391))]; exact h_675)).trans (kp_k (κ := κ) hI_763 (by rw [hb_2k, hkx]; decide) hx_676)) r_754
                  refine g_callSI C K (c_X12_isLetter W9 x_768  hU_764) s_12_107 rfl ⟨rfl, rfl⟩ ⟨Nat.le_of_ble_eq_true rfl, Nat.le_of_ble_eq_true rfl⟩ (Nat.le_of_ble_eq_true rfl) ⟨Nat.le_of_ble_eq_true rfl, Nat.le_of_ble_eq_true rfl⟩ dX12_go_223 rfl (st := []) (fun x_774 I_775 J_776 h_777 => ?_)
                  obtain ⟨rfl, rfl, rx_774, fx_774, ex_774⟩ := h_777
                  have c_778 : isLc (x_768) = x_774 := fx_774.symm
                  refine g_if_ne C (tgt := 243) dX12_go_226 (by decide) (fun h_779 => ?_) (fun h_779 => ?_)
                  · skip
                    have n_780 : ¬ x_774 = 0 := h_779
                    have r_781 := ne_lo (lo := 1) n_780 rx_774 rc_0 rfl (by decide)
                    have r_782 := rg_i r_773 ((ex_774.2) n_780) (lo := 97) (hi := 57) (by decide) (by decide)
                    exact rg_no r_782 (by decide)
                  · skip
                    have r_783 := (⟨(rx_774).1, (eq_rg (h_779) rc_0).2⟩ : Rg 0 0 x_774)
                    refine g_aload_n C 3 dX12_go_229 rfl rfl ?_
                    refine g_aload_n C 3 dX12_go_230 rfl rfl ?_
                    refine g_getI C K hLx hkx f_12_95 (v := v_382) (kp_j hI_763 (by decide) (kp_j hI_394 (by decide) q_383)) dX12_go_231 ?_
                    refine g_callVI C K (c_X12_tapeAt W9 hLx hkx v_382 (rg_w r_673 (by decide) (by decide)) hU_764) hLx hkx (by decide) rfl v_12_124 rfl ⟨rfl, rfl⟩ ⟨Nat.le_of_ble_eq_true rfl, Nat.le_of_ble_eq_true rfl⟩ (Nat.le_of_ble_eq_true rfl) ⟨Nat.le_of_ble_eq_true rfl, Nat.le_of_ble_eq_true rfl⟩ dX12_go_234 rfl (st := []) (fun x_784 I_785 J_786 h_787 => ?_)
                    obtain ⟨rfl, rfl, rx_784, fx_784, ex_784⟩ := h_787
                    have c_788 : mTapeAt (v_382) ((MT_.w_number (MT_.w_word (MT_.w_frm s_387 (v_382)) (0)) (0))) = x_784 := by have q := fx_784; simp only [emqx, hs_766] at q; exact q.symm
                    have ec_788 : x_768 = x_784 := c_772.symm.trans c_788
                    subst ec_788
                    refine g_callSI C K (c_X12_isDigit W9 x_768  hU_764) s_12_111 rfl ⟨rfl, rfl⟩ ⟨Nat.le_of_ble_eq_true rfl, Nat.le_of_ble_eq_true rfl⟩ (Nat.le_of_ble_eq_true rfl) ⟨Nat.le_of_ble_eq_true rfl, Nat.le_of_ble_eq_true rfl⟩ dX12_go_237 rfl (st := []) (fun x_789 I_790 J_791 h_792 => ?_)
                    obtain ⟨rfl, rfl, rx_789, fx_789, ex_789⟩ := h_792
                    have c_793 : isDc (x_768) = x_789 := fx_789.symm
                    have n_794 : ¬ x_789 = 0 := by rcases ex_789.1 with q | q | q; exact q; exact absurd q (by have := (r_773).1; omega); exact absurd q (by have := (r_773).2; omega)
                    have n_795 : ¬ x_789 = 0 := n_794
                    have r_796 := ne_lo (lo := 1) n_795 rx_789 rc_0 rfl (by decide)
                    refine g_if_eq C (tgt := 350) dX12_go_240 (by decide) (fun h_797 => ?_) (fun h_797 => ?_)
                    · skip
                      exact eq_no (h_797) r_796 rc_0 (by decide)
                    · skip
                      have n_798 : ¬ x_789 = 0 := h_797
                      refine g_aload_n C 3 dX12_go_243 rfl rfl ?_
                      refine g_getR C K hLx hkx f_12_7 hb_2 dX12_go_244 ?_
                      refine g_aload_n C 3 dX12_go_247 rfl rfl ?_
                      refine g_getI C K hLx hkx f_12_95 (v := v_382) (kp_j hI_763 (by decide) (kp_j hI_394 (by decide) q_383)) dX12_go_248 ?_
                      refine h_iald C K hb_2L hb_2k (v := x_676) (v_382.toNatClampNeg) (rfl) (ix_0 r_673 (by decide)) (ix_lt r_673 (by decide) hb_2n (by decide)) (kp_k (κ := κ) hI_763 (by rw [hb_2k, hkx]; decide) hx_676) dX12_go_251 ?_
                      refine g_istore C dX12_go_252 (by decide) (lo2 := [(4, .int x_676), (3, .int 1), (2, .int x_678), (1, .int x_676), (0, .ref x)]) rfl ?_
                      refine g_iload_n C 1 dX12_go_254 rfl rfl ?_
                      refine g_if_eq C (tgt := 271) dX12_go_255 (by decide) (fun h_800 => ?_) (fun h_800 => ?_)
                      · skip
                        exact absurd (h_800) (by decide)
                      · skip
                        refine g_iload C 0 dX12_go_258 rfl ?_
                        refine g_callSI C K (c_X12_isLetter W9 x_676  hU_764) s_12_107 rfl ⟨rfl, rfl⟩ ⟨Nat.le_of_ble_eq_true rfl, Nat.le_of_ble_eq_true rfl⟩ (Nat.le_of_ble_eq_true rfl) ⟨Nat.le_of_ble_eq_true rfl, Nat.le_of_ble_eq_true rfl⟩ dX12_go_260 rfl (st := []) (fun x_801 I_802 J_803 h_804 => ?_)
                        obtain ⟨rfl, rfl, rx_801, fx_801, ex_801⟩ := h_804
                        have c_805 : isLc (x_676) = x_801 := fx_801.symm
                        have ec_805 : x_678 = x_801 := c_682.symm.trans c_805
                        subst ec_805
                        refine g_iload_n C 2 dX12_go_263 rfl rfl ?_
                        refine g_icmp_ne C (tgt := 271) dX12_go_264 (by decide) (fun h_806 => ?_) (fun h_806 => ?_)
                        · skip
                          exact ne_no (h_806) r_745 r_745
                        · skip
                          refine g_iconst C (v := 1) dX12_go_267 (by decide) ?_
                          refine g_goto C (tgt := 272) dX12_go_268 (by decide) ?_
                          refine g_istore_n C dX12_go_272 rfl (by decide) (lo2 := [(3, .int 1), (4, .int x_676), (2, .int x_678), (1, .int x_676), (0, .ref x)]) rfl ?_
                          refine g_aload_n C 4 dX12_go_273 rfl rfl ?_
                          refine g_getI C K hLx hkx f_12_95 (v := v_382) (kp_j hI_763 (by decide) (kp_j hI_394 (by decide) q_383)) dX12_go_274 ?_
                          refine g_aload_n C 4 dX12_go_277 rfl rfl ?_
                          refine g_getI C K hLx hkx f_12_98 (v := v_382) (kp_j hI_763 (by decide) (kp_s hI_394)) dX12_go_278 ?_
                          refine g_isub C (v := 0) dX12_go_281 (Int32.sub_self _) ?_
                          refine g_bipush C (v := 7) dX12_go_282 (by decide) ?_
                          refine g_icmp_ge C (tgt := 307) dX12_go_284 (by decide) (fun h_807 => ?_) (fun h_807 => ?_)
                          · skip
                            exact absurd (h_807) (by decide)
                          · skip
                            refine g_aload_n C 4 dX12_go_287 rfl rfl ?_
                            refine g_ldc2 C kl_128 dX12_go_288 ?_
                            refine g_aload_n C 4 dX12_go_291 rfl rfl ?_
                            obtain ⟨y_808, hy_808⟩ : ∃ z, J_760 x 12 = z := ⟨_, rfl⟩
                            refine g_getJ C K hLx hkx f_12_117 (v := y_808) hy_808 dX12_go_292 ?_
                            refine g_lmulE C dX12_go_295 (fun y_809 hy_809 => ?_)
                            refine g_iload C 1 dX12_go_296 rfl ?_
                            obtain ⟨y_810, hy_810⟩ : ∃ z, Int32.toInt64 x_676 = z := ⟨_, rfl⟩
                            refine g_i2l C (v := y_810) dX12_go_298 hy_810 ?_
                            refine g_laddE C dX12_go_299 (fun y_811 hy_811 => ?_)
                            refine g_ldc2 C kl_130 dX12_go_300 ?_
                            refine g_lsubE C dX12_go_303 (fun y_812 hy_812 => ?_)
                            refine h_putJ C K hLx hkx f_12_117 p_12_12 dX12_go_304 (fun J_813 hJ_813 => ?_)
                            have hG_814 := fq_puto hG_761 hJ_813 hkx (by decide) (by decide)
                            have hs_815 : MTq I_763 J_813 x b_2 = (MT_.w_word (MT_.w_number (MT_.w_frm s_387 (v_382)) (0)) (y_812)) := by rw [hJ_813]; exact ((mq_word wmqx).trans (congrArg (fun z : MT_ => MT_.w_word z (y_812)) hs_766)).trans rfl
                            refine g_aload_n C 4 dX12_go_307 rfl rfl ?_
                            refine g_getI C K hLx hkx f_12_95 (v := v_382) (kp_j hI_763 (by decide) (kp_j hI_394 (by decide) q_383)) dX12_go_308 ?_
                            refine g_aload_n C 4 dX12_go_311 rfl rfl ?_
                            refine g_getI C K hLx hkx f_12_98 (v := v_382) (kp_j hI_763 (by decide) (kp_s hI_394)) dX12_go_312 ?_
                            refine g_isub C (v := 0) dX12_go_315 (Int32.sub_self _) ?_
                            refine g_iconst C (v := 3) dX12_go_316 (by decide) ?_
                            refine g_icmp_ge C (tgt := 337) dX12_go_317 (by decide) (fun h_816 => ?_) (fun h_816 => ?_)
                            · skip
                              exact absurd (h_816) (by decide)
                            · skip
                              refine g_aload_n C 4 dX12_go_320 rfl rfl ?_
                              refine g_bipush C (v := 10) dX12_go_321 (by decide) ?_
                              refine g_aload_n C 4 dX12_go_323 rfl rfl ?_
                              refine g_getI C K hLx hkx f_12_121 (v := 0) (kp_s hI_763) dX12_go_324 ?_
                              refine g_imul C (v := 0) dX12_go_327 (by decide) ?_
                              refine g_iload C 1 dX12_go_328 rfl ?_
                              obtain ⟨x_817, hx_817, rx_817, tx_817⟩ := ex_add 48 57 rc_0 r_754 (by decide) (by decide) (by decide) (by decide)
                              refine g_iadd C (v := x_817) dX12_go_330 hx_817 ?_
                              refine g_bipush C (v := 48) dX12_go_331 (by decide) ?_
                              obtain ⟨x_818, hx_818, rx_818, tx_818⟩ := ex_sub 0 9 rx_817 rc_48 (by decide) (by decide) (by decide) (by decide)
                              refine g_isub C (v := x_818) dX12_go_333 hx_818 ?_
                              refine h_putI C K hLx hkx f_12_121 p_12_8 dX12_go_334 (fun I_819 hI_819 => ?_)
                              have hU_820 := iw_put W9 hU_764 hI_819 (ro_o hkx (by decide)) (lo := (-2147483648)) (hi := 2147483647) (rfl) (rg_all _) rfl
                              have hF_821 := fq_puto hF_765 hI_819 hkx (by decide) (by decide)
                              have hs_822 : MTq I_819 J_813 x b_2 = (MT_.w_number (MT_.w_word (MT_.w_frm s_387 (v_382)) (y_812)) (x_818)) := by rw [hI_819]; exact ((mq_number wmqx).trans (congrArg (fun z : MT_ => MT_.w_number z (x_818)) hs_815)).trans rfl
                              refine g_aload_n C 4 dX12_go_337 rfl rfl ?_
                              refine g_dup C dX12_go_338 rfl ?_
                              refine g_getI C K hLx hkx f_12_95 (v := v_382) (kp_j hI_819 (by decide) (kp_j hI_763 (by decide) (kp_j hI_394 (by decide) q_383))) dX12_go_339 ?_
                              refine g_iconst C (v := 1) dX12_go_342 (by decide) ?_
                              obtain ⟨x_823, hx_823, rx_823, tx_823⟩ := ex_add 1 900 r_673 rc_1 (by decide) (by decide) (by decide) (by decide)
                              refine g_iadd C (v := x_823) dX12_go_343 hx_823 ?_
                              refine h_putI C K hLx hkx f_12_95 p_12_5 dX12_go_344 (fun I_824 hI_824 => ?_)
                              have hU_825 := iw_put W9 hU_820 hI_824 (ro_o hkx (by decide)) (lo := 0) (hi := 940) (rfl) (rg_w rx_823 (by decide) (by decide)) rfl
                              have hF_826 := fq_puto hF_821 hI_824 hkx (by decide) (by decide)
                              have hs_827 : MTq I_824 J_813 x b_2 = (MT_.w_to (MT_.w_number (MT_.w_word (MT_.w_frm s_387 (v_382)) (y_812)) (x_818)) (x_823)) := by rw [hI_824]; exact ((mq_to wmqx).trans (congrArg (fun z : MT_ => MT_.w_to z (x_823)) hs_822)).trans rfl
                              refine g_goto C (tgt := 215) dX12_go_347 (by decide) ?_
                              refine g_lo (is := [4, 3, 2, 0, 1]) (lo2 := [(0, .ref x), (1, .int x_676), (2, .int x_678), (3, .int 1), (4, .int x_676)]) rfl ?_
                              exact l_215 940 I_824 J_813 hU_825 hF_826 hG_814 x_676 (rg_w r_754 (by decide) (by decide)) (rg_nek r_754 rc_10 (by decide)) (rg_nek r_754 rc_32 (by decide)) x_678 (rg_w r_745 (by decide) (by decide)) 1 (rg_w rc_1 (by decide) (by decide)) x_676 (rg_w r_754 (by decide) (by decide)) x_391 (r_671) x_398 (rg_w r_674 (by decide) (by decide)) x_823 (rg_w rx_823 (by decide) (by decide)) v_382 (r_673) x_818 (kp_j hI_824 (by decide) (kp_j hI_819 (by decide) (kp_j hI_763 (by decide) (kp_j hI_394 (by decide) hx_391)))) (kp_j hI_824 (by decide) (kp_j hI_819 (by decide) (kp_j hI_763 (by decide) hx_398))) (kp_s hI_824) (kp_j hI_824 (by decide) (kp_j hI_819 (by decide) (kp_j hI_763 (by decide) (kp_s hI_394)))) (kp_j hI_824 (by decide) (kp_s hI_819)) (by (try simp only [f_390, hx_391, f_392, h_393, hx_398, f_399, h_400, (nle h_400), h_672, h_675, hx_676, f_677, c_682, (eq_true h_683), c_750, h_751, c_778, (eq_true h_779), c_793, h_797, h_800, (eq_true h_806), h_807, (nle h_807), hy_808, hy_809, hy_810, hy_811, hy_812, h_816, (nle h_816), hx_817, hx_818, hx_823, if_true, if_false, mqM_tp, mqM_size, mqM_limit, mqM_to, mqM_frm, mqM_kind, mqM_number, mqM_sign, mqM_word, MT_.w_tp, MT_.w_size, MT_.w_limit, MT_.w_to, MT_.w_frm, MT_.w_kind, MT_.w_number, MT_.w_sign, MT_.w_word] at hQ_388); (try simp only [f_390, hx_391, f_392, h_393, hx_398, f_399, h_400, (nle h_400), h_672, h_675, hx_676, f_677, c_682, (eq_true h_683), c_750, h_751, c_778, (eq_true h_779), c_793, h_797, h_800, (eq_true h_806), h_807, (nle h_807), hy_808, hy_809, hy_810, hy_811, hy_812, h_816, (nle h_816), hx_817, hx_818, hx_823, if_true, if_false, mqM_tp, mqM_size, mqM_limit, mqM_to, mqM_frm, mqM_kind, mqM_number, mqM_sign, mqM_word, MT_.w_tp, MT_.w_size, MT_.w_limit, MT_.w_to, MT_.w_frm, MT_.w_kind, MT_.w_number, MT_.w_sign, MT_.w_word] at u_389); (try simp only [f_390, hx_391, f_392, h_393, hx_398, f_399, h_400, (nle h_400), h_672, h_675, hx_676, f_677, c_682, (eq_true h_683), c_750, h_751, c_778, (eq_true h_779), c_793, h_797, h_800, (eq_true h_806), h_807, (nle h_807), hy_808, hy_809, hy_810, hy_811, hy_812, h_816, (nle h_816), hx_817, hx_818, hx_823, if_true, if_false, mqM_tp, mqM_size, mqM_limit, mqM_to, mqM_frm, mqM_kind, mqM_number, mqM_sign, mqM_word, MT_.w_tp, MT_.w_size, MT_.w_limit, MT_.w_to, MT_.w_frm, MT_.w_kind, MT_.w_number, MT_.w_sign, MT_.w_word] at u_767); (try simp only [f_390, hx_391, f_392, h_393, hx_398, f_399, h_400, (nle h_400), h_672, h_675, hx_676, f_677, c_682, (eq_true h_683), c_750, h_751, c_778, (eq_true h_779), c_793, h_797, h_800, (eq_true h_806), h_807, (nle h_807), hy_808, hy_809, hy_810, hy_811, hy_812, h_816, (nle h_816), hx_817, hx_818, hx_823, if_true, if_false, mqM_tp, mqM_size, mqM_limit, mqM_to, mqM_frm, mqM_kind, mqM_number, mqM_sign, mqM_word, MT_.w_tp, MT_.w_size, MT_.w_limit, MT_.w_to, MT_.w_frm, MT_.w_kind, MT_.w_number, MT_.w_sign, MT_.w_word] at c_772); simp only [mGo, mGo2, mGo3, mGoE, mSg, mStep, mGood, emqx, hs_827, hs_3, hQ_388, f_390, u_389, hx_391, f_392, h_393, hx_398, f_399, h_400, (nle h_400), h_672, h_675, hx_676, f_677, c_682, (eq_true h_683), c_750, h_751, u_767, c_772, c_778, (eq_true h_779), c_793, h_797, h_800, (eq_true h_806), h_807, (nle h_807), hy_808, hy_809, hy_810, hy_811, hy_812, h_816, (nle h_816), hx_817, hx_818, hx_823, if_true, if_false, mqM_tp, mqM_size, mqM_limit, mqM_to, mqM_frm, mqM_kind, mqM_number, mqM_sign, mqM_word, MT_.w_tp, MT_.w_size, MT_.w_limit, MT_.w_to, MT_.w_frm, MT_.w_kind, MT_.w_number, MT_.w_sign, MT_.w_word]) (by have := hj_385; have := (ti_k tx_823 rc_1); omega) (ms_s (a := 1) (b := 940) (N := 940) (rg_w rx_823 (by decide) (by decide)) (by decide))
                · skip
                  have r_828 := (⟨(rx_746).1, (eq_rg (h_751) rc_0).2⟩ : Rg 0 0 x_746)
                  refine g_aload_n C 1 dX12_go_137 rfl rfl ?_
                  refine g_iload_n C 0 dX12_go_138 rfl rfl ?_
                  refine g_bipush C (v := 59) dX12_go_139 (by decide) ?_
                  refine g_icmp_eq C (tgt := 174) dX12_go_141 (by decide) (fun h_829 => ?_) (fun h_829 => ?_)
                  · skip
                    have r_830 := (⟨(eq_rg (h_829) rc_59).1, (eq_rg (h_829) rc_59).2⟩ : Rg 59 59 x_676)
                    refine g_iconst C (v := 4) dX12_go_174 (by decide) ?_
                    refine g_goto C (tgt := 179) dX12_go_175 (by decide) ?_
                    refine h_putI C K hLx hkx f_12_104 p_12_7 dX12_go_179 (fun I_831 hI_831 => ?_)
                    have hU_832 := iw_put W9 hU_395 hI_831 (ro_o hkx (by decide)) (lo := 0) (hi := 4) (rfl) (rg_w rc_4 (by decide) (by decide)) rfl
                    have hF_833 := fq_puto hF_396 hI_831 hkx (by decide) (by decide)
                    have hs_834 : MTq I_831 J_378 x b_2 = (MT_.w_kind (MT_.w_frm s_387 (v_382)) (4)) := by rw [hI_831]; exact ((mq_kind wmqx).trans (congrArg (fun z : MT_ => MT_.w_kind z (4)) hs_397)).trans rfl
                    refine g_aload_n C 1 dX12_go_182 rfl rfl ?_
                    refine g_iload_n C 0 dX12_go_183 rfl rfl ?_
                    refine h_putI C K hLx hkx f_12_114 p_12_9 dX12_go_184 (fun I_835 hI_835 => ?_)
                    have hU_836 := iw_put W9 hU_832 hI_835 (ro_o hkx (by decide)) (lo := (-2147483648)) (hi := 2147483647) (rfl) (rg_all _) rfl
                    have hF_837 := fq_puto hF_833 hI_835 hkx (by decide) (by decide)
                    have hs_838 : MTq I_835 J_378 x b_2 = (MT_.w_sign (MT_.w_kind (MT_.w_frm s_387 (v_382)) (4)) (x_676)) := by rw [hI_835]; exact ((mq_sign wmqx).trans (congrArg (fun z : MT_ => MT_.w_sign z (x_676)) hs_834)).trans rfl
                    refine g_aload_n C 1 dX12_go_187 rfl rfl ?_
                    refine g_dup C dX12_go_188 rfl ?_
                    refine g_getI C K hLx hkx f_12_95 (v := v_382) (kp_j hI_835 (by decide) (kp_j hI_831 (by decide) (kp_j hI_394 (by decide) q_383))) dX12_go_189 ?_
                    refine g_iconst C (v := 1) dX12_go_192 (by decide) ?_
                    obtain ⟨x_839, hx_839, rx_839, tx_839⟩ := ex_add 1 900 r_673 rc_1 (by decide) (by decide) (by decide) (by decide)
                    refine g_iadd C (v := x_839) dX12_go_193 hx_839 ?_
                    refine h_putI C K hLx hkx f_12_95 p_12_5 dX12_go_194 (fun I_840 hI_840 => ?_)
                    have hU_841 := iw_put W9 hU_836 hI_840 (ro_o hkx (by decide)) (lo := 0) (hi := 940) (rfl) (rg_w rx_839 (by decide) (by decide)) rfl
                    have hF_842 := fq_puto hF_837 hI_840 hkx (by decide) (by decide)
                    have hs_843 : MTq I_840 J_378 x b_2 = (MT_.w_to (MT_.w_sign (MT_.w_kind (MT_.w_frm s_387 (v_382)) (4)) (x_676)) (x_839)) := by rw [hI_840]; exact ((mq_to wmqx).trans (congrArg (fun z : MT_ => MT_.w_to z (x_839)) hs_838)).trans rfl
                    exact g_vret B K rfl ⟨hU_841, hF_842, hG_381, (by (try simp only [f_390, hx_391, f_392, h_393, hx_398, f_399, h_400, (nle h_400), h_672, h_675, hx_676, f_677, c_682, (eq_true h_683), c_750, (eq_true h_751), (eq_true h_829), hx_839, if_true, if_false, mqM_tp, mqM_size, mqM_limit, mqM_to, mqM_frm, mqM_kind, mqM_number, mqM_sign, mqM_word, MT_.w_tp, MT_.w_size, MT_.w_limit, MT_.w_to, MT_.w_frm, MT_.w_kind, MT_.w_number, MT_.w_sign, MT_.w_word] at hQ_388); (try simp only [f_390, hx_391, f_392, h_393, hx_398, f_399, h_400, (nle h_400), h_672, h_675, hx_676, f_677, c_682, (eq_true h_683), c_750, (eq_true h_751), (eq_true h_829), hx_839, if_true, if_false, mqM_tp, mqM_size, mqM_limit, mqM_to, mqM_frm, mqM_kind, mqM_number, mqM_sign, mqM_word, MT_.w_tp, MT_.w_size, MT_.w_limit, MT_.w_to, MT_.w_frm, MT_.w_kind, MT_.w_number, MT_.w_sign, MT_.w_word] at u_389); simp only [mGo, mGo2, mGo3, mGoE, mSg, mStep, mGood, emqx, hs_843, hs_3, hQ_388, f_390, u_389, hx_391, f_392, h_393, hx_398, f_399, h_400, (nle h_400), h_672, h_675, hx_676, f_677, c_682, (eq_true h_683), c_750, (eq_true h_751), (eq_true h_829), hx_839, if_true, if_false, mqM_tp, mqM_size, mqM_limit, mqM_to, mqM_frm, mqM_kind, mqM_number, mqM_sign, mqM_word, MT_.w_tp, MT_.w_size, MT_.w_limit, MT_.w_to, MT_.w_frm, MT_.w_kind, MT_.w_number, MT_.w_sign, MT_.w_word]), (ps_mk hx_1 (kp_s hI_840) (kp_j hI_840 (by decide) (kp_j hI_835 (by decide) (kp_s hI_831))) (Int.le_of_lt (by have := hj_385; have := (ti_k tx_839 rc_1); omega)) (Or.inl (by have := hj_385; have := (ti_k tx_839 rc_1); omega)))⟩ dX12_go_197
                  · skip
                    have n_844 : ¬ x_676 = 59 := h_829
                    refine g_iload_n C 0 dX12_go_144 rfl rfl ?_
                    refine g_bipush C (v := 60) dX12_go_145 (by decide) ?_
                    refine g_icmp_eq C (tgt := 174) dX12_go_147 (by decide) (fun h_845 => ?_) (fun h_845 => ?_)
                    · skip
                      have r_846 := (⟨(eq_rg (h_845) rc_60).1, (eq_rg (h_845) rc_60).2⟩ : Rg 60 60 x_676)
                      refine g_iconst C (v := 4) dX12_go_174 (by decide) ?_
                      refine g_goto C (tgt := 179) dX12_go_175 (by decide) ?_
                      refine h_putI C K hLx hkx f_12_104 p_12_7 dX12_go_179 (fun I_847 hI_847 => ?_)
                      have hU_848 := iw_put W9 hU_395 hI_847 (ro_o hkx (by decide)) (lo := 0) (hi := 4) (rfl) (rg_w rc_4 (by decide) (by decide)) rfl
                      have hF_849 := fq_puto hF_396 hI_847 hkx (by decide) (by decide)
                      have hs_850 : MTq I_847 J_378 x b_2 = (MT_.w_kind (MT_.w_frm s_387 (v_382)) (4)) := by rw [hI_847]; exact ((mq_kind wmqx).trans (congrArg (fun z : MT_ => MT_.w_kind z (4)) hs_397)).trans rfl
                      refine g_aload_n C 1 dX12_go_182 rfl rfl ?_
                      refine g_iload_n C 0 dX12_go_183 rfl rfl ?_
                      refine h_putI C K hLx hkx f_12_114 p_12_9 dX12_go_184 (fun I_851 hI_851 => ?_)
                      have hU_852 := iw_put W9 hU_848 hI_851 (ro_o hkx (by decide)) (lo := (-2147483648)) (hi := 2147483647) (rfl) (rg_all _) rfl
                      have hF_853 := fq_puto hF_849 hI_851 hkx (by decide) (by decide)
                      have hs_854 : MTq I_851 J_378 x b_2 = (MT_.w_sign (MT_.w_kind (MT_.w_frm s_387 (v_382)) (4)) (x_676)) := by rw [hI_851]; exact ((mq_sign wmqx).trans (congrArg (fun z : MT_ => MT_.w_sign z (x_676)) hs_850)).trans rfl
                      refine g_aload_n C 1 dX12_go_187 rfl rfl ?_
                      refine g_dup C dX12_go_188 rfl ?_
                      refine g_getI C K hLx hkx f_12_95 (v := v_382) (kp_j hI_851 (by decide) (kp_j hI_847 (by decide) (kp_j hI_394 (by decide) q_383))) dX12_go_189 ?_
                      refine g_iconst C (v := 1) dX12_go_192 (by decide) ?_
                      obtain ⟨x_855, hx_855, rx_855, tx_855⟩ := ex_add 1 900 r_673 rc_1 (by decide) (by decide) (by decide) (by decide)
                      refine g_iadd C (v := x_855) dX12_go_193 hx_855 ?_
                      refine h_putI C K hLx hkx f_12_95 p_12_5 dX12_go_194 (fun I_856 hI_856 => ?_)
                      have hU_857 := iw_put W9 hU_852 hI_856 (ro_o hkx (by decide)) (lo := 0) (hi := 940) (rfl) (rg_w rx_855 (by decide) (by decide)) rfl
                      have hF_858 := fq_puto hF_853 hI_856 hkx (by decide) (by decide)
                      have hs_859 : MTq I_856 J_378 x b_2 = (MT_.w_to (MT_.w_sign (MT_.w_kind (MT_.w_frm s_387 (v_382)) (4)) (x_676)) (x_855)) := by rw [hI_856]; exact ((mq_to wmqx).trans (congrArg (fun z : MT_ => MT_.w_to z (x_855)) hs_854)).trans rfl
                      exact g_vret B K rfl ⟨hU_857, hF_858, hG_381, (by (try simp only [f_390, hx_391, f_392, h_393, hx_398, f_399, h_400, (nle h_400), h_672, h_675, hx_676, f_677, c_682, (eq_true h_683), c_750, (eq_true h_751), h_829, (eq_true h_845), hx_855, if_true, if_false, mqM_tp, mqM_size, mqM_limit, mqM_to, mqM_frm, mqM_kind, mqM_number, mqM_sign, mqM_word, MT_.w_tp, MT_.w_size, MT_.w_limit, MT_.w_to, MT_.w_frm, MT_.w_kind, MT_.w_number, MT_.w_sign, MT_.w_word] at hQ_388); (try simp only [f_390, hx_391, f_392, h_393, hx_398, f_399, h_400, (nle h_400), h_672, h_675, hx_676, f_677, c_682, (eq_true h_683), c_750, (eq_true h_751), h_829, (eq_true h_845), hx_855, if_true, if_false, mqM_tp, mqM_size, mqM_limit, mqM_to, mqM_frm, mqM_kind, mqM_number, mqM_sign, mqM_word, MT_.w_tp, MT_.w_size, MT_.w_limit, MT_.w_to, MT_.w_frm, MT_.w_kind, MT_.w_number, MT_.w_sign, MT_.w_word] at u_389); simp only [mGo, mGo2, mGo3, mGoE, mSg, mStep, mGood, emqx, hs_859, hs_3, hQ_388, f_390, u_389, hx_391, f_392, h_393, hx_398, f_399, h_400, (nle h_400), h_672, h_675, hx_676, f_677, c_682, (eq_true h_683), c_750, (eq_true h_751), h_829, (eq_true h_845), hx_855, if_true, if_false, mqM_tp, mqM_size, mqM_limit, mqM_to, mqM_frm, mqM_kind, mqM_number, mqM_sign, mqM_word, MT_.w_tp, MT_.w_size, MT_.w_limit, MT_.w_to, MT_.w_frm, MT_.w_kind, MT_.w_number, MT_.w_sign, MT_.w_word]), (ps_mk hx_1 (kp_s hI_856) (kp_j hI_856 (by decide) (kp_j hI_851 (by decide) (kp_s hI_847))) (Int.le_of_lt (by have := hj_385; have := (ti_k tx_855 rc_1); omega)) (Or.inl (by have := hj_385; have := (ti_k tx_855 rc_1); omega)))⟩ dX12_go_197
                    · skip
                      have n_860 : ¬ x_676 = 60 := h_845
                      refine g_iload_n C 0 dX12_go_150 rfl rfl ?_
                      refine g_bipush C (v := 61) dX12_go_151 (by decide) ?_
                      refine g_icmp_eq C (tgt := 174) dX12_go_153 (by decide) (fun h_861 => ?_) (fun h_861 => ?_)
                      · skip
                        have r_862 := (⟨(eq_rg (h_861) rc_61).1, (eq_rg (h_861) rc_61).2⟩ : Rg 61 61 x_676)
                        refine g_iconst C (v := 4) dX12_go_174 (by decide) ?_
                        refine g_goto C (tgt := 179) dX12_go_175 (by decide) ?_
                        refine h_putI C K hLx hkx f_12_104 p_12_7 dX12_go_179 (fun I_863 hI_863 => ?_)
                        have hU_864 := iw_put W9 hU_395 hI_863 (ro_o hkx (by decide)) (lo := 0) (hi := 4) (rfl) (rg_w rc_4 (by decide) (by decide)) rfl
                        have hF_865 := fq_puto hF_396 hI_863 hkx (by decide) (by decide)
                        have hs_866 : MTq I_863 J_378 x b_2 = (MT_.w_kind (MT_.w_frm s_387 (v_382)) (4)) := by rw [hI_863]; exact ((mq_kind wmqx).trans (congrArg (fun z : MT_ => MT_.w_kind z (4)) hs_397)).trans rfl
                        refine g_aload_n C 1 dX12_go_182 rfl rfl ?_
                        refine g_iload_n C 0 dX12_go_183 rfl rfl ?_
                        refine h_putI C K hLx hkx f_12_114 p_12_9 dX12_go_184 (fun I_867 hI_867 => ?_)
                        have hU_868 := iw_put W9 hU_864 hI_867 (ro_o hkx (by decide)) (lo := (-2147483648)) (hi := 2147483647) (rfl) (rg_all _) rfl
                        have hF_869 := fq_puto hF_865 hI_867 hkx (by decide) (by decide)
                        have hs_870 : MTq I_867 J_378 x b_2 = (MT_.w_sign (MT_.w_kind (MT_.w_frm s_387 (v_382)) (4)) (x_676)) := by rw [hI_867]; exact ((mq_sign wmqx).trans (congrArg (fun z : MT_ => MT_.w_sign z (x_676)) hs_866)).trans rfl
                        refine g_aload_n C 1 dX12_go_187 rfl rfl ?_
                        refine g_dup C dX12_go_188 rfl ?_
                        refine g_getI C K hLx hkx f_12_95 (v := v_382) (kp_j hI_867 (by decide) (kp_j hI_863 (by decide) (kp_j hI_394 (by decide) q_383))) dX12_go_189 ?_
                        refine g_iconst C (v := 1) dX12_go_192 (by decide) ?_
                        obtain ⟨x_871, hx_871, rx_871, tx_871⟩ := ex_add 1 900 r_673 rc_1 (by decide) (by decide) (by decide) (by decide)
                        refine g_iadd C (v := x_871) dX12_go_193 hx_871 ?_
                        refine h_putI C K hLx hkx f_12_95 p_12_5 dX12_go_194 (fun I_872 hI_872 => ?_)
                        have hU_873 := iw_put W9 hU_868 hI_872 (ro_o hkx (by decide)) (lo := 0) (hi := 940) (rfl) (rg_w rx_871 (by decide) (by decide)) rfl
                        have hF_874 := fq_puto hF_869 hI_872 hkx (by decide) (by decide)
                        have hs_875 : MTq I_872 J_378 x b_2 = (MT_.w_to (MT_.w_sign (MT_.w_kind (MT_.w_frm s_387 (v_382)) (4)) (x_676)) (x_871)) := by rw [hI_872]; exact ((mq_to wmqx).trans (congrArg (fun z : MT_ => MT_.w_to z (x_871)) hs_870)).trans rfl
                        exact g_vret B K rfl ⟨hU_873, hF_874, hG_381, (by (try simp only [f_390, hx_391, f_392, h_393, hx_398, f_399, h_400, (nle h_400), h_672, h_675, hx_676, f_677, c_682, (eq_true h_683), c_750, (eq_true h_751), h_829, h_845, (eq_true h_861), hx_871, if_true, if_false, mqM_tp, mqM_size, mqM_limit, mqM_to, mqM_frm, mqM_kind, mqM_number, mqM_sign, mqM_word, MT_.w_tp, MT_.w_size, MT_.w_limit, MT_.w_to, MT_.w_frm, MT_.w_kind, MT_.w_number, MT_.w_sign, MT_.w_word] at hQ_388); (try simp only [f_390, hx_391, f_392, h_393, hx_398, f_399, h_400, (nle h_400), h_672, h_675, hx_676, f_677, c_682, (eq_true h_683), c_750, (eq_true h_751), h_829, h_845, (eq_true h_861), hx_871, if_true, if_false, mqM_tp, mqM_size, mqM_limit, mqM_to, mqM_frm, mqM_kind, mqM_number, mqM_sign, mqM_word, MT_.w_tp, MT_.w_size, MT_.w_limit, MT_.w_to, MT_.w_frm, MT_.w_kind, MT_.w_number, MT_.w_sign, MT_.w_word] at u_389); simp only [mGo, mGo2, mGo3, mGoE, mSg, mStep, mGood, emqx, hs_875, hs_3, hQ_388, f_390, u_389, hx_391, f_392, h_393, hx_398, f_399, h_400, (nle h_400), h_672, h_675, hx_676, f_677, c_682, (eq_true h_683), c_750, (eq_true h_751), h_829, h_845, (eq_true h_861), hx_871, if_true, if_false, mqM_tp, mqM_size, mqM_limit, mqM_to, mqM_frm, mqM_kind, mqM_number, mqM_sign, mqM_word, MT_.w_tp, MT_.w_size, MT_.w_limit, MT_.w_to, MT_.w_frm, MT_.w_kind, MT_.w_number, MT_.w_sign, MT_.w_word]), (ps_mk hx_1 (kp_s hI_872) (kp_j hI_872 (by decide) (kp_j hI_867 (by decide) (kp_s hI_863))) (Int.le_of_lt (by have := hj_385; have := (ti_k tx_871 rc_1); omega)) (Or.inl (by have := hj_385; have := (ti_k tx_871 rc_1); omega)))⟩ dX12_go_197
                      · skip
                        have n_876 : ¬ x_676 = 61 := h_861
                        refine g_iload_n C 0 dX12_go_156 rfl rfl ?_
                        refine g_bipush C (v := 62) dX12_go_157 (by decide) ?_
                        refine g_icmp_eq C (tgt := 174) dX12_go_159 (by decide) (fun h_877 => ?_) (fun h_877 => ?_)
                        · skip
                          have r_878 := (⟨(eq_rg (h_877) rc_62).1, (eq_rg (h_877) rc_62).2⟩ : Rg 62 62 x_676)
                          refine g_iconst C (v := 4) dX12_go_174 (by decide) ?_
                          refine g_goto C (tgt := 179) dX12_go_175 (by decide) ?_
                          refine h_putI C K hLx hkx f_12_104 p_12_7 dX12_go_179 (fun I_879 hI_879 => ?_)
                          have hU_880 := iw_put W9 hU_395 hI_879 (ro_o hkx (by decide)) (lo := 0) (hi := 4) (rfl) (rg_w rc_4 (by decide) (by decide)) rfl
                          have hF_881 := fq_puto hF_396 hI_879 hkx (by decide) (by decide)
                          have hs_882 : MTq I_879 J_378 x b_2 = (MT_.w_kind (MT_.w_frm s_387 (v_382)) (4)) := by rw [hI_879]; exact ((mq_kind wmqx).trans (congrArg (fun z : MT_ => MT_.w_kind z (4)) hs_397)).trans rfl
                          refine g_aload_n C 1 dX12_go_182 rfl rfl ?_
                          refine g_iload_n C 0 dX12_go_183 rfl rfl ?_
                          refine h_putI C K hLx hkx f_12_114 p_12_9 dX12_go_184 (fun I_883 hI_883 => ?_)
                          have hU_884 := iw_put W9 hU_880 hI_883 (ro_o hkx (by decide)) (lo := (-2147483648)) (hi := 2147483647) (rfl) (rg_all _) rfl
                          have hF_885 := fq_puto hF_881 hI_883 hkx (by decide) (by decide)
                          have hs_886 : MTq I_883 J_378 x b_2 = (MT_.w_sign (MT_.w_kind (MT_.w_frm s_387 (v_382)) (4)) (x_676)) := by rw [hI_883]; exact ((mq_sign wmqx).trans (congrArg (fun z : MT_ => MT_.w_sign z (x_676)) hs_882)).trans rfl
                          refine g_aload_n C 1 dX12_go_187 rfl rfl ?_
                          refine g_dup C dX12_go_188 rfl ?_
                          refine g_getI C K hLx hkx f_12_95 (v := v_382) (kp_j hI_883 (by decide) (kp_j hI_879 (by decide) (kp_j hI_394 (by decide) q_383))) dX12_go_189 ?_
                          refine g_iconst C (v := 1) dX12_go_192 (by decide) ?_
                          obtain ⟨x_887, hx_887, rx_887, tx_887⟩ := ex_add 1 900 r_673 rc_1 (by decide) (by decide) (by decide) (by decide)
                          refine g_iadd C (v := x_887) dX12_go_193 hx_887 ?_
                          refine h_putI C K hLx hkx f_12_95 p_12_5 dX12_go_194 (fun I_888 hI_888 => ?_)
                          have hU_889 := iw_put W9 hU_884 hI_888 (ro_o hkx (by decide)) (lo := 0) (hi := 940) (rfl) (rg_w rx_887 (by decide) (by decide)) rfl
                          have hF_890 := fq_puto hF_885 hI_888 hkx (by decide) (by decide)
                          have hs_891 : MTq I_888 J_378 x b_2 = (MT_.w_to (MT_.w_sign (MT_.w_kind (MT_.w_frm s_387 (v_382)) (4)) (x_676)) (x_887)) := by rw [hI_888]; exact ((mq_to wmqx).trans (congrArg (fun z : MT_ => MT_.w_to z (x_887)) hs_886)).trans rfl
                          exact g_vret B K rfl ⟨hU_889, hF_890, hG_381, (by (try simp only [f_390, hx_391, f_392, h_393, hx_398, f_399, h_400, (nle h_400), h_672, h_675, hx_676, f_677, c_682, (eq_true h_683), c_750, (eq_true h_751), h_829, h_845, h_861, (eq_true h_877), hx_887, if_true, if_false, mqM_tp, mqM_size, mqM_limit, mqM_to, mqM_frm, mqM_kind, mqM_number, mqM_sign, mqM_word, MT_.w_tp, MT_.w_size, MT_.w_limit, MT_.w_to, MT_.w_frm, MT_.w_kind, MT_.w_number, MT_.w_sign, MT_.w_word] at hQ_388); (try simp only [f_390, hx_391, f_392, h_393, hx_398, f_399, h_400, (nle h_400), h_672, h_675, hx_676, f_677, c_682, (eq_true h_683), c_750, (eq_true h_751), h_829, h_845, h_861, (eq_true h_877), hx_887, if_true, if_false, mqM_tp, mqM_size, mqM_limit, mqM_to, mqM_frm, mqM_kind, mqM_number, mqM_sign, mqM_word, MT_.w_tp, MT_.w_size, MT_.w_limit, MT_.w_to, MT_.w_frm, MT_.w_kind, MT_.w_number, MT_.w_sign, MT_.w_word] at u_389); simp only [mGo, mGo2, mGo3, mGoE, mSg, mStep, mGood, emqx, hs_891, hs_3, hQ_388, f_390, u_389, hx_391, f_392, h_393, hx_398, f_399, h_400, (nle h_400), h_672, h_675, hx_676, f_677, c_682, (eq_true h_683), c_750, (eq_true h_751), h_829, h_845, h_861, (eq_true h_877), hx_887, if_true, if_false, mqM_tp, mqM_size, mqM_limit, mqM_to, mqM_frm, mqM_kind, mqM_number, mqM_sign, mqM_word, MT_.w_tp, MT_.w_size, MT_.w_limit, MT_.w_to, MT_.w_frm, MT_.w_kind, MT_.w_number, MT_.w_sign, MT_.w_word]), (ps_mk hx_1 (kp_s hI_888) (kp_j hI_888 (by decide) (kp_j hI_883 (by decide) (kp_s hI_879))) (Int.le_of_lt (by have := hj_385; have := (ti_k tx_887 rc_1); omega)) (Or.inl (by have := hj_385; have := (ti_k tx_887 rc_1); omega)))⟩ dX12_go_197
                        · skip
                          have n_892 : ¬ x_676 = 62 := h_877
                          refine g_iload_n C 0 dX12_go_162 rfl rfl ?_
                          refine g_bipush C (v := 40) dX12_go_163 (by decide) ?_
                          refine g_icmp_eq C (tgt := 174) dX12_go_165 (by decide) (fun h_893 => ?_) (fun h_893 => ?_)
                          · skip
                            have r_894 := (⟨(eq_rg (h_893) rc_40).1, (eq_rg (h_893) rc_40).2⟩ : Rg 40 40 x_676)
                            refine g_iconst C (v := 4) dX12_go_174 (by decide) ?_
                            refine g_goto C (tgt := 179) dX12_go_175 (by decide) ?_
                            refine h_putI C K hLx hkx f_12_104 p_12_7 dX12_go_179 (fun I_895 hI_895 => ?_)
                            have hU_896 := iw_put W9 hU_395 hI_895 (ro_o hkx (by decide)) (lo := 0) (hi := 4) (rfl) (rg_w rc_4 (by decide) (by decide)) rfl
                            have hF_897 := fq_puto hF_396 hI_895 hkx (by decide) (by decide)
                            have hs_898 : MTq I_895 J_378 x b_2 = (MT_.w_kind (MT_.w_frm s_387 (v_382)) (4)) := by rw [hI_895]; exact ((mq_kind wmqx).trans (congrArg (fun z : MT_ => MT_.w_kind z (4)) hs_397)).trans rfl
                            refine g_aload_n C 1 dX12_go_182 rfl rfl ?_
                            refine g_iload_n C 0 dX12_go_183 rfl rfl ?_
                            refine h_putI C K hLx hkx f_12_114 p_12_9 dX12_go_184 (fun I_899 hI_899 => ?_)
                            have hU_900 := iw_put W9 hU_896 hI_899 (ro_o hkx (by decide)) (lo := (-2147483648)) (hi := 2147483647) (rfl) (rg_all _) rfl
                            have hF_901 := fq_puto hF_897 hI_899 hkx (by decide) (by decide)
                            have hs_902 : MTq I_899 J_378 x b_2 = (MT_.w_sign (MT_.w_kind (MT_.w_frm s_387 (v_382)) (4)) (x_676)) := by rw [hI_899]; exact ((mq_sign wmqx).trans (congrArg (fun z : MT_ => MT_.w_sign z (x_676)) hs_898)).trans rfl
                            refine g_aload_n C 1 dX12_go_187 rfl rfl ?_
                            refine g_dup C dX12_go_188 rfl ?_
                            refine g_getI C K hLx hkx f_12_95 (v := v_382) (kp_j hI_899 (by decide) (kp_j hI_895 (by decide) (kp_j hI_394 (by decide) q_383))) dX12_go_189 ?_
                            refine g_iconst C (v := 1) dX12_go_192 (by decide) ?_
                            obtain ⟨x_903, hx_903, rx_903, tx_903⟩ := ex_add 1 900 r_673 rc_1 (by decide) (by decide) (by decide) (by decide)
                            refine g_iadd C (v := x_903) dX12_go_193 hx_903 ?_
                            refine h_putI C K hLx hkx f_12_95 p_12_5 dX12_go_194 (fun I_904 hI_904 => ?_)
                            have hU_905 := iw_put W9 hU_900 hI_904 (ro_o hkx (by decide)) (lo := 0) (hi := 940) (rfl) (rg_w rx_903 (by decide) (by decide)) rfl
                            have hF_906 := fq_puto hF_901 hI_904 hkx (by decide) (by decide)
                            have hs_907 : MTq I_904 J_378 x b_2 = (MT_.w_to (MT_.w_sign (MT_.w_kind (MT_.w_frm s_387 (v_382)) (4)) (x_676)) (x_903)) := by rw [hI_904]; exact ((mq_to wmqx).trans (congrArg (fun z : MT_ => MT_.w_to z (x_903)) hs_902)).trans rfl
                            exact g_vret B K rfl ⟨hU_905, hF_906, hG_381, (by (try simp only [f_390, hx_391, f_392, h_393, hx_398, f_399, h_400, (nle h_400), h_672, h_675, hx_676, f_677, c_682, (eq_true h_683), c_750, (eq_true h_751), h_829, h_845, h_861, h_877, (eq_true h_893), hx_903, if_true, if_false, mqM_tp, mqM_size, mqM_limit, mqM_to, mqM_frm, mqM_kind, mqM_number, mqM_sign, mqM_word, MT_.w_tp, MT_.w_size, MT_.w_limit, MT_.w_to, MT_.w_frm, MT_.w_kind, MT_.w_number, MT_.w_sign, MT_.w_word] at hQ_388); (try simp only [f_390, hx_391, f_392, h_393, hx_398, f_399, h_400, (nle h_400), h_672, h_675, hx_676, f_677, c_682, (eq_true h_683), c_750, (eq_true h_751), h_829, h_845, h_861, h_877, (eq_true h_893), hx_903, if_true, if_false, mqM_tp, mqM_size, mqM_limit, mqM_to, mqM_frm, mqM_kind, mqM_number, mqM_sign, mqM_word, MT_.w_tp, MT_.w_size, MT_.w_limit, MT_.w_to, MT_.w_frm, MT_.w_kind, MT_.w_number, MT_.w_sign, MT_.w_word] at u_389); simp only [mGo, mGo2, mGo3, mGoE, mSg, mStep, mGood, emqx, hs_907, hs_3, hQ_388, f_390, u_389, hx_391, f_392, h_393, hx_398, f_399, h_400, (nle h_400), h_672, h_675, hx_676, f_677, c_682, (eq_true h_683), c_750, (eq_true h_751), h_829, h_845, h_861, h_877, (eq_true h_893), hx_903, if_true, if_false, mqM_tp, mqM_size, mqM_limit, mqM_to, mqM_frm, mqM_kind, mqM_number, mqM_sign, mqM_word, MT_.w_tp, MT_.w_size, MT_.w_limit, MT_.w_to, MT_.w_frm, MT_.w_kind, MT_.w_number, MT_.w_sign, MT_.w_word]), (ps_mk hx_1 (kp_s hI_904) (kp_j hI_904 (by decide) (kp_j hI_899 (by decide) (kp_s hI_895))) (Int.le_of_lt (by have := hj_385; have := (ti_k tx_903 rc_1); omega)) (Or.inl (by have := hj_385; have := (ti_k tx_903 rc_1); omega)))⟩ dX12_go_197
                          · skip
                            have n_908 : ¬ x_676 = 40 := h_893
                            refine g_iload_n C 0 dX12_go_168 rfl rfl ?_
                            refine g_bipush C (v := 41) dX12_go_169 (by decide) ?_
                            refine g_icmp_ne C (tgt := 178) dX12_go_171 (by decide) (fun h_909 => ?_) (fun h_909 => ?_)
                            · skip
                              have n_910 : ¬ x_676 = 41 := h_909
                              refine g_iconst C (v := 1) dX12_go_178 (by decide) ?_
                              refine h_putI C K hLx hkx f_12_104 p_12_7 dX12_go_179 (fun I_911 hI_911 => ?_)
                              have hU_912 := iw_put W9 hU_395 hI_911 (ro_o hkx (by decide)) (lo := 0) (hi := 4) (rfl) (rg_w rc_1 (by decide) (by decide)) rfl
                              have hF_913 := fq_puto hF_396 hI_911 hkx (by decide) (by decide)
                              have hs_914 : MTq I_911 J_378 x b_2 = (MT_.w_kind (MT_.w_frm s_387 (v_382)) (1)) := by rw [hI_911]; exact ((mq_kind wmqx).trans (congrArg (fun z : MT_ => MT_.w_kind z (1)) hs_397)).trans rfl
                              refine g_aload_n C 1 dX12_go_182 rfl rfl ?_
                              refine g_iload_n C 0 dX12_go_183 rfl rfl ?_
                              refine h_putI C K hLx hkx f_12_114 p_12_9 dX12_go_184 (fun I_915 hI_915 => ?_)
                              have hU_916 := iw_put W9 hU_912 hI_915 (ro_o hkx (by decide)) (lo := (-2147483648)) (hi := 2147483647) (rfl) (rg_all _) rfl
                              have hF_917 := fq_puto hF_913 hI_915 hkx (by decide) (by decide)
                              have hs_918 : MTq I_915 J_378 x b_2 = (MT_.w_sign (MT_.w_kind (MT_.w_frm s_387 (v_382)) (1)) (x_676)) := by rw [hI_915]; exact ((mq_sign wmqx).trans (congrArg (fun z : MT_ => MT_.w_sign z (x_676)) hs_914)).trans rfl
                              refine g_aload_n C 1 dX12_go_187 rfl rfl ?_
                              refine g_dup C dX12_go_188 rfl ?_
                              refine g_getI C K hLx hkx f_12_95 (v := v_382) (kp_j hI_915 (by decide) (kp_j hI_911 (by decide) (kp_j hI_394 (by decide) q_383))) dX12_go_189 ?_
                              refine g_iconst C (v := 1) dX12_go_192 (by decide) ?_
                              obtain ⟨x_919, hx_919, rx_919, tx_919⟩ := ex_add 1 900 r_673 rc_1 (by decide) (by decide) (by decide) (by decide)
                              refine g_iadd C (v := x_919) dX12_go_193 hx_919 ?_
                              refine h_putI C K hLx hkx f_12_95 p_12_5 dX12_go_194 (fun I_920 hI_920 => ?_)
                              have hU_921 := iw_put W9 hU_916 hI_920 (ro_o hkx (by decide)) (lo := 0) (hi := 940) (rfl) (rg_w rx_919 (by decide) (by decide)) rfl
                              have hF_922 := fq_puto hF_917 hI_920 hkx (by decide) (by decide)
                              have hs_923 : MTq I_920 J_378 x b_2 = (MT_.w_to (MT_.w_sign (MT_.w_kind (MT_.w_frm s_387 (v_382)) (1)) (x_676)) (x_919)) := by rw [hI_920]; exact ((mq_to wmqx).trans (congrArg (fun z : MT_ => MT_.w_to z (x_919)) hs_918)).trans rfl
                              exact g_vret B K rfl ⟨hU_921, hF_922, hG_381, (by (try simp only [f_390, hx_391, f_392, h_393, hx_398, f_399, h_400, (nle h_400), h_672, h_675, hx_676, f_677, c_682, (eq_true h_683), c_750, (eq_true h_751), h_829, h_845, h_861, h_877, h_893, h_909, hx_919, if_true, if_false, mqM_tp, mqM_size, mqM_limit, mqM_to, mqM_frm, mqM_kind, mqM_number, mqM_sign, mqM_word, MT_.w_tp, MT_.w_size, MT_.w_limit, MT_.w_to, MT_.w_frm, MT_.w_kind, MT_.w_number, MT_.w_sign, MT_.w_word] at hQ_388); (try simp only [f_390, hx_391, f_392, h_393, hx_398, f_399, h_400, (nle h_400), h_672, h_675, hx_676, f_677, c_682, (eq_true h_683), c_750, (eq_true h_751), h_829, h_845, h_861, h_877, h_893, h_909, hx_919, if_true, if_false, mqM_tp, mqM_size, mqM_limit, mqM_to, mqM_frm, mqM_kind, mqM_number, mqM_sign, mqM_word, MT_.w_tp, MT_.w_size, MT_.w_limit, MT_.w_to, MT_.w_frm, MT_.w_kind, MT_.w_number, MT_.w_sign, MT_.w_word] at u_389); simp only [mGo, mGo2, mGo3, mGoE, mSg, mStep, mGood, emqx, hs_923, hs_3, hQ_388, f_390, u_389, hx_391, f_392, h_393, hx_398, f_399, h_400, (nle h_400), h_672, h_675, hx_676, f_677, c_682, (eq_true h_683), c_750, (eq_true h_751), h_829, h_845, h_861, h_877, h_893, h_909, hx_919, if_true, if_false, mqM_tp, mqM_size, mqM_limit, mqM_to, mqM_frm, mqM_kind, mqM_number, mqM_sign, mqM_word, MT_.w_tp, MT_.w_size, MT_.w_limit, MT_.w_to, MT_.w_frm, MT_.w_kind, MT_.w_number, MT_.w_sign, MT_.w_word]), (ps_mk hx_1 (kp_s hI_920) (kp_j hI_920 (by decide) (kp_j hI_915 (by decide) (kp_s hI_911))) (by have := hj_385; have := (ti_k tx_919 rc_1); omega) (Or.inr (by have := (rc_1).2; omega)))⟩ dX12_go_197
                            · skip
                              have r_924 := (⟨(eq_rg (h_909) rc_41).1, (eq_rg (h_909) rc_41).2⟩ : Rg 41 41 x_676)
                              refine g_iconst C (v := 4) dX12_go_174 (by decide) ?_
                              refine g_goto C (tgt := 179) dX12_go_175 (by decide) ?_
                              refine h_putI C K hLx hkx f_12_104 p_12_7 dX12_go_179 (fun I_925 hI_925 => ?_)
                              have hU_926 := iw_put W9 hU_395 hI_925 (ro_o hkx (by decide)) (lo := 0) (hi := 4) (rfl) (rg_w rc_4 (by decide) (by decide)) rfl
                              have hF_927 := fq_puto hF_396 hI_925 hkx (by decide) (by decide)
                              have hs_928 : MTq I_925 J_378 x b_2 = (MT_.w_kind (MT_.w_frm s_387 (v_382)) (4)) := by rw [hI_925]; exact ((mq_kind wmqx).trans (congrArg (fun z : MT_ => MT_.w_kind z (4)) hs_397)).trans rfl
                              refine g_aload_n C 1 dX12_go_182 rfl rfl ?_
                              refine g_iload_n C 0 dX12_go_183 rfl rfl ?_
                              refine h_putI C K hLx hkx f_12_114 p_12_9 dX12_go_184 (fun I_929 hI_929 => ?_)
                              have hU_930 := iw_put W9 hU_926 hI_929 (ro_o hkx (by decide)) (lo := (-2147483648)) (hi := 2147483647) (rfl) (rg_all _) rfl
                              have hF_931 := fq_puto hF_927 hI_929 hkx (by decide) (by decide)
                              have hs_932 : MTq I_929 J_378 x b_2 = (MT_.w_sign (MT_.w_kind (MT_.w_frm s_387 (v_382)) (4)) (x_676)) := by rw [hI_929]; exact ((mq_sign wmqx).trans (congrArg (fun z : MT_ => MT_.w_sign z (x_676)) hs_928)).trans rfl
                              refine g_aload_n C 1 dX12_go_187 rfl rfl ?_
                              refine g_dup C dX12_go_188 rfl ?_
                              refine g_getI C K hLx hkx f_12_95 (v := v_382) (kp_j hI_929 (by decide) (kp_j hI_925 (by decide) (kp_j hI_394 (by decide) q_383))) dX12_go_189 ?_
                              refine g_iconst C (v := 1) dX12_go_192 (by decide) ?_
                              obtain ⟨x_933, hx_933, rx_933, tx_933⟩ := ex_add 1 900 r_673 rc_1 (by decide) (by decide) (by decide) (by decide)
                              refine g_iadd C (v := x_933) dX12_go_193 hx_933 ?_
                              refine h_putI C K hLx hkx f_12_95 p_12_5 dX12_go_194 (fun I_934 hI_934 => ?_)
                              have hU_935 := iw_put W9 hU_930 hI_934 (ro_o hkx (by decide)) (lo := 0) (hi := 940) (rfl) (rg_w rx_933 (by decide) (by decide)) rfl
                              have hF_936 := fq_puto hF_931 hI_934 hkx (by decide) (by decide)
                              have hs_937 : MTq I_934 J_378 x b_2 = (MT_.w_to (MT_.w_sign (MT_.w_kind (MT_.w_frm s_387 (v_382)) (4)) (x_676)) (x_933)) := by rw [hI_934]; exact ((mq_to wmqx).trans (congrArg (fun z : MT_ => MT_.w_to z (x_933)) hs_932)).trans rfl
                              exact g_vret B K rfl ⟨hU_935, hF_936, hG_381, (by (try simp only [f_390, hx_391, f_392, h_393, hx_398, f_399, h_400, (nle h_400), h_672, h_675, hx_676, f_677, c_682, (eq_true h_683), c_750, (eq_true h_751), h_829, h_845, h_861, h_877, h_893, (eq_true h_909), hx_933, if_true, if_false, mqM_tp, mqM_size, mqM_limit, mqM_to, mqM_frm, mqM_kind, mqM_number, mqM_sign, mqM_word, MT_.w_tp, MT_.w_size, MT_.w_limit, MT_.w_to, MT_.w_frm, MT_.w_kind, MT_.w_number, MT_.w_sign, MT_.w_word] at hQ_388); (try simp only [f_390, hx_391, f_392, h_393, hx_398, f_399, h_400, (nle h_400), h_672, h_675, hx_676, f_677, c_682, (eq_true h_683), c_750, (eq_true h_751), h_829, h_845, h_861, h_877, h_893, (eq_true h_909), hx_933, if_true, if_false, mqM_tp, mqM_size, mqM_limit, mqM_to, mqM_frm, mqM_kind, mqM_number, mqM_sign, mqM_word, MT_.w_tp, MT_.w_size, MT_.w_limit, MT_.w_to, MT_.w_frm, MT_.w_kind, MT_.w_number, MT_.w_sign, MT_.w_word] at u_389); simp only [mGo, mGo2, mGo3, mGoE, mSg, mStep, mGood, emqx, hs_937, hs_3, hQ_388, f_390, u_389, hx_391, f_392, h_393, hx_398, f_399, h_400, (nle h_400), h_672, h_675, hx_676, f_677, c_682, (eq_true h_683), c_750, (eq_true h_751), h_829, h_845, h_861, h_877, h_893, (eq_true h_909), hx_933, if_true, if_false, mqM_tp, mqM_size, mqM_limit, mqM_to, mqM_frm, mqM_kind, mqM_number, mqM_sign, mqM_word, MT_.w_tp, MT_.w_size, MT_.w_limit, MT_.w_to, MT_.w_frm, MT_.w_kind, MT_.w_number, MT_.w_sign, MT_.w_word]), (ps_mk hx_1 (kp_s hI_934) (kp_j hI_934 (by decide) (kp_j hI_929 (by decide) (kp_s hI_925))) (Int.le_of_lt (by have := hj_385; have := (ti_k tx_933 rc_1); omega)) (Or.inl (by have := hj_385; have := (ti_k tx_933 rc_1); omega)))⟩ dX12_go_197
            · skip
              have r_938 := le_l (nlt h_675) r_671 r_673
              have r_939 := le_r (nlt h_675) r_671 r_673
              refine g_aload_n C 0 dX12_go_107 rfl rfl ?_
              refine g_iconst C (v := 0) dX12_go_108 (by decide) ?_
              refine h_putI C K hLx hkx f_12_104 p_12_7 dX12_go_109 (fun I_940 hI_940 => ?_)
              have hU_941 := iw_put W9 hU_395 hI_940 (ro_o hkx (by decide)) (lo := 0) (hi := 4) (rfl) (rg_w rc_0 (by decide) (by decide)) rfl
              have hF_942 := fq_puto hF_396 hI_940 hkx (by decide) (by decide)
              have hs_943 : MTq I_940 J_378 x b_2 = (MT_.w_kind (MT_.w_frm s_387 (v_382)) (0)) := by rw [hI_940]; exact ((mq_kind wmqx).trans (congrArg (fun z : MT_ => MT_.w_kind z (0)) hs_397)).trans rfl
              exact g_vret B K rfl ⟨hU_941, hF_942, hG_381, (by (try simp only [f_390, hx_391, f_392, h_393, hx_398, f_399, h_400, (nle h_400), h_672, h_675, (nlt h_675), if_true, if_false, mqM_tp, mqM_size, mqM_limit, mqM_to, mqM_frm, mqM_kind, mqM_number, mqM_sign, mqM_word, MT_.w_tp, MT_.w_size, MT_.w_limit, MT_.w_to, MT_.w_frm, MT_.w_kind, MT_.w_number, MT_.w_sign, MT_.w_word] at hQ_388); (try simp only [f_390, hx_391, f_392, h_393, hx_398, f_399, h_400, (nle h_400), h_672, h_675, (nlt h_675), if_true, if_false, mqM_tp, mqM_size, mqM_limit, mqM_to, mqM_frm, mqM_kind, mqM_number, mqM_sign, mqM_word, MT_.w_tp, MT_.w_size, MT_.w_limit, MT_.w_to, MT_.w_frm, MT_.w_kind, MT_.w_number, MT_.w_sign, MT_.w_word] at u_389); simp only [mGo, mGo2, mGo3, mGoE, mSg, mStep, mGood, emqx, hs_943, hs_3, hQ_388, f_390, u_389, hx_391, f_392, h_393, hx_398, f_399, h_400, (nle h_400), h_672, h_675, (nlt h_675), if_true, if_false, mqM_tp, mqM_size, mqM_limit, mqM_to, mqM_frm, mqM_kind, mqM_number, mqM_sign, mqM_word, MT_.w_tp, MT_.w_size, MT_.w_limit, MT_.w_to, MT_.w_frm, MT_.w_kind, MT_.w_number, MT_.w_sign, MT_.w_word]), (ps_mk hx_1 (kp_j hI_940 (by decide) (kp_j hI_394 (by decide) q_383)) (kp_s hI_940) (by have := hj_385; omega) (Or.inr (by have := (rc_0).2; omega)))⟩ dX12_go_112
          · skip
            refine g_aload_n C 0 dX12_go_82 rfl rfl ?_
            refine g_aload_n C 0 dX12_go_83 rfl rfl ?_
            refine g_getI C K hLx hkx f_12_101 (v := x_398) hx_398 dX12_go_84 ?_
            refine h_putI C K hLx hkx f_12_98 p_12_6 dX12_go_87 (fun I_944 hI_944 => ?_)
            have hU_945 := iw_put W9 hU_395 hI_944 (ro_o hkx (by decide)) (lo := 0) (hi := 940) (rfl) (rg_w rx_398 (by decide) (by decide)) rfl
            have hF_946 := fq_puto hF_396 hI_944 hkx (by decide) (by decide)
            have hs_947 : MTq I_944 J_378 x b_2 = (MT_.w_frm s_387 (x_398)) := by rw [hI_944]; exact ((mq_frm wmqx).trans (congrArg (fun z : MT_ => MT_.w_frm z (x_398)) hs_397)).trans rfl
            refine g_aload_n C 0 dX12_go_90 rfl rfl ?_
            refine g_iconst C (v := 1) dX12_go_91 (by decide) ?_
            refine h_putI C K hLx hkx f_12_104 p_12_7 dX12_go_92 (fun I_948 hI_948 => ?_)
            have hU_949 := iw_put W9 hU_945 hI_948 (ro_o hkx (by decide)) (lo := 0) (hi := 4) (rfl) (rg_w rc_1 (by decide) (by decide)) rfl
            have hF_950 := fq_puto hF_946 hI_948 hkx (by decide) (by decide)
            have hs_951 : MTq I_948 J_378 x b_2 = (MT_.w_kind (MT_.w_frm s_387 (x_398)) (1)) := by rw [hI_948]; exact ((mq_kind wmqx).trans (congrArg (fun z : MT_ => MT_.w_kind z (1)) hs_947)).trans rfl
            exact g_vret B K rfl ⟨hU_949, hF_950, hG_381, (by (try simp only [f_390, hx_391, f_392, h_393, hx_398, f_399, h_400, (nle h_400), h_672, (nlt h_672), if_true, if_false, mqM_tp, mqM_size, mqM_limit, mqM_to, mqM_frm, mqM_kind, mqM_number, mqM_sign, mqM_word, MT_.w_tp, MT_.w_size, MT_.w_limit, MT_.w_to, MT_.w_frm, MT_.w_kind, MT_.w_number, MT_.w_sign, MT_.w_word] at hQ_388); (try simp only [f_390, hx_391, f_392, h_393, hx_398, f_399, h_400, (nle h_400), h_672, (nlt h_672), if_true, if_false, mqM_tp, mqM_size, mqM_limit, mqM_to, mqM_frm, mqM_kind, mqM_number, mqM_sign, mqM_word, MT_.w_tp, MT_.w_size, MT_.w_limit, MT_.w_to, MT_.w_frm, MT_.w_kind, MT_.w_number, MT_.w_sign, MT_.w_word] at u_389); simp only [mGo, mGo2, mGo3, mGoE, mSg, mStep, mGood, emqx, hs_951, hs_3, hQ_388, f_390, u_389, hx_391, f_392, h_393, hx_398, f_399, h_400, (nle h_400), h_672, (nlt h_672), if_true, if_false, mqM_tp, mqM_size, mqM_limit, mqM_to, mqM_frm, mqM_kind, mqM_number, mqM_sign, mqM_word, MT_.w_tp, MT_.w_size, MT_.w_limit, MT_.w_to, MT_.w_frm, MT_.w_kind, MT_.w_number, MT_.w_sign, MT_.w_word]), (ps_mk hx_1 (kp_j hI_948 (by decide) (kp_j hI_944 (by decide) (kp_j hI_394 (by decide) q_383))) (kp_s hI_948) (by have := hj_385; omega) (Or.inr (by have := (rc_1).2; omega)))⟩ dX12_go_95
      · skip
        have r_952 := lt_l (hi := 939) (nle h_393) rv_382 rx_391 (by decide)
        have r_953 := lt_r (lo := 1) (nle h_393) rv_382 rx_391 (by decide)
        refine g_aload_n C 0 dX12_go_11 rfl rfl ?_
        refine g_getR C K hLx hkx f_12_7 hb_2 dX12_go_12 ?_
        refine g_aload_n C 0 dX12_go_15 rfl rfl ?_
        refine g_getI C K hLx hkx f_12_95 (v := v_382) q_383 dX12_go_16 ?_
        obtain ⟨x_954, hx_954, rx_954⟩ := ex_getw (I := I_377) (a := b_2) (j := v_382.toNatClampNeg) (lo := 0) (hi := 255) hU_379.1 hb_2L (ro_a hb_2k (by decide) hb_2o hkx rfl) (rfl)
        refine h_iald C K hb_2L hb_2k (v := x_954) (v_382.toNatClampNeg) (rfl) (ix_0 r_952 (by decide)) (ix_lt r_952 (by decide) hb_2n (by decide)) hx_954 dX12_go_19 ?_
        have f_955 : s_387.tp (v_382.toNatClampNeg) = x_954 := (congrFun (congrArg MT_.tp hs_387) _).symm.trans hx_954
        refine g_bipush C (v := 32) dX12_go_20 (by decide) ?_
        refine g_icmp_eq C (tgt := 39) dX12_go_22 (by decide) (fun h_956 => ?_) (fun h_956 => ?_)
        · skip
          have r_957 := (⟨(eq_rg (h_956) rc_32).1, (eq_rg (h_956) rc_32).2⟩ : Rg 32 32 x_954)
          refine g_aload_n C 0 dX12_go_39 rfl rfl ?_
          refine g_dup C dX12_go_40 rfl ?_
          refine g_getI C K hLx hkx f_12_95 (v := v_382) q_383 dX12_go_41 ?_
          refine g_iconst C (v := 1) dX12_go_44 (by decide) ?_
          obtain ⟨x_958, hx_958, rx_958, tx_958⟩ := ex_add 1 940 r_952 rc_1 (by decide) (by decide) (by decide) (by decide)
          refine g_iadd C (v := x_958) dX12_go_45 hx_958 ?_
          refine h_putI C K hLx hkx f_12_95 p_12_5 dX12_go_46 (fun I_959 hI_959 => ?_)
          have hU_960 := iw_put W9 hU_379 hI_959 (ro_o hkx (by decide)) (lo := 0) (hi := 940) (rfl) (rg_w rx_958 (by decide) (by decide)) rfl
          have hF_961 := fq_puto hF_380 hI_959 hkx (by decide) (by decide)
          have hs_962 : MTq I_959 J_378 x b_2 = (MT_.w_to s_387 (x_958)) := by rw [hI_959]; exact ((mq_to wmqx).trans (congrArg (fun z : MT_ => MT_.w_to z (x_958)) hs_387)).trans rfl
          refine g_goto C (tgt := 0) dX12_go_49 (by decide) ?_
          refine g_lo (is := [0]) (lo2 := [(0, .ref x)]) rfl ?_
          exact ih_0 I_959 J_378 hU_960 hF_961 hG_381 x_958 (rg_w rx_958 (by decide) (by decide)) (kp_s hI_959) (by (try simp only [f_390, hx_391, f_392, h_393, (nle h_393), hx_954, f_955, (eq_true h_956), hx_958, if_true, if_false, mqM_tp, mqM_size, mqM_limit, mqM_to, mqM_frm, mqM_kind, mqM_number, mqM_sign, mqM_word, MT_.w_tp, MT_.w_size, MT_.w_limit, MT_.w_to, MT_.w_frm, MT_.w_kind, MT_.w_number, MT_.w_sign, MT_.w_word] at hQ_388); (try simp only [f_390, hx_391, f_392, h_393, (nle h_393), hx_954, f_955, (eq_true h_956), hx_958, if_true, if_false, mqM_tp, mqM_size, mqM_limit, mqM_to, mqM_frm, mqM_kind, mqM_number, mqM_sign, mqM_word, MT_.w_tp, MT_.w_size, MT_.w_limit, MT_.w_to, MT_.w_frm, MT_.w_kind, MT_.w_number, MT_.w_sign, MT_.w_word] at u_389); simp only [mGo2, mGo3, mGoE, mSg, mStep, mGood, emqx, hs_962, hs_3, hQ_388, f_390, u_389, hx_391, f_392, h_393, (nle h_393), hx_954, f_955, (eq_true h_956), hx_958, if_true, if_false, mqM_tp, mqM_size, mqM_limit, mqM_to, mqM_frm, mqM_kind, mqM_number, mqM_sign, mqM_word, MT_.w_tp, MT_.w_size, MT_.w_limit, MT_.w_to, MT_.w_frm, MT_.w_kind, MT_.w_number, MT_.w_sign, MT_.w_word]) (by have := hj_385; have := (ti_k tx_958 rc_1); omega) (ms_1 hm_386 (ti_k tx_958 rc_1) (by decide))
        · skip
          have n_963 : ¬ x_954 = 32 := h_956
          refine g_aload_n C 0 dX12_go_25 rfl rfl ?_
          refine g_getR C K hLx hkx f_12_7 hb_2 dX12_go_26 ?_
          refine g_aload_n C 0 dX12_go_29 rfl rfl ?_
          refine g_getI C K hLx hkx f_12_95 (v := v_382) q_383 dX12_go_30 ?_
          refine h_iald C K hb_2L hb_2k (v := x_954) (v_382.toNatClampNeg) (rfl) (ix_0 r_952 (by decide)) (ix_lt r_952 (by decide) hb_2n (by decide)) hx_954 dX12_go_33 ?_
          refine g_bipush C (v := 10) dX12_go_34 (by decide) ?_
          refine g_icmp_ne C (tgt := 52) dX12_go_36 (by decide) (fun h_965 => ?_) (fun h_965 => ?_)
          · skip
            have n_966 : ¬ x_954 = 10 := h_965
            refine g_aload_n C 0 dX12_go_52 rfl rfl ?_
            refine g_aload_n C 0 dX12_go_53 rfl rfl ?_
            refine g_getI C K hLx hkx f_12_95 (v := v_382) q_383 dX12_go_54 ?_
            refine h_putI C K hLx hkx f_12_98 p_12_6 dX12_go_57 (fun I_967 hI_967 => ?_)
            have hU_968 := iw_put W9 hU_379 hI_967 (ro_o hkx (by decide)) (lo := 0) (hi := 940) (rfl) (rg_w r_952 (by decide) (by decide)) rfl
            have hF_969 := fq_puto hF_380 hI_967 hkx (by decide) (by decide)
            have hs_970 : MTq I_967 J_378 x b_2 = (MT_.w_frm s_387 (v_382)) := by rw [hI_967]; exact ((mq_frm wmqx).trans (congrArg (fun z : MT_ => MT_.w_frm z (v_382)) hs_387)).trans rfl
            refine g_aload_n C 0 dX12_go_60 rfl rfl ?_
            refine g_getI C K hLx hkx f_12_92 (v := x_391) (kp_j hI_967 (by decide) hx_391) dX12_go_61 ?_
            refine g_aload_n C 0 dX12_go_64 rfl rfl ?_
            obtain ⟨x_971, hx_971, rx_971⟩ := ex_getw (I := I_967) (a := x) (j := 4) (lo := 0) (hi := 900) hU_968.1 hLx (ro_o hkx (by decide)) rfl
            have f_972 : s_387.limit = x_971 := (congrArg MT_.limit hs_970).symm.trans hx_971
            refine g_getI C K hLx hkx f_12_101 (v := x_971) hx_971 dX12_go_65 ?_
            refine g_icmp_le C (tgt := 96) dX12_go_68 (by decide) (fun h_973 => ?_) (fun h_973 => ?_)
            · skip
              have r_974 := le_l (h_973) r_953 rx_971
              have r_975 := le_r (h_973) r_953 rx_971
              refine g_aload_n C 0 dX12_go_96 rfl rfl ?_
              refine g_getI C K hLx hkx f_12_95 (v := v_382) (kp_j hI_967 (by decide) q_383) dX12_go_97 ?_
              refine g_aload_n C 0 dX12_go_100 rfl rfl ?_
              refine g_getI C K hLx hkx f_12_92 (v := x_391) (kp_j hI_967 (by decide) hx_391) dX12_go_101 ?_
              refine g_icmp_lt C (tgt := 113) dX12_go_104 (by decide) (fun h_976 => ?_) (fun h_976 => ?_)
              · skip
                have r_977 := lt_l (hi := 899) (h_976) r_952 r_974 (by decide)
                refine g_aload_n C 0 dX12_go_113 rfl rfl ?_
                refine g_getR C K hLx hkx f_12_7 hb_2 dX12_go_114 ?_
                refine g_aload_n C 0 dX12_go_117 rfl rfl ?_
                refine g_getI C K hLx hkx f_12_95 (v := v_382) (kp_j hI_967 (by decide) q_383) dX12_go_118 ?_
                refine h_iald C K hb_2L hb_2k (v := x_954) (v_382.toNatClampNeg) (rfl) (ix_0 r_977 (by decide)) (ix_lt r_977 (by decide) hb_2n (by decide)) (kp_k (κ := κ) hI_967 (by rw [hb_2k, hkx]; decide) hx_954) dX12_go_121 ?_
                refine g_istore_n C dX12_go_122 rfl (by decide) (lo2 := [(1, .int x_954), (0, .ref x)]) rfl ?_
                refine g_iload_n C 0 dX12_go_123 rfl rfl ?_
                refine g_callSI C K (c_X12_isLetter W9 x_954  hU_968) s_12_107 rfl ⟨rfl, rfl⟩ ⟨Nat.le_of_ble_eq_true rfl, Nat.le_of_ble_eq_true rfl⟩ (Nat.le_of_ble_eq_true rfl) ⟨Nat.le_of_ble_eq_true rfl, Nat.le_of_ble_eq_true rfl⟩ dX12_go_124 rfl (st := []) (fun x_979 I_980 J_981 h_982 => ?_)
                obtain ⟨rfl, rfl, rx_979, fx_979, ex_979⟩ := h_982
                have c_983 : isLc (x_954) = x_979 := fx_979.symm
                refine g_if_ne C (tgt := 198) dX12_go_127 (by decide) (fun h_984 => ?_) (fun h_984 => ?_)
                · skip
                  have n_985 : ¬ x_979 = 0 := h_984
                  have r_986 := ne_lo (lo := 1) n_985 rx_979 rc_0 rfl (by decide)
                  have r_987 := rg_i rx_954 ((ex_979.2) n_985) (lo := 97) (hi := 122) (by decide) (by decide)
                  refine g_iload_n C 0 dX12_go_198 rfl rfl ?_
                  refine g_callSI C K (c_X12_isLetter W9 x_954  hU_968) s_12_107 rfl ⟨rfl, rfl⟩ ⟨Nat.le_of_ble_eq_true rfl, Nat.le_of_ble_eq_true rfl⟩ (Nat.le_of_ble_eq_true rfl) ⟨Nat.le_of_ble_eq_true rfl, Nat.le_of_ble_eq_true rfl⟩ dX12_go_199 rfl (st := []) (fun x_988 I_989 J_990 h_991 => ?_)
                  obtain ⟨rfl, rfl, rx_988, fx_988, ex_988⟩ := h_991
                  have c_992 : isLc (x_954) = x_988 := fx_988.symm
                  have ec_992 : x_979 = x_988 := c_983.symm.trans c_992
                  subst ec_992
                  refine g_istore_n C dX12_go_202 rfl (by decide) (lo2 := [(2, .int x_979), (1, .int x_954), (0, .ref x)]) rfl ?_
                  refine g_iconst C (v := 1) dX12_go_203 (by decide) ?_
                  refine g_istore_n C dX12_go_204 rfl (by decide) (lo2 := [(3, .int 1), (2, .int x_979), (1, .int x_954), (0, .ref x)]) rfl ?_
                  refine g_aload_n C 3 dX12_go_205 rfl rfl ?_
                  refine g_lconst C (v := 0) dX12_go_206 (by decide) ?_
                  refine h_putJ C K hLx hkx f_12_117 p_12_12 dX12_go_207 (fun J_993 hJ_993 => ?_)
                  have hG_994 := fq_puto hG_381 hJ_993 hkx (by decide) (by decide)
                  have hs_995 : MTq I_967 J_993 x b_2 = (MT_.w_word (MT_.w_frm s_387 (v_382)) (0)) := by rw [hJ_993]; exact ((mq_word wmqx).trans (congrArg (fun z : MT_ => MT_.w_word z (0)) hs_970)).trans rfl
                  refine g_aload_n C 3 dX12_go_210 rfl rfl ?_
                  refine g_iconst C (v := 0) dX12_go_211 (by decide) ?_
                  refine h_putI C K hLx hkx f_12_121 p_12_8 dX12_go_212 (fun I_996 hI_996 => ?_)
                  have hU_997 := iw_put W9 hU_968 hI_996 (ro_o hkx (by decide)) (lo := (-2147483648)) (hi := 2147483647) (rfl) (rg_all _) rfl
                  have hF_998 := fq_puto hF_969 hI_996 hkx (by decide) (by decide)
                  have hs_999 : MTq I_996 J_993 x b_2 = (MT_.w_number (MT_.w_word (MT_.w_frm s_387 (v_382)) (0)) (0)) := by rw [hI_996]; exact ((mq_number wmqx).trans (congrArg (fun z : MT_ => MT_.w_number z (0)) hs_995)).trans rfl
                  have u_1000 := mrun_eq (lt := x_979) (g := 1) (m := (MT_.w_number (MT_.w_word (MT_.w_frm s_387 (v_382)) (0)) (0))) ((congrArg MT_.to hs_999).symm.trans (kp_j hI_996 (by decide) (kp_j hI_967 (by decide) q_383))) (rg_w r_977 (by decide) (by decide))
                  refine g_aload_n C 3 dX12_go_215 rfl rfl ?_
                  refine g_aload_n C 3 dX12_go_216 rfl rfl ?_
                  refine g_getI C K hLx hkx f_12_95 (v := v_382) (kp_j hI_996 (by decide) (kp_j hI_967 (by decide) q_383)) dX12_go_217 ?_
                  refine g_callVI C K (c_X12_tapeAt W9 hLx hkx v_382 (rg_w r_977 (by decide) (by decide)) hU_997) hLx hkx (by decide) rfl v_12_124 rfl ⟨rfl, rfl⟩ ⟨Nat.le_of_ble_eq_true rfl, Nat.le_of_ble_eq_true rfl⟩ (Nat.le_of_ble_eq_true rfl) ⟨Nat.le_of_ble_eq_true rfl, Nat.le_of_ble_eq_true rfl⟩ dX12_go_220 rfl (st := []) (fun x_1001 I_1002 J_1003 h_1004 => ?_)
                  obtain ⟨rfl, rfl, rx_1001, fx_1001, ex_1001⟩ := h_1004
                  have c_1005 : mTapeAt (v_382) ((MT_.w_number (MT_.w_word (MT_.w_frm s_387 (v_382)) (0)) (0))) = x_1001 := by have q := fx_1001; simp only [emqx, hs_999] at q; exact q.symm
                  have r_1006 := eq_rg ((ex_1001.1 _ hb_2 (by rw [(kp_j hI_996 (by decide) (kp_j hI_967 (by decide) hx_391))]; exact h_976)).trans (kp_k (κ := κ) hI_996 (by rw [hb_2k, hkx]; decide) (kp_k (κ := κ) hI_967 (by rw [hb_2k, hkx]; decide) hx_954))) r_987
                  refine g_callSI C K (c_X12_isLetter W9 x_1001  hU_997) s_12_107 rfl ⟨rfl, rfl⟩ ⟨Nat.le_of_ble_eq_true rfl, Nat.le_of_ble_eq_true rfl⟩ (Nat.le_of_ble_eq_true rfl) ⟨Nat.le_of_ble_eq_true rfl, Nat.le_of_ble_eq_true rfl⟩ dX12_go_223 rfl (st := []) (fun x_1007 I_1008 J_1009 h_1010 => ?_)
                  obtain ⟨rfl, rfl, rx_1007, fx_1007, ex_1007⟩ := h_1010
                  have c_1011 : isLc (x_1001) = x_1007 := fx_1007.symm
                  have n_1012 : ¬ x_1007 = 0 := by rcases ex_1007.1 with q | q | q; exact q; exact absurd q (by have := (r_1006).1; omega); exact absurd q (by have := (r_1006).2; omega)
                  have n_1013 : ¬ x_1007 = 0 := n_1012
                  have r_1014 := ne_lo (lo := 1) n_1013 rx_1007 rc_0 rfl (by decide)
                  refine g_if_ne C (tgt := 243) dX12_go_226 (by decide) (fun h_1015 => ?_) (fun h_1015 => ?_)
                  · skip
                    have n_1016 : ¬ x_1007 = 0 := h_1015
                    refine g_aload_n C 3 dX12_go_243 rfl rfl ?_
                    refine g_getR C K hLx hkx f_12_7 hb_2 dX12_go_244 ?_
                    refine g_aload_n C 3 dX12_go_247 rfl rfl ?_
                    refine g_getI C K hLx hkx f_12_95 (v := v_382) (kp_j hI_996 (by decide) (kp_j hI_967 (by decide) q_383)) dX12_go_248 ?_
                    refine h_iald C K hb_2L hb_2k (v := x_954) (v_382.toNatClampNeg) (rfl) (ix_0 r_977 (by decide)) (ix_lt r_977 (by decide) hb_2n (by decide)) (kp_k (κ := κ) hI_996 (by rw [hb_2k, hkx]; decide) (kp_k (κ := κ) hI_967 (by rw [hb_2k, hkx]; decide) hx_954)) dX12_go_251 ?_
                    refine g_istore C dX12_go_252 (by decide) (lo2 := [(4, .int x_954), (3, .int 1), (2, .int x_979), (1, .int x_954), (0, .ref x)]) rfl ?_
                    refine g_iload_n C 1 dX12_go_254 rfl rfl ?_
                    refine g_if_eq C (tgt := 271) dX12_go_255 (by decide) (fun h_1018 => ?_) (fun h_1018 => ?_)
                    · skip
                      exact absurd (h_1018) (by decide)
                    · skip
                      refine g_iload C 0 dX12_go_258 rfl ?_
                      refine g_callSI C K (c_X12_isLetter W9 x_954  hU_997) s_12_107 rfl ⟨rfl, rfl⟩ ⟨Nat.le_of_ble_eq_true rfl, Nat.le_of_ble_eq_true rfl⟩ (Nat.le_of_ble_eq_true rfl) ⟨Nat.le_of_ble_eq_true rfl, Nat.le_of_ble_eq_true rfl⟩ dX12_go_260 rfl (st := []) (fun x_1019 I_1020 J_1021 h_1022 => ?_)
                      obtain ⟨rfl, rfl, rx_1019, fx_1019, ex_1019⟩ := h_1022
                      have c_1023 : isLc (x_954) = x_1019 := fx_1019.symm
                      have ec_1023 : x_979 = x_1019 := c_983.symm.trans c_1023
                      subst ec_1023
                      refine g_iload_n C 2 dX12_go_263 rfl rfl ?_
                      refine g_icmp_ne C (tgt := 271) dX12_go_264 (by decide) (fun h_1024 => ?_) (fun h_1024 => ?_)
                      · skip
                        exact ne_no (h_1024) r_986 r_986
                      · skip
                        refine g_iconst C (v := 1) dX12_go_267 (by decide) ?_
                        refine g_goto C (tgt := 272) dX12_go_268 (by decide) ?_
                        refine g_istore_n C dX12_go_272 rfl (by decide) (lo2 := [(3, .int 1), (4, .int x_954), (2, .int x_979), (1, .int x_954), (0, .ref x)]) rfl ?_
                        refine g_aload_n C 4 dX12_go_273 rfl rfl ?_
                        refine g_getI C K hLx hkx f_12_95 (v := v_382) (kp_j hI_996 (by decide) (kp_j hI_967 (by decide) q_383)) dX12_go_274 ?_
                        refine g_aload_n C 4 dX12_go_277 rfl rfl ?_
                        refine g_getI C K hLx hkx f_12_98 (v := v_382) (kp_j hI_996 (by decide) (kp_s hI_967)) dX12_go_278 ?_
                        refine g_isub C (v := 0) dX12_go_281 (Int32.sub_self _) ?_
                        refine g_bipush C (v := 7) dX12_go_282 (by decide) ?_
                        refine g_icmp_ge C (tgt := 307) dX12_go_284 (by decide) (fun h_1025 => ?_) (fun h_1025 => ?_)
                        · skip
                          exact absurd (h_1025) (by decide)
                        · skip
                          refine g_aload_n C 4 dX12_go_287 rfl rfl ?_
                          refine g_ldc2 C kl_128 dX12_go_288 ?_
                          refine g_aload_n C 4 dX12_go_291 rfl rfl ?_
                          obtain ⟨y_1026, hy_1026⟩ : ∃ z, J_993 x 12 = z := ⟨_, rfl⟩
                          refine g_getJ C K hLx hkx f_12_117 (v := y_1026) hy_1026 dX12_go_292 ?_
                          refine g_lmulE C dX12_go_295 (fun y_1027 hy_1027 => ?_)
                          refine g_iload C 1 dX12_go_296 rfl ?_
                          obtain ⟨y_1028, hy_1028⟩ : ∃ z, Int32.toInt64 x_954 = z := ⟨_, rfl⟩
                          refine g_i2l C (v := y_1028) dX12_go_298 hy_1028 ?_
                          refine g_laddE C dX12_go_299 (fun y_1029 hy_1029 => ?_)
                          refine g_ldc2 C kl_130 dX12_go_300 ?_
                          refine g_lsubE C dX12_go_303 (fun y_1030 hy_1030 => ?_)
                          refine h_putJ C K hLx hkx f_12_117 p_12_12 dX12_go_304 (fun J_1031 hJ_1031 => ?_)
                          have hG_1032 := fq_puto hG_994 hJ_1031 hkx (by decide) (by decide)
                          have hs_1033 : MTq I_996 J_1031 x b_2 = (MT_.w_word (MT_.w_number (MT_.w_frm s_387 (v_382)) (0)) (y_1030)) := by rw [hJ_1031]; exact ((mq_word wmqx).trans (congrArg (fun z : MT_ => MT_.w_word z (y_1030)) hs_999)).trans rfl
                          refine g_aload_n C 4 dX12_go_307 rfl rfl ?_
                          refine g_getI C K hLx hkx f_12_95 (v := v_382) (kp_j hI_996 (by decide) (kp_j hI_967 (by decide) q_383)) dX12_go_308 ?_
                          refine g_aload_n C 4 dX12_go_311 rfl rfl ?_
                          refine g_getI C K hLx hkx f_12_98 (v := v_382) (kp_j hI_996 (by decide) (kp_s hI_967)) dX12_go_312 ?_
                          refine g_isub C (v := 0) dX12_go_315 (Int32.sub_self _) ?_
                          refine g_iconst C (v := 3) dX12_go_316 (by decide) ?_
                          refine g_icmp_ge C (tgt := 337) dX12_go_317 (by decide) (fun h_1034 => ?_) (fun h_1034 => ?_)
                          · skip
                            exact absurd (h_1034) (by decide)
                          · skip
                            refine g_aload_n C 4 dX12_go_320 rfl rfl ?_
                            refine g_bipush C (v := 10) dX12_go_321 (by decide) ?_
                            refine g_aload_n C 4 dX12_go_323 rfl rfl ?_
                            refine g_getI C K hLx hkx f_12_121 (v := 0) (kp_s hI_996) dX12_go_324 ?_
                            refine g_imul C (v := 0) dX12_go_327 (by decide) ?_
                            refine g_iload C 1 dX12_go_328 rfl ?_
                            obtain ⟨x_1035, hx_1035, rx_1035, tx_1035⟩ := ex_add 97 122 rc_0 r_987 (by decide) (by decide) (by decide) (by decide)
                            refine g_iadd C (v := x_1035) dX12_go_330 hx_1035 ?_
                            refine g_bipush C (v := 48) dX12_go_331 (by decide) ?_
                            obtain ⟨x_1036, hx_1036, rx_1036, tx_1036⟩ := ex_sub 49 74 rx_1035 rc_48 (by decide) (by decide) (by decide) (by decide)
                            refine g_isub C (v := x_1036) dX12_go_333 hx_1036 ?_
                            refine h_putI C K hLx hkx f_12_121 p_12_8 dX12_go_334 (fun I_1037 hI_1037 => ?_)
                            have hU_1038 := iw_put W9 hU_997 hI_1037 (ro_o hkx (by decide)) (lo := (-2147483648)) (hi := 2147483647) (rfl) (rg_all _) rfl
                            have hF_1039 := fq_puto hF_998 hI_1037 hkx (by decide) (by decide)
                            have hs_1040 : MTq I_1037 J_1031 x b_2 = (MT_.w_number (MT_.w_word (MT_.w_frm s_387 (v_382)) (y_1030)) (x_1036)) := by rw [hI_1037]; exact ((mq_number wmqx).trans (congrArg (fun z : MT_ => MT_.w_number z (x_1036)) hs_1033)).trans rfl
                            refine g_aload_n C 4 dX12_go_337 rfl rfl ?_
                            refine g_dup C dX12_go_338 rfl ?_
                            refine g_getI C K hLx hkx f_12_95 (v := v_382) (kp_j hI_1037 (by decide) (kp_j hI_996 (by decide) (kp_j hI_967 (by decide) q_383))) dX12_go_339 ?_
                            refine g_iconst C (v := 1) dX12_go_342 (by decide) ?_
                            obtain ⟨x_1041, hx_1041, rx_1041, tx_1041⟩ := ex_add 1 900 r_977 rc_1 (by decide) (by decide) (by decide) (by decide)
                            refine g_iadd C (v := x_1041) dX12_go_343 hx_1041 ?_
                            refine h_putI C K hLx hkx f_12_95 p_12_5 dX12_go_344 (fun I_1042 hI_1042 => ?_)
                            have hU_1043 := iw_put W9 hU_1038 hI_1042 (ro_o hkx (by decide)) (lo := 0) (hi := 940) (rfl) (rg_w rx_1041 (by decide) (by decide)) rfl
                            have hF_1044 := fq_puto hF_1039 hI_1042 hkx (by decide) (by decide)
                            have hs_1045 : MTq I_1042 J_1031 x b_2 = (MT_.w_to (MT_.w_number (MT_.w_word (MT_.w_frm s_387 (v_382)) (y_1030)) (x_1036)) (x_1041)) := by rw [hI_1042]; exact ((mq_to wmqx).trans (congrArg (fun z : MT_ => MT_.w_to z (x_1041)) hs_1040)).trans rfl
                            refine g_goto C (tgt := 215) dX12_go_347 (by decide) ?_
                            refine g_lo (is := [4, 3, 2, 0, 1]) (lo2 := [(0, .ref x), (1, .int x_954), (2, .int x_979), (3, .int 1), (4, .int x_954)]) rfl ?_
                            exact l_215 940 I_1042 J_1031 hU_1043 hF_1044 hG_1032 x_954 (rg_w r_987 (by decide) (by decide)) (n_966) (n_963) x_979 (rg_w r_986 (by decide) (by decide)) 1 (rg_w rc_1 (by decide) (by decide)) x_954 (rg_w r_987 (by decide) (by decide)) x_391 (rg_w r_974 (by decide) (by decide)) x_971 (rg_w r_975 (by decide) (by decide)) x_1041 (rg_w rx_1041 (by decide) (by decide)) v_382 (r_977) x_1036 (kp_j hI_1042 (by decide) (kp_j hI_1037 (by decide) (kp_j hI_996 (by decide) (kp_j hI_967 (by decide) hx_391)))) (kp_j hI_1042 (by decide) (kp_j hI_1037 (by decide) (kp_j hI_996 (by decide) hx_971))) (kp_s hI_1042) (kp_j hI_1042 (by decide) (kp_j hI_1037 (by decide) (kp_j hI_996 (by decide) (kp_s hI_967)))) (kp_j hI_1042 (by decide) (kp_s hI_1037)) (by (try simp only [f_390, hx_391, f_392, h_393, (nle h_393), hx_954, f_955, h_956, h_965, hx_971, f_972, h_973, h_976, c_983, h_984, c_1011, h_1015, h_1018, (eq_true h_1024), h_1025, (nle h_1025), hy_1026, hy_1027, hy_1028, hy_1029, hy_1030, h_1034, (nle h_1034), hx_1035, hx_1036, hx_1041, if_true, if_false, mqM_tp, mqM_size, mqM_limit, mqM_to, mqM_frm, mqM_kind, mqM_number, mqM_sign, mqM_word, MT_.w_tp, MT_.w_size, MT_.w_limit, MT_.w_to, MT_.w_frm, MT_.w_kind, MT_.w_number, MT_.w_sign, MT_.w_word] at hQ_388); (try simp only [f_390, hx_391, f_392, h_393, (nle h_393), hx_954, f_955, h_956, h_965, hx_971, f_972, h_973, h_976, c_983, h_984, c_1011, h_1015, h_1018, (eq_true h_1024), h_1025, (nle h_1025), hy_1026, hy_1027, hy_1028, hy_1029, hy_1030, h_1034, (nle h_1034), hx_1035, hx_1036, hx_1041, if_true, if_false, mqM_tp, mqM_size, mqM_limit, mqM_to, mqM_frm, mqM_kind, mqM_number, mqM_sign, mqM_word, MT_.w_tp, MT_.w_size, MT_.w_limit, MT_.w_to, MT_.w_frm, MT_.w_kind, MT_.w_number, MT_.w_sign, MT_.w_word] at u_389); (try simp only [f_390, hx_391, f_392, h_393, (nle h_393), hx_954, f_955, h_956, h_965, hx_971, f_972, h_973, h_976, c_983, h_984, c_1011, h_1015, h_1018, (eq_true h_1024), h_1025, (nle h_1025), hy_1026, hy_1027, hy_1028, hy_1029, hy_1030, h_1034, (nle h_1034), hx_1035, hx_1036, hx_1041, if_true, if_false, mqM_tp, mqM_size, mqM_limit, mqM_to, mqM_frm, mqM_kind, mqM_number, mqM_sign, mqM_word, MT_.w_tp, MT_.w_size, MT_.w_limit, MT_.w_to, MT_.w_frm, MT_.w_kind, MT_.w_number, MT_.w_sign, MT_.w_word] at u_1000); (try simp only [f_390, hx_391, f_392, h_393, (nle h_393), hx_954, f_955, h_956, h_965, hx_971, f_972, h_973, h_976, c_983, h_984, c_1011, h_1015, h_1018, (eq_true h_1024), h_1025, (nle h_1025), hy_1026, hy_1027, hy_1028, hy_1029, hy_1030, h_1034, (nle h_1034), hx_1035, hx_1036, hx_1041, if_true, if_false, mqM_tp, mqM_size, mqM_limit, mqM_to, mqM_frm, mqM_kind, mqM_number, mqM_sign, mqM_word, MT_.w_tp, MT_.w_size, MT_.w_limit, MT_.w_to, MT_.w_frm, MT_.w_kind, MT_.w_number, MT_.w_sign, MT_.w_word] at c_1005); simp only [mGo, mGo2, mGo3, mGoE, mSg, mStep, mGood, emqx, hs_1045, hs_3, hQ_388, f_390, u_389, hx_391, f_392, h_393, (nle h_393), hx_954, f_955, h_956, h_965, hx_971, f_972, h_973, h_976, c_983, h_984, u_1000, c_1005, c_1011, h_1015, h_1018, (eq_true h_1024), h_1025, (nle h_1025), hy_1026, hy_1027, hy_1028, hy_1029, hy_1030, h_1034, (nle h_1034), hx_1035, hx_1036, hx_1041, if_true, if_false, mqM_tp, mqM_size, mqM_limit, mqM_to, mqM_frm, mqM_kind, mqM_number, mqM_sign, mqM_word, MT_.w_tp, MT_.w_size, MT_.w_limit, MT_.w_to, MT_.w_frm, MT_.w_kind, MT_.w_number, MT_.w_sign, MT_.w_word]) (by have := hj_385; have := (ti_k tx_1041 rc_1); omega) (ms_s (a := 1) (b := 940) (N := 940) (rg_w rx_1041 (by decide) (by decide)) (by decide))
                  · skip
                    exact eq_no (h_1015) r_1014 rc_0 (by decide)
                · skip
                  have r_1046 := (⟨(rx_979).1, (eq_rg (h_984) rc_0).2⟩ : Rg 0 0 x_979)
                  refine g_iload_n C 0 dX12_go_130 rfl rfl ?_
                  refine g_callSI C K (c_X12_isDigit W9 x_954  hU_968) s_12_111 rfl ⟨rfl, rfl⟩ ⟨Nat.le_of_ble_eq_true rfl, Nat.le_of_ble_eq_true rfl⟩ (Nat.le_of_ble_eq_true rfl) ⟨Nat.le_of_ble_eq_true rfl, Nat.le_of_ble_eq_true rfl⟩ dX12_go_131 rfl (st := []) (fun x_1047 I_1048 J_1049 h_1050 => ?_)
                  obtain ⟨rfl, rfl, rx_1047, fx_1047, ex_1047⟩ := h_1050
                  have c_1051 : isDc (x_954) = x_1047 := fx_1047.symm
                  refine g_if_ne C (tgt := 198) dX12_go_134 (by decide) (fun h_1052 => ?_) (fun h_1052 => ?_)
                  · skip
                    have n_1053 : ¬ x_1047 = 0 := h_1052
                    have r_1054 := ne_lo (lo := 1) n_1053 rx_1047 rc_0 rfl (by decide)
                    have r_1055 := rg_i rx_954 ((ex_1047.2) n_1053) (lo := 48) (hi := 57) (by decide) (by decide)
                    refine g_iload_n C 0 dX12_go_198 rfl rfl ?_
                    refine g_callSI C K (c_X12_isLetter W9 x_954  hU_968) s_12_107 rfl ⟨rfl, rfl⟩ ⟨Nat.le_of_ble_eq_true rfl, Nat.le_of_ble_eq_true rfl⟩ (Nat.le_of_ble_eq_true rfl) ⟨Nat.le_of_ble_eq_true rfl, Nat.le_of_ble_eq_true rfl⟩ dX12_go_199 rfl (st := []) (fun x_1056 I_1057 J_1058 h_1059 => ?_)
                    obtain ⟨rfl, rfl, rx_1056, fx_1056, ex_1056⟩ := h_1059
                    have c_1060 : isLc (x_954) = x_1056 := fx_1056.symm
                    have ec_1060 : x_979 = x_1056 := c_983.symm.trans c_1060
                    subst ec_1060
                    refine g_istore_n C dX12_go_202 rfl (by decide) (lo2 := [(2, .int x_979), (1, .int x_954), (0, .ref x)]) rfl ?_
                    refine g_iconst C (v := 1) dX12_go_203 (by decide) ?_
                    refine g_istore_n C dX12_go_204 rfl (by decide) (lo2 := [(3, .int 1), (2, .int x_979), (1, .int x_954), (0, .ref x)]) rfl ?_
                    refine g_aload_n C 3 dX12_go_205 rfl rfl ?_
                    refine g_lconst C (v := 0) dX12_go_206 (by decide) ?_
                    refine h_putJ C K hLx hkx f_12_117 p_12_12 dX12_go_207 (fun J_1061 hJ_1061 => ?_)
                    have hG_1062 := fq_puto hG_381 hJ_1061 hkx (by decide) (by decide)
                    have hs_1063 : MTq I_967 J_1061 x b_2 = (MT_.w_word (MT_.w_frm s_387 (v_382)) (0)) := by rw [hJ_1061]; exact ((mq_word wmqx).trans (congrArg (fun z : MT_ => MT_.w_word z (0)) hs_970)).trans rfl
                    refine g_aload_n C 3 dX12_go_210 rfl rfl ?_
                    refine g_iconst C (v := 0) dX12_go_211 (by decide) ?_
                    refine h_putI C K hLx hkx f_12_121 p_12_8 dX12_go_212 (fun I_1064 hI_1064 => ?_)
                    have hU_1065 := iw_put W9 hU_968 hI_1064 (ro_o hkx (by decide)) (lo := (-2147483648)) (hi := 2147483647) (rfl) (rg_all _) rfl
                    have hF_1066 := fq_puto hF_969 hI_1064 hkx (by decide) (by decide)
                    have hs_1067 : MTq I_1064 J_1061 x b_2 = (MT_.w_number (MT_.w_word (MT_.w_frm s_387 (v_382)) (0)) (0)) := by rw [hI_1064]; exact ((mq_number wmqx).trans (congrArg (fun z : MT_ => MT_.w_number z (0)) hs_1063)).trans rfl
                    have u_1068 := mrun_eq (lt := x_979) (g := 1) (m := (MT_.w_number (MT_.w_word (MT_.w_frm s_387 (v_382)) (0)) (0))) ((congrArg MT_.to hs_1067).symm.trans (kp_j hI_1064 (by decide) (kp_j hI_967 (by decide) q_383))) (rg_w r_977 (by decide) (by decide))
                    refine g_aload_n C 3 dX12_go_215 rfl rfl ?_
                    refine g_aload_n C 3 dX12_go_216 rfl rfl ?_
                    refine g_getI C K hLx hkx f_12_95 (v := v_382) (kp_j hI_1064 (by decide) (kp_j hI_967 (by decide) q_383)) dX12_go_217 ?_
                    refine g_callVI C K (c_X12_tapeAt W9 hLx hkx v_382 (rg_w r_977 (by decide) (by decide)) hU_1065) hLx hkx (by decide) rfl v_12_124 rfl ⟨rfl, rfl⟩ ⟨Nat.le_of_ble_eq_true rfl, Nat.le_of_ble_eq_true rfl⟩ (Nat.le_of_ble_eq_true rfl) ⟨Nat.le_of_ble_eq_true rfl, Nat.le_of_ble_eq_true rfl⟩ dX12_go_220 rfl (st := []) (fun x_1069 I_1070 J_1071 h_1072 => ?_)
                    obtain ⟨rfl, rfl, rx_1069, fx_1069, ex_1069⟩ := h_1072
                    have c_1073 : mTapeAt (v_382) ((MT_.w_number (MT_.w_word (MT_.w_frm s_387 (v_382)) (0)) (0))) = x_1069 := by have q := fx_1069; simp only [emqx, hs_1067] at q; exact q.symm
                    have r_1074 := eq_rg ((ex_1069.1 _ hb_2 (by rw [(kp_j hI_1064 (by decide) (kp_j hI_967 (by decide) hx_391))]; exact h_976)).trans (kp_k (κ := κ) hI_1064 (by rw [hb_2k, hkx]; decide) (kp_k (κ := κ) hI_967 (by rw [hb_2k, hkx]; decide) hx_954))) r_1055
                    refine g_callSI C K (c_X12_isLetter W9 x_1069  hU_1065) s_12_107 rfl ⟨rfl, rfl⟩ ⟨Nat.le_of_ble_eq_true rfl, Nat.le_of_ble_eq_true rfl⟩ (Nat.le_of_ble_eq_true rfl) ⟨Nat.le_of_ble_eq_true rfl, Nat.le_of_ble_eq_true rfl⟩ dX12_go_223 rfl (st := []) (fun x_1075 I_1076 J_1077 h_1078 => ?_)
                    obtain ⟨rfl, rfl, rx_1075, fx_1075, ex_1075⟩ := h_1078
                    have c_1079 : isLc (x_1069) = x_1075 := fx_1075.symm
                    refine g_if_ne C (tgt := 243) dX12_go_226 (by decide) (fun h_1080 => ?_) (fun h_1080 => ?_)
                    · skip
                      have n_1081 : ¬ x_1075 = 0 := h_1080
                      have r_1082 := ne_lo (lo := 1) n_1081 rx_1075 rc_0 rfl (by decide)
                      have r_1083 := rg_i r_1074 ((ex_1075.2) n_1081) (lo := 97) (hi := 57) (by decide) (by decide)
                      exact rg_no r_1083 (by decide)
                    · skip
                      have r_1084 := (⟨(rx_1075).1, (eq_rg (h_1080) rc_0).2⟩ : Rg 0 0 x_1075)
                      refine g_aload_n C 3 dX12_go_229 rfl rfl ?_
                      refine g_aload_n C 3 dX12_go_230 rfl rfl ?_
                      refine g_getI C K hLx hkx f_12_95 (v := v_382) (kp_j hI_1064 (by decide) (kp_j hI_967 (by decide) q_383)) dX12_go_231 ?_
                      refine g_callVI C K (c_X12_tapeAt W9 hLx hkx v_382 (rg_w r_977 (by decide) (by decide)) hU_1065) hLx hkx (by decide) rfl v_12_124 rfl ⟨rfl, rfl⟩ ⟨Nat.le_of_ble_eq_true rfl, Nat.le_of_ble_eq_true rfl⟩ (Nat.le_of_ble_eq_true rfl) ⟨Nat.le_of_ble_eq_true rfl, Nat.le_of_ble_eq_true rfl⟩ dX12_go_234 rfl (st := []) (fun x_1085 I_1086 J_1087 h_1088 => ?_)
                      obtain ⟨rfl, rfl, rx_1085, fx_1085, ex_1085⟩ := h_1088
                      have c_1089 : mTapeAt (v_382) ((MT_.w_number (MT_.w_word (MT_.w_frm s_387 (v_382)) (0)) (0))) = x_1085 := by have q := fx_1085; simp only [emqx, hs_1067] at q; exact q.symm
                      have ec_1089 : x_1069 = x_1085 := c_1073.symm.trans c_1089
                      subst ec_1089
                      refine g_callSI C K (c_X12_isDigit W9 x_1069  hU_1065) s_12_111 rfl ⟨rfl, rfl⟩ ⟨Nat.le_of_ble_eq_true rfl, Nat.le_of_ble_eq_true rfl⟩ (Nat.le_of_ble_eq_true rfl) ⟨Nat.le_of_ble_eq_true rfl, Nat.le_of_ble_eq_true rfl⟩ dX12_go_237 rfl (st := []) (fun x_1090 I_1091 J_1092 h_1093 => ?_)
                      obtain ⟨rfl, rfl, rx_1090, fx_1090, ex_1090⟩ := h_1093
                      have c_1094 : isDc (x_1069) = x_1090 := fx_1090.symm
                      have n_1095 : ¬ x_1090 = 0 := by rcases ex_1090.1 with q | q | q; exact q; exact absurd q (by have := (r_1074).1; omega); exact absurd q (by have := (r_1074).2; omega)
                      have n_1096 : ¬ x_1090 = 0 := n_1095
                      have r_1097 := ne_lo (lo := 1) n_1096 rx_1090 rc_0 rfl (by decide)
                      refine g_if_eq C (tgt := 350) dX12_go_240 (by decide) (fun h_1098 => ?_) (fun h_1098 => ?_)
                      · skip
                        exact eq_no (h_1098) r_1097 rc_0 (by decide)
                      · skip
                        have n_1099 : ¬ x_1090 = 0 := h_1098
                        refine g_aload_n C 3 dX12_go_243 rfl rfl ?_
                        refine g_getR C K hLx hkx f_12_7 hb_2 dX12_go_244 ?_
                        refine g_aload_n C 3 dX12_go_247 rfl rfl ?_
                        refine g_getI C K hLx hkx f_12_95 (v := v_382) (kp_j hI_1064 (by decide) (kp_j hI_967 (by decide) q_383)) dX12_go_248 ?_
                        refine h_iald C K hb_2L hb_2k (v := x_954) (v_382.toNatClampNeg) (rfl) (ix_0 r_977 (by decide)) (ix_lt r_977 (by decide) hb_2n (by decide)) (kp_k (κ := κ) hI_1064 (by rw [hb_2k, hkx]; decide) (kp_k (κ := κ) hI_967 (by rw [hb_2k, hkx]; decide) hx_954)) dX12_go_251 ?_
                        refine g_istore C dX12_go_252 (by decide) (lo2 := [(4, .int x_954), (3, .int 1), (2, .int x_979), (1, .int x_954), (0, .ref x)]) rfl ?_
                        refine g_iload_n C 1 dX12_go_254 rfl rfl ?_
                        refine g_if_eq C (tgt := 271) dX12_go_255 (by decide) (fun h_1101 => ?_) (fun h_1101 => ?_)
                        · skip
                          exact absurd (h_1101) (by decide)
                        · skip
                          refine g_iload C 0 dX12_go_258 rfl ?_
                          refine g_callSI C K (c_X12_isLetter W9 x_954  hU_1065) s_12_107 rfl ⟨rfl, rfl⟩ ⟨Nat.le_of_ble_eq_true rfl, Nat.le_of_ble_eq_true rfl⟩ (Nat.le_of_ble_eq_true rfl) ⟨Nat.le_of_ble_eq_true rfl, Nat.le_of_ble_eq_true rfl⟩ dX12_go_260 rfl (st := []) (fun x_1102 I_1103 J_1104 h_1105 => ?_)
                          obtain ⟨rfl, rfl, rx_1102, fx_1102, ex_1102⟩ := h_1105
                          have c_1106 : isLc (x_954) = x_1102 := fx_1102.symm
                          have ec_1106 : x_979 = x_1102 := c_983.symm.trans c_1106
                          subst ec_1106
                          refine g_iload_n C 2 dX12_go_263 rfl rfl ?_
                          refine g_icmp_ne C (tgt := 271) dX12_go_264 (by decide) (fun h_1107 => ?_) (fun h_1107 => ?_)
                          · skip
                            exact ne_no (h_1107) r_1046 r_1046
                          · skip
                            refine g_iconst C (v := 1) dX12_go_267 (by decide) ?_
                            refine g_goto C (tgt := 272) dX12_go_268 (by decide) ?_
                            refine g_istore_n C dX12_go_272 rfl (by decide) (lo2 := [(3, .int 1), (4, .int x_954), (2, .int x_979), (1, .int x_954), (0, .ref x)]) rfl ?_
                            refine g_aload_n C 4 dX12_go_273 rfl rfl ?_
                            refine g_getI C K hLx hkx f_12_95 (v := v_382) (kp_j hI_1064 (by decide) (kp_j hI_967 (by decide) q_383)) dX12_go_274 ?_
                            refine g_aload_n C 4 dX12_go_277 rfl rfl ?_
                            refine g_getI C K hLx hkx f_12_98 (v := v_382) (kp_j hI_1064 (by decide) (kp_s hI_967)) dX12_go_278 ?_
                            refine g_isub C (v := 0) dX12_go_281 (Int32.sub_self _) ?_
                            refine g_bipush C (v := 7) dX12_go_282 (by decide) ?_
                            refine g_icmp_ge C (tgt := 307) dX12_go_284 (by decide) (fun h_1108 => ?_) (fun h_1108 => ?_)
                            · skip
                              exact absurd (h_1108) (by decide)
                            · skip
                              refine g_aload_n C 4 dX12_go_287 rfl rfl ?_
                              refine g_ldc2 C kl_128 dX12_go_288 ?_
                              refine g_aload_n C 4 dX12_go_291 rfl rfl ?_
                              obtain ⟨y_1109, hy_1109⟩ : ∃ z, J_1061 x 12 = z := ⟨_, rfl⟩
                              refine g_getJ C K hLx hkx f_12_117 (v := y_1109) hy_1109 dX12_go_292 ?_
                              refine g_lmulE C dX12_go_295 (fun y_1110 hy_1110 => ?_)
                              refine g_iload C 1 dX12_go_296 rfl ?_
                              obtain ⟨y_1111, hy_1111⟩ : ∃ z, Int32.toInt64 x_954 = z := ⟨_, rfl⟩
                              refine g_i2l C (v := y_1111) dX12_go_298 hy_1111 ?_
                              refine g_laddE C dX12_go_299 (fun y_1112 hy_1112 => ?_)
                              refine g_ldc2 C kl_130 dX12_go_300 ?_
                              refine g_lsubE C dX12_go_303 (fun y_1113 hy_1113 => ?_)
                              refine h_putJ C K hLx hkx f_12_117 p_12_12 dX12_go_304 (fun J_1114 hJ_1114 => ?_)
                              have hG_1115 := fq_puto hG_1062 hJ_1114 hkx (by decide) (by decide)
                              have hs_1116 : MTq I_1064 J_1114 x b_2 = (MT_.w_word (MT_.w_number (MT_.w_frm s_387 (v_382)) (0)) (y_1113)) := by rw [hJ_1114]; exact ((mq_word wmqx).trans (congrArg (fun z : MT_ => MT_.w_word z (y_1113)) hs_1067)).trans rfl
                              refine g_aload_n C 4 dX12_go_307 rfl rfl ?_
                              refine g_getI C K hLx hkx f_12_95 (v := v_382) (kp_j hI_1064 (by decide) (kp_j hI_967 (by decide) q_383)) dX12_go_308 ?_
                              refine g_aload_n C 4 dX12_go_311 rfl rfl ?_
                              refine g_getI C K hLx hkx f_12_98 (v := v_382) (kp_j hI_1064 (by decide) (kp_s hI_967)) dX12_go_312 ?_
                              refine g_isub C (v := 0) dX12_go_315 (Int32.sub_self _) ?_
                              refine g_iconst C (v := 3) dX12_go_316 (by decide) ?_
                              refine g_icmp_ge C (tgt := 337) dX12_go_317 (by decide) (fun h_1117 => ?_) (fun h_1117 => ?_)
                              · skip
                                exact absurd (h_1117) (by decide)
                              · skip
                                refine g_aload_n C 4 dX12_go_320 rfl rfl ?_
                                refine g_bipush C (v := 10) dX12_go_321 (by decide) ?_
                                refine g_aload_n C 4 dX12_go_323 rfl rfl ?_
                                refine g_getI C K hLx hkx f_12_121 (v := 0) (kp_s hI_1064) dX12_go_324 ?_
                                refine g_imul C (v := 0) dX12_go_327 (by decide) ?_
                                refine g_iload C 1 dX12_go_328 rfl ?_
                                obtain ⟨x_1118, hx_1118, rx_1118, tx_1118⟩ := ex_add 48 57 rc_0 r_1055 (by decide) (by decide) (by decide) (by decide)
                                refine g_iadd C (v := x_1118) dX12_go_330 hx_1118 ?_
                                refine g_bipush C (v := 48) dX12_go_331 (by decide) ?_
                                obtain ⟨x_1119, hx_1119, rx_1119, tx_1119⟩ := ex_sub 0 9 rx_1118 rc_48 (by decide) (by decide) (by decide) (by decide)
                                refine g_isub C (v := x_1119) dX12_go_333 hx_1119 ?_
                                refine h_putI C K hLx hkx f_12_121 p_12_8 dX12_go_334 (fun I_1120 hI_1120 => ?_)
                                have hU_1121 := iw_put W9 hU_1065 hI_1120 (ro_o hkx (by decide)) (lo := (-2147483648)) (hi := 2147483647) (rfl) (rg_all _) rfl
                                have hF_1122 := fq_puto hF_1066 hI_1120 hkx (by decide) (by decide)
                                have hs_1123 : MTq I_1120 J_1114 x b_2 = (MT_.w_number (MT_.w_word (MT_.w_frm s_387 (v_382)) (y_1113)) (x_1119)) := by rw [hI_1120]; exact ((mq_number wmqx).trans (congrArg (fun z : MT_ => MT_.w_number z (x_1119)) hs_1116)).trans rfl
                                refine g_aload_n C 4 dX12_go_337 rfl rfl ?_
                                refine g_dup C dX12_go_338 rfl ?_
                                refine g_getI C K hLx hkx f_12_95 (v := v_382) (kp_j hI_1120 (by decide) (kp_j hI_1064 (by decide) (kp_j hI_967 (by decide) q_383))) dX12_go_339 ?_
                                refine g_iconst C (v := 1) dX12_go_342 (by decide) ?_
                                obtain ⟨x_1124, hx_1124, rx_1124, tx_1124⟩ := ex_add 1 900 r_977 rc_1 (by decide) (by decide) (by decide) (by decide)
                                refine g_iadd C (v := x_1124) dX12_go_343 hx_1124 ?_
                                refine h_putI C K hLx hkx f_12_95 p_12_5 dX12_go_344 (fun I_1125 hI_1125 => ?_)
                                have hU_1126 := iw_put W9 hU_1121 hI_1125 (ro_o hkx (by decide)) (lo := 0) (hi := 940) (rfl) (rg_w rx_1124 (by decide) (by decide)) rfl
                                have hF_1127 := fq_puto hF_1122 hI_1125 hkx (by decide) (by decide)
                                have hs_1128 : MTq I_1125 J_1114 x b_2 = (MT_.w_to (MT_.w_number (MT_.w_word (MT_.w_frm s_387 (v_382)) (y_1113)) (x_1119)) (x_1124)) := by rw [hI_1125]; exact ((mq_to wmqx).trans (congrArg (fun z : MT_ => MT_.w_to z (x_1124)) hs_1123)).trans rfl
                                refine g_goto C (tgt := 215) dX12_go_347 (by decide) ?_
                                refine g_lo (is := [4, 3, 2, 0, 1]) (lo2 := [(0, .ref x), (1, .int x_954), (2, .int x_979), (3, .int 1), (4, .int x_954)]) rfl ?_
                                exact l_215 940 I_1125 J_1114 hU_1126 hF_1127 hG_1115 x_954 (rg_w r_1055 (by decide) (by decide)) (n_966) (n_963) x_979 (rg_w r_1046 (by decide) (by decide)) 1 (rg_w rc_1 (by decide) (by decide)) x_954 (rg_w r_1055 (by decide) (by decide)) x_391 (rg_w r_974 (by decide) (by decide)) x_971 (rg_w r_975 (by decide) (by decide)) x_1124 (rg_w rx_1124 (by decide) (by decide)) v_382 (r_977) x_1119 (kp_j hI_1125 (by decide) (kp_j hI_1120 (by decide) (kp_j hI_1064 (by decide) (kp_j hI_967 (by decide) hx_391)))) (kp_j hI_1125 (by decide) (kp_j hI_1120 (by decide) (kp_j hI_1064 (by decide) hx_971))) (kp_s hI_1125) (kp_j hI_1125 (by decide) (kp_j hI_1120 (by decide) (kp_j hI_1064 (by decide) (kp_s hI_967)))) (kp_j hI_1125 (by decide) (kp_s hI_1120)) (by (try simp only [f_390, hx_391, f_392, h_393, (nle h_393), hx_954, f_955, h_956, h_965, hx_971, f_972, h_973, h_976, c_983, (eq_true h_984), c_1051, h_1052, c_1079, (eq_true h_1080), c_1094, h_1098, h_1101, (eq_true h_1107), h_1108, (nle h_1108), hy_1109, hy_1110, hy_1111, hy_1112, hy_1113, h_1117, (nle h_1117), hx_1118, hx_1119, hx_1124, if_true, if_false, mqM_tp, mqM_size, mqM_limit, mqM_to, mqM_frm, mqM_kind, mqM_number, mqM_sign, mqM_word, MT_.w_tp, MT_.w_size, MT_.w_limit, MT_.w_to, MT_.w_frm, MT_.w_kind, MT_.w_number, MT_.w_sign, MT_.w_word] at hQ_388); (try simp only [f_390, hx_391, f_392, h_393, (nle h_393), hx_954, f_955, h_956, h_965, hx_971, f_972, h_973, h_976, c_983, (eq_true h_984), c_1051, h_1052, c_1079, (eq_true h_1080), c_1094, h_1098, h_1101, (eq_true h_1107), h_1108, (nle h_1108), hy_1109, hy_1110, hy_1111, hy_1112, hy_1113, h_1117, (nle h_1117), hx_1118, hx_1119, hx_1124, if_true, if_false, mqM_tp, mqM_size, mqM_limit, mqM_to, mqM_frm, mqM_kind, mqM_number, mqM_sign, mqM_word, MT_.w_tp, MT_.w_size, MT_.w_limit, MT_.w_to, MT_.w_frm, MT_.w_kind, MT_.w_number, MT_.w_sign, MT_.w_word] at u_389); (try simp only [f_390, hx_391, f_392, h_393, (nle h_393), hx_954, f_955, h_956, h_965, hx_971, f_972, h_973, h_976, c_983, (eq_true h_984), c_1051, h_1052, c_1079, (eq_true h_1080), c_1094, h_1098, h_1101, (eq_true h_1107), h_1108, (nle h_1108), hy_1109, hy_1110, hy_1111, hy_1112, hy_1113, h_1117, (nle h_1117), hx_1118, hx_1119, hx_1124, if_true, if_false, mqM_tp, mqM_size, mqM_limit, mqM_to, mqM_frm, mqM_kind, mqM_number, mqM_sign, mqM_word, MT_.w_tp, MT_.w_size, MT_.w_limit, MT_.w_to, MT_.w_frm, MT_.w_kind, MT_.w_number, MT_.w_sign, MT_.w_word] at u_1068); (try simp only [f_390, hx_391, f_392, h_393, (nle h_393), hx_954, f_955, h_956, h_965, hx_971, f_972, h_973, h_976, c_983, (eq_true h_984), c_1051, h_1052, c_1079, (eq_true h_1080), c_1094, h_1098, h_1101, (eq_true h_1107), h_1108, (nle h_1108), hy_1109, hy_1110, hy_1111, hy_1112, hy_1113, h_1117, (nle h_1117), hx_1118, hx_1119, hx_1124, if_true, if_false, mqM_tp, mqM_size, mqM_limit, mqM_to, mqM_frm, mqM_kind, mqM_number, mqM_sign, mqM_word, MT_.w_tp, MT_.w_size, MT_.w_limit, MT_.w_to, MT_.w_frm, MT_.w_kind, MT_.w_number, MT_.w_sign, MT_.w_word] at c_1073); simp only [mGo, mGo2, mGo3, mGoE, mSg, mStep, mGood, emqx, hs_1128, hs_3, hQ_388, f_390, u_389, hx_391, f_392, h_393, (nle h_393), hx_954, f_955, h_956, h_965, hx_971, f_972, h_973, h_976, c_983, (eq_true h_984), c_1051, h_1052, u_1068, c_1073, c_1079, (eq_true h_1080), c_1094, h_1098, h_1101, (eq_true h_1107), h_1108, (nle h_1108), hy_1109, hy_1110, hy_1111, hy_1112, hy_1113, h_1117, (nle h_1117), hx_1118, hx_1119, hx_1124, if_true, if_false, mqM_tp, mqM_size, mqM_limit, mqM_to, mqM_frm, mqM_kind, mqM_number, mqM_sign, mqM_word, MT_.w_tp, MT_.w_size, MT_.w_limit, MT_.w_to, MT_.w_frm, MT_.w_kind, MT_.w_number, MT_.w_sign, MT_.w_word]) (by have := hj_385; have := (ti_k tx_1124 rc_1); omega) (ms_s (a := 1) (b := 940) (N := 940) (rg_w rx_1124 (by decide) (by decide)) (by decide))
                  · skip
                    have r_1129 := (⟨(rx_1047).1, (eq_rg (h_1052) rc_0).2⟩ : Rg 0 0 x_1047)
                    refine g_aload_n C 1 dX12_go_137 rfl rfl ?_
                    refine g_iload_n C 0 dX12_go_138 rfl rfl ?_
                    refine g_bipush C (v := 59) dX12_go_139 (by decide) ?_
                    refine g_icmp_eq C (tgt := 174) dX12_go_141 (by decide) (fun h_1130 => ?_) (fun h_1130 => ?_)
                    · skip
                      have r_1131 := (⟨(eq_rg (h_1130) rc_59).1, (eq_rg (h_1130) rc_59).2⟩ : Rg 59 59 x_954)
                      refine g_iconst C (v := 4) dX12_go_174 (by decide) ?_
                      refine g_goto C (tgt := 179) dX12_go_175 (by decide) ?_
                      refine h_putI C K hLx hkx f_12_104 p_12_7 dX12_go_179 (fun I_1132 hI_1132 => ?_)
                      have hU_1133 := iw_put W9 hU_968 hI_1132 (ro_o hkx (by decide)) (lo := 0) (hi := 4) (rfl) (rg_w rc_4 (by decide) (by decide)) rfl
                      have hF_1134 := fq_puto hF_969 hI_1132 hkx (by decide) (by decide)
                      have hs_1135 : MTq I_1132 J_378 x b_2 = (MT_.w_kind (MT_.w_frm s_387 (v_382)) (4)) := by rw [hI_1132]; exact ((mq_kind wmqx).trans (congrArg (fun z : MT_ => MT_.w_kind z (4)) hs_970)).trans rfl
                      refine g_aload_n C 1 dX12_go_182 rfl rfl ?_
                      refine g_iload_n C 0 dX12_go_183 rfl rfl ?_
                      refine h_putI C K hLx hkx f_12_114 p_12_9 dX12_go_184 (fun I_1136 hI_1136 => ?_)
                      have hU_1137 := iw_put W9 hU_1133 hI_1136 (ro_o hkx (by decide)) (lo := (-2147483648)) (hi := 2147483647) (rfl) (rg_all _) rfl
                      have hF_1138 := fq_puto hF_1134 hI_1136 hkx (by decide) (by decide)
                      have hs_1139 : MTq I_1136 J_378 x b_2 = (MT_.w_sign (MT_.w_kind (MT_.w_frm s_387 (v_382)) (4)) (x_954)) := by rw [hI_1136]; exact ((mq_sign wmqx).trans (congrArg (fun z : MT_ => MT_.w_sign z (x_954)) hs_1135)).trans rfl
                      refine g_aload_n C 1 dX12_go_187 rfl rfl ?_
                      refine g_dup C dX12_go_188 rfl ?_
                      refine g_getI C K hLx hkx f_12_95 (v := v_382) (kp_j hI_1136 (by decide) (kp_j hI_1132 (by decide) (kp_j hI_967 (by decide) q_383))) dX12_go_189 ?_
                      refine g_iconst C (v := 1) dX12_go_192 (by decide) ?_
                      obtain ⟨x_1140, hx_1140, rx_1140, tx_1140⟩ := ex_add 1 900 r_977 rc_1 (by decide) (by decide) (by decide) (by decide)
                      refine g_iadd C (v := x_1140) dX12_go_193 hx_1140 ?_
                      refine h_putI C K hLx hkx f_12_95 p_12_5 dX12_go_194 (fun I_1141 hI_1141 => ?_)
                      have hU_1142 := iw_put W9 hU_1137 hI_1141 (ro_o hkx (by decide)) (lo := 0) (hi := 940) (rfl) (rg_w rx_1140 (by decide) (by decide)) rfl
                      have hF_1143 := fq_puto hF_1138 hI_1141 hkx (by decide) (by decide)
                      have hs_1144 : MTq I_1141 J_378 x b_2 = (MT_.w_to (MT_.w_sign (MT_.w_kind (MT_.w_frm s_387 (v_382)) (4)) (x_954)) (x_1140)) := by rw [hI_1141]; exact ((mq_to wmqx).trans (congrArg (fun z : MT_ => MT_.w_to z (x_1140)) hs_1139)).trans rfl
                      exact g_vret B K rfl ⟨hU_1142, hF_1143, hG_381, (by (try simp only [f_390, hx_391, f_392, h_393, (nle h_393), hx_954, f_955, h_956, h_965, hx_971, f_972, h_973, h_976, c_983, (eq_true h_984), c_1051, (eq_true h_1052), (eq_true h_1130), hx_1140, if_true, if_false, mqM_tp, mqM_size, mqM_limit, mqM_to, mqM_frm, mqM_kind, mqM_number, mqM_sign, mqM_word, MT_.w_tp, MT_.w_size, MT_.w_limit, MT_.w_to, MT_.w_frm, MT_.w_kind, MT_.w_number, MT_.w_sign, MT_.w_word] at hQ_388); (try simp only [f_390, hx_391, f_392, h_393, (nle h_393), hx_954, f_955, h_956, h_965, hx_971, f_972, h_973, h_976, c_983, (eq_true h_984), c_1051, (eq_true h_1052), (eq_true h_1130), hx_1140, if_true, if_false, mqM_tp, mqM_size, mqM_limit, mqM_to, mqM_frm, mqM_kind, mqM_number, mqM_sign, mqM_word, MT_.w_tp, MT_.w_size, MT_.w_limit, MT_.w_to, MT_.w_frm, MT_.w_kind, MT_.w_number, MT_.w_sign, MT_.w_word] at u_389); simp only [mGo, mGo2, mGo3, mGoE, mSg, mStep, mGood, emqx, hs_1144, hs_3, hQ_388, f_390, u_389, hx_391, f_392, h_393, (nle h_393), hx_954, f_955, h_956, h_965, hx_971, f_972, h_973, h_976, c_983, (eq_true h_984), c_1051, (eq_true h_1052), (eq_true h_1130), hx_1140, if_true, if_false, mqM_tp, mqM_size, mqM_limit, mqM_to, mqM_frm, mqM_kind, mqM_number, mqM_sign, mqM_word, MT_.w_tp, MT_.w_size, MT_.w_limit, MT_.w_to, MT_.w_frm, MT_.w_kind, MT_.w_number, MT_.w_sign, MT_.w_word]), (ps_mk hx_1 (kp_s hI_1141) (kp_j hI_1141 (by decide) (kp_j hI_1136 (by decide) (kp_s hI_1132))) (Int.le_of_lt (by have := hj_385; have := (ti_k tx_1140 rc_1); omega)) (Or.inl (by have := hj_385; have := (ti_k tx_1140 rc_1); omega)))⟩ dX12_go_197
                    · skip
                      have n_1145 : ¬ x_954 = 59 := h_1130
                      refine g_iload_n C 0 dX12_go_144 rfl rfl ?_
                      refine g_bipush C (v := 60) dX12_go_145 (by decide) ?_
                      refine g_icmp_eq C (tgt := 174) dX12_go_147 (by decide) (fun h_1146 => ?_) (fun h_1146 => ?_)
                      · skip
                        have r_1147 := (⟨(eq_rg (h_1146) rc_60).1, (eq_rg (h_1146) rc_60).2⟩ : Rg 60 60 x_954)
                        refine g_iconst C (v := 4) dX12_go_174 (by decide) ?_
                        refine g_goto C (tgt := 179) dX12_go_175 (by decide) ?_
                        refine h_putI C K hLx hkx f_12_104 p_12_7 dX12_go_179 (fun I_1148 hI_1148 => ?_)
                        have hU_1149 := iw_put W9 hU_968 hI_1148 (ro_o hkx (by decide)) (lo := 0) (hi := 4) (rfl) (rg_w rc_4 (by decide) (by decide)) rfl
                        have hF_1150 := fq_puto hF_969 hI_1148 hkx (by decide) (by decide)
                        have hs_1151 : MTq I_1148 J_378 x b_2 = (MT_.w_kind (MT_.w_frm s_387 (v_382)) (4)) := by rw [hI_1148]; exact ((mq_kind wmqx).trans (congrArg (fun z : MT_ => MT_.w_kind z (4)) hs_970)).trans rfl
                        refine g_aload_n C 1 dX12_go_182 rfl rfl ?_
                        refine g_iload_n C 0 dX12_go_183 rfl rfl ?_
                        refine h_putI C K hLx hkx f_12_114 p_12_9 dX12_go_184 (fun I_1152 hI_1152 => ?_)
                        have hU_1153 := iw_put W9 hU_1149 hI_1152 (ro_o hkx (by decide)) (lo := (-2147483648)) (hi := 2147483647) (rfl) (rg_all _) rfl
                        have hF_1154 := fq_puto hF_1150 hI_1152 hkx (by decide) (by decide)
                        have hs_1155 : MTq I_1152 J_378 x b_2 = (MT_.w_sign (MT_.w_kind (MT_.w_frm s_387 (v_382)) (4)) (x_954)) := by rw [hI_1152]; exact ((mq_sign wmqx).trans (congrArg (fun z : MT_ => MT_.w_sign z (x_954)) hs_1151)).trans rfl
                        refine g_aload_n C 1 dX12_go_187 rfl rfl ?_
                        refine g_dup C dX12_go_188 rfl ?_
                        refine g_getI C K hLx hkx f_12_95 (v := v_382) (kp_j hI_1152 (by decide) (kp_j hI_1148 (by decide) (kp_j hI_967 (by decide) q_383))) dX12_go_189 ?_
                        refine g_iconst C (v := 1) dX12_go_192 (by decide) ?_
                        obtain ⟨x_1156, hx_1156, rx_1156, tx_1156⟩ := ex_add 1 900 r_977 rc_1 (by decide) (by decide) (by decide) (by decide)
                        refine g_iadd C (v := x_1156) dX12_go_193 hx_1156 ?_
                        refine h_putI C K hLx hkx f_12_95 p_12_5 dX12_go_194 (fun I_1157 hI_1157 => ?_)
                        have hU_1158 := iw_put W9 hU_1153 hI_1157 (ro_o hkx (by decide)) (lo := 0) (hi := 940) (rfl) (rg_w rx_1156 (by decide) (by decide)) rfl
                        have hF_1159 := fq_puto hF_1154 hI_1157 hkx (by decide) (by decide)
                        have hs_1160 : MTq I_1157 J_378 x b_2 = (MT_.w_to (MT_.w_sign (MT_.w_kind (MT_.w_frm s_387 (v_382)) (4)) (x_954)) (x_1156)) := by rw [hI_1157]; exact ((mq_to wmqx).trans (congrArg (fun z : MT_ => MT_.w_to z (x_1156)) hs_1155)).trans rfl
                        exact g_vret B K rfl ⟨hU_1158, hF_1159, hG_381, (by (try simp only [f_390, hx_391, f_392, h_393, (nle h_393), hx_954, f_955, h_956, h_965, hx_971, f_972, h_973, h_976, c_983, (eq_true h_984), c_1051, (eq_true h_1052), h_1130, (eq_true h_1146), hx_1156, if_true, if_false, mqM_tp, mqM_size, mqM_limit, mqM_to, mqM_frm, mqM_kind, mqM_number, mqM_sign, mqM_word, MT_.w_tp, MT_.w_size, MT_.w_limit, MT_.w_to, MT_.w_frm, MT_.w_kind, MT_.w_number, MT_.w_sign, MT_.w_word] at hQ_388); (try simp only [f_390, hx_391, f_392, h_393, (nle h_393), hx_954, f_955, h_956, h_965, hx_971, f_972, h_973, h_976, c_983, (eq_true h_984), c_1051, (eq_true h_1052), h_1130, (eq_true h_1146), hx_1156, if_true, if_false, mqM_tp, mqM_size, mqM_limit, mqM_to, mqM_frm, mqM_kind, mqM_number, mqM_sign, mqM_word, MT_.w_tp, MT_.w_size, MT_.w_limit, MT_.w_to, MT_.w_frm, MT_.w_kind, MT_.w_number, MT_.w_sign, MT_.w_word] at u_389); simp only [mGo, mGo2, mGo3, mGoE, mSg, mStep, mGood, emqx, hs_1160, hs_3, hQ_388, f_390, u_389, hx_391, f_392, h_393, (nle h_393), hx_954, f_955, h_956, h_965, hx_971, f_972, h_973, h_976, c_983, (eq_true h_984), c_1051, (eq_true h_1052), h_1130, (eq_true h_1146), hx_1156, if_true, if_false, mqM_tp, mqM_size, mqM_limit, mqM_to, mqM_frm, mqM_kind, mqM_number, mqM_sign, mqM_word, MT_.w_tp, MT_.w_size, MT_.w_limit, MT_.w_to, MT_.w_frm, MT_.w_kind, MT_.w_number, MT_.w_sign, MT_.w_word]), (ps_mk hx_1 (kp_s hI_1157) (kp_j hI_1157 (by decide) (kp_j hI_1152 (by decide) (kp_s hI_1148))) (Int.le_of_lt (by have := hj_385; have := (ti_k tx_1156 rc_1); omega)) (Or.inl (by have := hj_385; have := (ti_k tx_1156 rc_1); omega)))⟩ dX12_go_197
                      · skip
                        have n_1161 : ¬ x_954 = 60 := h_1146
                        refine g_iload_n C 0 dX12_go_150 rfl rfl ?_
                        refine g_bipush C (v := 61) dX12_go_151 (by decide) ?_
                        refine g_icmp_eq C (tgt := 174) dX12_go_153 (by decide) (fun h_1162 => ?_) (fun h_1162 => ?_)
                        · skip
                          have r_1163 := (⟨(eq_rg (h_1162) rc_61).1, (eq_rg (h_1162) rc_61).2⟩ : Rg 61 61 x_954)
                          refine g_iconst C (v := 4) dX12_go_174 (by decide) ?_
                          refine g_goto C (tgt := 179) dX12_go_175 (by decide) ?_
                          refine h_putI C K hLx hkx f_12_104 p_12_7 dX12_go_179 (fun I_1164 hI_1164 => ?_)
                          have hU_1165 := iw_put W9 hU_968 hI_1164 (ro_o hkx (by decide)) (lo := 0) (hi := 4) (rfl) (rg_w rc_4 (by decide) (by decide)) rfl
                          have hF_1166 := fq_puto hF_969 hI_1164 hkx (by decide) (by decide)
                          have hs_1167 : MTq I_1164 J_378 x b_2 = (MT_.w_kind (MT_.w_frm s_387 (v_382)) (4)) := by rw [hI_1164]; exact ((mq_kind wmqx).trans (congrArg (fun z : MT_ => MT_.w_kind z (4)) hs_970)).trans rfl
                          refine g_aload_n C 1 dX12_go_182 rfl rfl ?_
                          refine g_iload_n C 0 dX12_go_183 rfl rfl ?_
                          refine h_putI C K hLx hkx f_12_114 p_12_9 dX12_go_184 (fun I_1168 hI_1168 => ?_)
                          have hU_1169 := iw_put W9 hU_1165 hI_1168 (ro_o hkx (by decide)) (lo := (-2147483648)) (hi := 2147483647) (rfl) (rg_all _) rfl
                          have hF_1170 := fq_puto hF_1166 hI_1168 hkx (by decide) (by decide)
                          have hs_1171 : MTq I_1168 J_378 x b_2 = (MT_.w_sign (MT_.w_kind (MT_.w_frm s_387 (v_382)) (4)) (x_954)) := by rw [hI_1168]; exact ((mq_sign wmqx).trans (congrArg (fun z : MT_ => MT_.w_sign z (x_954)) hs_1167)).trans rfl
                          refine g_aload_n C 1 dX12_go_187 rfl rfl ?_
                          refine g_dup C dX12_go_188 rfl ?_
                          refine g_getI C K hLx hkx f_12_95 (v := v_382) (kp_j hI_1168 (by decide) (kp_j hI_1164 (by decide) (kp_j hI_967 (by decide) q_383))) dX12_go_189 ?_
                          refine g_iconst C (v := 1) dX12_go_192 (by decide) ?_
                          obtain ⟨x_1172, hx_1172, rx_1172, tx_1172⟩ := ex_add 1 900 r_977 rc_1 (by decide) (by decide) (by decide) (by decide)
                          refine g_iadd C (v := x_1172) dX12_go_193 hx_1172 ?_
                          refine h_putI C K hLx hkx f_12_95 p_12_5 dX12_go_194 (fun I_1173 hI_1173 => ?_)
                          have hU_1174 := iw_put W9 hU_1169 hI_1173 (ro_o hkx (by decide)) (lo := 0) (hi := 940) (rfl) (rg_w rx_1172 (by decide) (by decide)) rfl
                          have hF_1175 := fq_puto hF_1170 hI_1173 hkx (by decide) (by decide)
                          have hs_1176 : MTq I_1173 J_378 x b_2 = (MT_.w_to (MT_.w_sign (MT_.w_kind (MT_.w_frm s_387 (v_382)) (4)) (x_954)) (x_1172)) := by rw [hI_1173]; exact ((mq_to wmqx).trans (congrArg (fun z : MT_ => MT_.w_to z (x_1172)) hs_1171)).trans rfl
                          exact g_vret B K rfl ⟨hU_1174, hF_1175, hG_381, (by (try simp only [f_390, hx_391, f_392, h_393, (nle h_393), hx_954, f_955, h_956, h_965, hx_971, f_972, h_973, h_976, c_983, (eq_true h_984), c_1051, (eq_true h_1052), h_1130, h_1146, (eq_true h_1162), hx_1172, if_true, if_false, mqM_tp, mqM_size, mqM_limit, mqM_to, mqM_frm, mqM_kind, mqM_number, mqM_sign, mqM_word, MT_.w_tp, MT_.w_size, MT_.w_limit, MT_.w_to, MT_.w_frm, MT_.w_kind, MT_.w_number, MT_.w_sign, MT_.w_word] at hQ_388); (try simp only [f_390, hx_391, f_392, h_393, (nle h_393), hx_954, f_955, h_956, h_965, hx_971, f_972, h_973, h_976, c_983, (eq_true h_984), c_1051, (eq_true h_1052), h_1130, h_1146, (eq_true h_1162), hx_1172, if_true, if_false, mqM_tp, mqM_size, mqM_limit, mqM_to, mqM_frm, mqM_kind, mqM_number, mqM_sign, mqM_word, MT_.w_tp, MT_.w_size, MT_.w_limit, MT_.w_to, MT_.w_frm, MT_.w_kind, MT_.w_number, MT_.w_sign, MT_.w_word] at u_389); simp only [mGo, mGo2, mGo3, mGoE, mSg, mStep, mGood, emqx, hs_1176, hs_3, hQ_388, f_390, u_389, hx_391, f_392, h_393, (nle h_393), hx_954, f_955, h_956, h_965, hx_971, f_972, h_973, h_976, c_983, (eq_true h_984), c_1051, (eq_true h_1052), h_1130, h_1146, (eq_true h_1162), hx_1172, if_true, if_false, mqM_tp, mqM_size, mqM_limit, mqM_to, mqM_frm, mqM_kind, mqM_number, mqM_sign, mqM_word, MT_.w_tp, MT_.w_size, MT_.w_limit, MT_.w_to, MT_.w_frm, MT_.w_kind, MT_.w_number, MT_.w_sign, MT_.w_word]), (ps_mk hx_1 (kp_s hI_1173) (kp_j hI_1173 (by decide) (kp_j hI_1168 (by decide) (kp_s hI_1164))) (Int.le_of_lt (by have := hj_385; have := (ti_k tx_1172 rc_1); omega)) (Or.inl (by have := hj_385; have := (ti_k tx_1172 rc_1); omega)))⟩ dX12_go_197
                        · skip
                          have n_1177 : ¬ x_954 = 61 := h_1162
                          refine g_iload_n C 0 dX12_go_156 rfl rfl ?_
                          refine g_bipush C (v := 62) dX12_go_157 (by decide) ?_
                          refine g_icmp_eq C (tgt := 174) dX12_go_159 (by decide) (fun h_1178 => ?_) (fun h_1178 => ?_)
                          · skip
                            have r_1179 := (⟨(eq_rg (h_1178) rc_62).1, (eq_rg (h_1178) rc_62).2⟩ : Rg 62 62 x_954)
                            refine g_iconst C (v := 4) dX12_go_174 (by decide) ?_
                            refine g_goto C (tgt := 179) dX12_go_175 (by decide) ?_
                            refine h_putI C K hLx hkx f_12_104 p_12_7 dX12_go_179 (fun I_1180 hI_1180 => ?_)
                            have hU_1181 := iw_put W9 hU_968 hI_1180 (ro_o hkx (by decide)) (lo := 0) (hi := 4) (rfl) (rg_w rc_4 (by decide) (by decide)) rfl
                            have hF_1182 := fq_puto hF_969 hI_1180 hkx (by decide) (by decide)
                            have hs_1183 : MTq I_1180 J_378 x b_2 = (MT_.w_kind (MT_.w_frm s_387 (v_382)) (4)) := by rw [hI_1180]; exact ((mq_kind wmqx).trans (congrArg (fun z : MT_ => MT_.w_kind z (4)) hs_970)).trans rfl
                            refine g_aload_n C 1 dX12_go_182 rfl rfl ?_
                            refine g_iload_n C 0 dX12_go_183 rfl rfl ?_
                            refine h_putI C K hLx hkx f_12_114 p_12_9 dX12_go_184 (fun I_1184 hI_1184 => ?_)
                            have hU_1185 := iw_put W9 hU_1181 hI_1184 (ro_o hkx (by decide)) (lo := (-2147483648)) (hi := 2147483647) (rfl) (rg_all _) rfl
                            have hF_1186 := fq_puto hF_1182 hI_1184 hkx (by decide) (by decide)
                            have hs_1187 : MTq I_1184 J_378 x b_2 = (MT_.w_sign (MT_.w_kind (MT_.w_frm s_387 (v_382)) (4)) (x_954)) := by rw [hI_1184]; exact ((mq_sign wmqx).trans (congrArg (fun z : MT_ => MT_.w_sign z (x_954)) hs_1183)).trans rfl
                            refine g_aload_n C 1 dX12_go_187 rfl rfl ?_
                            refine g_dup C dX12_go_188 rfl ?_
                            refine g_getI C K hLx hkx f_12_95 (v := v_382) (kp_j hI_1184 (by decide) (kp_j hI_1180 (by decide) (kp_j hI_967 (by decide) q_383))) dX12_go_189 ?_
                            refine g_iconst C (v := 1) dX12_go_192 (by decide) ?_
                            obtain ⟨x_1188, hx_1188, rx_1188, tx_1188⟩ := ex_add 1 900 r_977 rc_1 (by decide) (by decide) (by decide) (by decide)
                            refine g_iadd C (v := x_1188) dX12_go_193 hx_1188 ?_
                            refine h_putI C K hLx hkx f_12_95 p_12_5 dX12_go_194 (fun I_1189 hI_1189 => ?_)
                            have hU_1190 := iw_put W9 hU_1185 hI_1189 (ro_o hkx (by decide)) (lo := 0) (hi := 940) (rfl) (rg_w rx_1188 (by decide) (by decide)) rfl
                            have hF_1191 := fq_puto hF_1186 hI_1189 hkx (by decide) (by decide)
                            have hs_1192 : MTq I_1189 J_378 x b_2 = (MT_.w_to (MT_.w_sign (MT_.w_kind (MT_.w_frm s_387 (v_382)) (4)) (x_954)) (x_1188)) := by rw [hI_1189]; exact ((mq_to wmqx).trans (congrArg (fun z : MT_ => MT_.w_to z (x_1188)) hs_1187)).trans rfl
                            exact g_vret B K rfl ⟨hU_1190, hF_1191, hG_381, (by (try simp only [f_390, hx_391, f_392, h_393, (nle h_393), hx_954, f_955, h_956, h_965, hx_971, f_972, h_973, h_976, c_983, (eq_true h_984), c_1051, (eq_true h_1052), h_1130, h_1146, h_1162, (eq_true h_1178), hx_1188, if_true, if_false, mqM_tp, mqM_size, mqM_limit, mqM_to, mqM_frm, mqM_kind, mqM_number, mqM_sign, mqM_word, MT_.w_tp, MT_.w_size, MT_.w_limit, MT_.w_to, MT_.w_frm, MT_.w_kind, MT_.w_number, MT_.w_sign, MT_.w_word] at hQ_388); (try simp only [f_390, hx_391, f_392, h_393, (nle h_393), hx_954, f_955, h_956, h_965, hx_971, f_972, h_973, h_976, c_983, (eq_true h_984), c_1051, (eq_true h_1052), h_1130, h_1146, h_1162, (eq_true h_1178), hx_1188, if_true, if_false, mqM_tp, mqM_size, mqM_limit, mqM_to, mqM_frm, mqM_kind, mqM_number, mqM_sign, mqM_word, MT_.w_tp, MT_.w_size, MT_.w_limit, MT_.w_to, MT_.w_frm, MT_.w_kind, MT_.w_number, MT_.w_sign, MT_.w_word] at u_389); simp only [mGo, mGo2, mGo3, mGoE, mSg, mStep, mGood, emqx, hs_1192, hs_3, hQ_388, f_390, u_389, hx_391, f_392, h_393, (nle h_393), hx_954, f_955, h_956, h_965, hx_971, f_972, h_973, h_976, c_983, (eq_true h_984), c_1051, (eq_true h_1052), h_1130, h_1146, h_1162, (eq_true h_1178), hx_1188, if_true, if_false, mqM_tp, mqM_size, mqM_limit, mqM_to, mqM_frm, mqM_kind, mqM_number, mqM_sign, mqM_word, MT_.w_tp, MT_.w_size, MT_.w_limit, MT_.w_to, MT_.w_frm, MT_.w_kind, MT_.w_number, MT_.w_sign, MT_.w_word]), (ps_mk hx_1 (kp_s hI_1189) (kp_j hI_1189 (by decide) (kp_j hI_1184 (by decide) (kp_s hI_1180))) (Int.le_of_lt (by have := hj_385; have := (ti_k tx_1188 rc_1); omega)) (Or.inl (by have := hj_385; have := (ti_k tx_1188 rc_1); omega)))⟩ dX12_go_197
                          · skip
                            have n_1193 : ¬ x_954 = 62 := h_1178
                            refine g_iload_n C 0 dX12_go_162 rfl rfl ?_
                            refine g_bipush C (v := 40) dX12_go_163 (by decide) ?_
                            refine g_icmp_eq C (tgt := 174) dX12_go_165 (by decide) (fun h_1194 => ?_) (fun h_1194 => ?_)
                            · skip
                              have r_1195 := (⟨(eq_rg (h_1194) rc_40).1, (eq_rg (h_1194) rc_40).2⟩ : Rg 40 40 x_954)
                              refine g_iconst C (v := 4) dX12_go_174 (by decide) ?_
                              refine g_goto C (tgt := 179) dX12_go_175 (by decide) ?_
                              refine h_putI C K hLx hkx f_12_104 p_12_7 dX12_go_179 (fun I_1196 hI_1196 => ?_)
                              have hU_1197 := iw_put W9 hU_968 hI_1196 (ro_o hkx (by decide)) (lo := 0) (hi := 4) (rfl) (rg_w rc_4 (by decide) (by decide)) rfl
                              have hF_1198 := fq_puto hF_969 hI_1196 hkx (by decide) (by decide)
                              have hs_1199 : MTq I_1196 J_378 x b_2 = (MT_.w_kind (MT_.w_frm s_387 (v_382)) (4)) := by rw [hI_1196]; exact ((mq_kind wmqx).trans (congrArg (fun z : MT_ => MT_.w_kind z (4)) hs_970)).trans rfl
                              refine g_aload_n C 1 dX12_go_182 rfl rfl ?_
                              refine g_iload_n C 0 dX12_go_183 rfl rfl ?_
                              refine h_putI C K hLx hkx f_12_114 p_12_9 dX12_go_184 (fun I_1200 hI_1200 => ?_)
                              have hU_1201 := iw_put W9 hU_1197 hI_1200 (ro_o hkx (by decide)) (lo := (-2147483648)) (hi := 2147483647) (rfl) (rg_all _) rfl
                              have hF_1202 := fq_puto hF_1198 hI_1200 hkx (by decide) (by decide)
                              have hs_1203 : MTq I_1200 J_378 x b_2 = (MT_.w_sign (MT_.w_kind (MT_.w_frm s_387 (v_382)) (4)) (x_954)) := by rw [hI_1200]; exact ((mq_sign wmqx).trans (congrArg (fun z : MT_ => MT_.w_sign z (x_954)) hs_1199)).trans rfl
                              refine g_aload_n C 1 dX12_go_187 rfl rfl ?_
                              refine g_dup C dX12_go_188 rfl ?_
                              refine g_getI C K hLx hkx f_12_95 (v := v_382) (kp_j hI_1200 (by decide) (kp_j hI_1196 (by decide) (kp_j hI_967 (by decide) q_383))) dX12_go_189 ?_
                              refine g_iconst C (v := 1) dX12_go_192 (by decide) ?_
                              obtain ⟨x_1204, hx_1204, rx_1204, tx_1204⟩ := ex_add 1 900 r_977 rc_1 (by decide) (by decide) (by decide) (by decide)
                              refine g_iadd C (v := x_1204) dX12_go_193 hx_1204 ?_
                              refine h_putI C K hLx hkx f_12_95 p_12_5 dX12_go_194 (fun I_1205 hI_1205 => ?_)
                              have hU_1206 := iw_put W9 hU_1201 hI_1205 (ro_o hkx (by decide)) (lo := 0) (hi := 940) (rfl) (rg_w rx_1204 (by decide) (by decide)) rfl
                              have hF_1207 := fq_puto hF_1202 hI_1205 hkx (by decide) (by decide)
                              have hs_1208 : MTq I_1205 J_378 x b_2 = (MT_.w_to (MT_.w_sign (MT_.w_kind (MT_.w_frm s_387 (v_382)) (4)) (x_954)) (x_1204)) := by rw [hI_1205]; exact ((mq_to wmqx).trans (congrArg (fun z : MT_ => MT_.w_to z (x_1204)) hs_1203)).trans rfl
                              exact g_vret B K rfl ⟨hU_1206, hF_1207, hG_381, (by (try simp only [f_390, hx_391, f_392, h_393, (nle h_393), hx_954, f_955, h_956, h_965, hx_971, f_972, h_973, h_976, c_983, (eq_true h_984), c_1051, (eq_true h_1052), h_1130, h_1146, h_1162, h_1178, (eq_true h_1194), hx_1204, if_true, if_false, mqM_tp, mqM_size, mqM_limit, mqM_to, mqM_frm, mqM_kind, mqM_number, mqM_sign, mqM_word, MT_.w_tp, MT_.w_size, MT_.w_limit, MT_.w_to, MT_.w_frm, MT_.w_kind, MT_.w_number, MT_.w_sign, MT_.w_word] at hQ_388); (try simp only [f_390, hx_391, f_392, h_393, (nle h_393), hx_954, f_955, h_956, h_965, hx_971, f_972, h_973, h_976, c_983, (eq_true h_984), c_1051, (eq_true h_1052), h_1130, h_1146, h_1162, h_1178, (eq_true h_1194), hx_1204, if_true, if_false, mqM_tp, mqM_size, mqM_limit, mqM_to, mqM_frm, mqM_kind, mqM_number, mqM_sign, mqM_word, MT_.w_tp, MT_.w_size, MT_.w_limit, MT_.w_to, MT_.w_frm, MT_.w_kind, MT_.w_number, MT_.w_sign, MT_.w_word] at u_389); simp only [mGo, mGo2, mGo3, mGoE, mSg, mStep, mGood, emqx, hs_1208, hs_3, hQ_388, f_390, u_389, hx_391, f_392, h_393, (nle h_393), hx_954, f_955, h_956, h_965, hx_971, f_972, h_973, h_976, c_983, (eq_true h_984), c_1051, (eq_true h_1052), h_1130, h_1146, h_1162, h_1178, (eq_true h_1194), hx_1204, if_true, if_false, mqM_tp, mqM_size, mqM_limit, mqM_to, mqM_frm, mqM_kind, mqM_number, mqM_sign, mqM_word, MT_.w_tp, MT_.w_size, MT_.w_limit, MT_.w_to, MT_.w_frm, MT_.w_kind, MT_.w_number, MT_.w_sign, MT_.w_word]), (ps_mk hx_1 (kp_s hI_1205) (kp_j hI_1205 (by decide) (kp_j hI_1200 (by decide) (kp_s hI_1196))) (Int.le_of_lt (by have := hj_385; have := (ti_k tx_1204 rc_1); omega)) (Or.inl (by have := hj_385; have := (ti_k tx_1204 rc_1); omega)))⟩ dX12_go_197
                            · skip
                              have n_1209 : ¬ x_954 = 40 := h_1194
                              refine g_iload_n C 0 dX12_go_168 rfl rfl ?_
                              refine g_bipush C (v := 41) dX12_go_169 (by decide) ?_
                              refine g_icmp_ne C (tgt := 178) dX12_go_171 (by decide) (fun h_1210 => ?_) (fun h_1210 => ?_)
                              · skip
                                have n_1211 : ¬ x_954 = 41 := h_1210
                                refine g_iconst C (v := 1) dX12_go_178 (by decide) ?_
                                refine h_putI C K hLx hkx f_12_104 p_12_7 dX12_go_179 (fun I_1212 hI_1212 => ?_)
                                have hU_1213 := iw_put W9 hU_968 hI_1212 (ro_o hkx (by decide)) (lo := 0) (hi := 4) (rfl) (rg_w rc_1 (by decide) (by decide)) rfl
                                have hF_1214 := fq_puto hF_969 hI_1212 hkx (by decide) (by decide)
                                have hs_1215 : MTq I_1212 J_378 x b_2 = (MT_.w_kind (MT_.w_frm s_387 (v_382)) (1)) := by rw [hI_1212]; exact ((mq_kind wmqx).trans (congrArg (fun z : MT_ => MT_.w_kind z (1)) hs_970)).trans rfl
                                refine g_aload_n C 1 dX12_go_182 rfl rfl ?_
                                refine g_iload_n C 0 dX12_go_183 rfl rfl ?_
                                refine h_putI C K hLx hkx f_12_114 p_12_9 dX12_go_184 (fun I_1216 hI_1216 => ?_)
                                have hU_1217 := iw_put W9 hU_1213 hI_1216 (ro_o hkx (by decide)) (lo := (-2147483648)) (hi := 2147483647) (rfl) (rg_all _) rfl
                                have hF_1218 := fq_puto hF_1214 hI_1216 hkx (by decide) (by decide)
                                have hs_1219 : MTq I_1216 J_378 x b_2 = (MT_.w_sign (MT_.w_kind (MT_.w_frm s_387 (v_382)) (1)) (x_954)) := by rw [hI_1216]; exact ((mq_sign wmqx).trans (congrArg (fun z : MT_ => MT_.w_sign z (x_954)) hs_1215)).trans rfl
                                refine g_aload_n C 1 dX12_go_187 rfl rfl ?_
                                refine g_dup C dX12_go_188 rfl ?_
                                refine g_getI C K hLx hkx f_12_95 (v := v_382) (kp_j hI_1216 (by decide) (kp_j hI_1212 (by decide) (kp_j hI_967 (by decide) q_383))) dX12_go_189 ?_
                                refine g_iconst C (v := 1) dX12_go_192 (by decide) ?_
                                obtain ⟨x_1220, hx_1220, rx_1220, tx_1220⟩ := ex_add 1 900 r_977 rc_1 (by decide) (by decide) (by decide) (by decide)
                                refine g_iadd C (v := x_1220) dX12_go_193 hx_1220 ?_
                                refine h_putI C K hLx hkx f_12_95 p_12_5 dX12_go_194 (fun I_1221 hI_1221 => ?_)
                                have hU_1222 := iw_put W9 hU_1217 hI_1221 (ro_o hkx (by decide)) (lo := 0) (hi := 940) (rfl) (rg_w rx_1220 (by decide) (by decide)) rfl
                                have hF_1223 := fq_puto hF_1218 hI_1221 hkx (by decide) (by decide)
                                have hs_1224 : MTq I_1221 J_378 x b_2 = (MT_.w_to (MT_.w_sign (MT_.w_kind (MT_.w_frm s_387 (v_382)) (1)) (x_954)) (x_1220)) := by rw [hI_1221]; exact ((mq_to wmqx).trans (congrArg (fun z : MT_ => MT_.w_to z (x_1220)) hs_1219)).trans rfl
                                exact g_vret B K rfl ⟨hU_1222, hF_1223, hG_381, (by (try simp only [f_390, hx_391, f_392, h_393, (nle h_393), hx_954, f_955, h_956, h_965, hx_971, f_972, h_973, h_976, c_983, (eq_true h_984), c_1051, (eq_true h_1052), h_1130, h_1146, h_1162, h_1178, h_1194, h_1210, hx_1220, if_true, if_false, mqM_tp, mqM_size, mqM_limit, mqM_to, mqM_frm, mqM_kind, mqM_number, mqM_sign, mqM_word, MT_.w_tp, MT_.w_size, MT_.w_limit, MT_.w_to, MT_.w_frm, MT_.w_kind, MT_.w_number, MT_.w_sign, MT_.w_word] at hQ_388); (try simp only [f_390, hx_391, f_392, h_393, (nle h_393), hx_954, f_955, h_956, h_965, hx_971, f_972, h_973, h_976, c_983, (eq_true h_984), c_1051, (eq_true h_1052), h_1130, h_1146, h_1162, h_1178, h_1194, h_1210, hx_1220, if_true, if_false, mqM_tp, mqM_size, mqM_limit, mqM_to, mqM_frm, mqM_kind, mqM_number, mqM_sign, mqM_word, MT_.w_tp, MT_.w_size, MT_.w_limit, MT_.w_to, MT_.w_frm, MT_.w_kind, MT_.w_number, MT_.w_sign, MT_.w_word] at u_389); simp only [mGo, mGo2, mGo3, mGoE, mSg, mStep, mGood, emqx, hs_1224, hs_3, hQ_388, f_390, u_389, hx_391, f_392, h_393, (nle h_393), hx_954, f_955, h_956, h_965, hx_971, f_972, h_973, h_976, c_983, (eq_true h_984), c_1051, (eq_true h_1052), h_1130, h_1146, h_1162, h_1178, h_1194, h_1210, hx_1220, if_true, if_false, mqM_tp, mqM_size, mqM_limit, mqM_to, mqM_frm, mqM_kind, mqM_number, mqM_sign, mqM_word, MT_.w_tp, MT_.w_size, MT_.w_limit, MT_.w_to, MT_.w_frm, MT_.w_kind, MT_.w_number, MT_.w_sign, MT_.w_word]), (ps_mk hx_1 (kp_s hI_1221) (kp_j hI_1221 (by decide) (kp_j hI_1216 (by decide) (kp_s hI_1212))) (by have := hj_385; have := (ti_k tx_1220 rc_1); omega) (Or.inr (by have := (rc_1).2; omega)))⟩ dX12_go_197
                              · skip
                                have r_1225 := (⟨(eq_rg (h_1210) rc_41).1, (eq_rg (h_1210) rc_41).2⟩ : Rg 41 41 x_954)
                                refine g_iconst C (v := 4) dX12_go_174 (by decide) ?_
                                refine g_goto C (tgt := 179) dX12_go_175 (by decide) ?_
                                refine h_putI C K hLx hkx f_12_104 p_12_7 dX12_go_179 (fun I_1226 hI_1226 => ?_)
                                have hU_1227 := iw_put W9 hU_968 hI_1226 (ro_o hkx (by decide)) (lo := 0) (hi := 4) (rfl) (rg_w rc_4 (by decide) (by decide)) rfl
                                have hF_1228 := fq_puto hF_969 hI_1226 hkx (by decide) (by decide)
                                have hs_1229 : MTq I_1226 J_378 x b_2 = (MT_.w_kind (MT_.w_frm s_387 (v_382)) (4)) := by rw [hI_1226]; exact ((mq_kind wmqx).trans (congrArg (fun z : MT_ => MT_.w_kind z (4)) hs_970)).trans rfl
                                refine g_aload_n C 1 dX12_go_182 rfl rfl ?_
                                refine g_iload_n C 0 dX12_go_183 rfl rfl ?_
                                refine h_putI C K hLx hkx f_12_114 p_12_9 dX12_go_184 (fun I_1230 hI_1230 => ?_)
                                have hU_1231 := iw_put W9 hU_1227 hI_1230 (ro_o hkx (by decide)) (lo := (-2147483648)) (hi := 2147483647) (rfl) (rg_all _) rfl
                                have hF_1232 := fq_puto hF_1228 hI_1230 hkx (by decide) (by decide)
                                have hs_1233 : MTq I_1230 J_378 x b_2 = (MT_.w_sign (MT_.w_kind (MT_.w_frm s_387 (v_382)) (4)) (x_954)) := by rw [hI_1230]; exact ((mq_sign wmqx).trans (congrArg (fun z : MT_ => MT_.w_sign z (x_954)) hs_1229)).trans rfl
                                refine g_aload_n C 1 dX12_go_187 rfl rfl ?_
                                refine g_dup C dX12_go_188 rfl ?_
                                refine g_getI C K hLx hkx f_12_95 (v := v_382) (kp_j hI_1230 (by decide) (kp_j hI_1226 (by decide) (kp_j hI_967 (by decide) q_383))) dX12_go_189 ?_
                                refine g_iconst C (v := 1) dX12_go_192 (by decide) ?_
                                obtain ⟨x_1234, hx_1234, rx_1234, tx_1234⟩ := ex_add 1 900 r_977 rc_1 (by decide) (by decide) (by decide) (by decide)
                                refine g_iadd C (v := x_1234) dX12_go_193 hx_1234 ?_
                                refine h_putI C K hLx hkx f_12_95 p_12_5 dX12_go_194 (fun I_1235 hI_1235 => ?_)
                                have hU_1236 := iw_put W9 hU_1231 hI_1235 (ro_o hkx (by decide)) (lo := 0) (hi := 940) (rfl) (rg_w rx_1234 (by decide) (by decide)) rfl
                                have hF_1237 := fq_puto hF_1232 hI_1235 hkx (by decide) (by decide)
                                have hs_1238 : MTq I_1235 J_378 x b_2 = (MT_.w_to (MT_.w_sign (MT_.w_kind (MT_.w_frm s_387 (v_382)) (4)) (x_954)) (x_1234)) := by rw [hI_1235]; exact ((mq_to wmqx).trans (congrArg (fun z : MT_ => MT_.w_to z (x_1234)) hs_1233)).trans rfl
                                exact g_vret B K rfl ⟨hU_1236, hF_1237, hG_381, (by (try simp only [f_390, hx_391, f_392, h_393, (nle h_393), hx_954, f_955, h_956, h_965, hx_971, f_972, h_973, h_976, c_983, (eq_true h_984), c_1051, (eq_true h_1052), h_1130, h_1146, h_1162, h_1178, h_1194, (eq_true h_1210), hx_1234, if_true, if_false, mqM_tp, mqM_size, mqM_limit, mqM_to, mqM_frm, mqM_kind, mqM_number, mqM_sign, mqM_word, MT_.w_tp, MT_.w_size, MT_.w_limit, MT_.w_to, MT_.w_frm, MT_.w_kind, MT_.w_number, MT_.w_sign, MT_.w_word] at hQ_388); (try simp only [f_390, hx_391, f_392, h_393, (nle h_393), hx_954, f_955, h_956, h_965, hx_971, f_972, h_973, h_976, c_983, (eq_true h_984), c_1051, (eq_true h_1052), h_1130, h_1146, h_1162, h_1178, h_1194, (eq_true h_1210), hx_1234, if_true, if_false, mqM_tp, mqM_size, mqM_limit, mqM_to, mqM_frm, mqM_kind, mqM_number, mqM_sign, mqM_word, MT_.w_tp, MT_.w_size, MT_.w_limit, MT_.w_to, MT_.w_frm, MT_.w_kind, MT_.w_number, MT_.w_sign, MT_.w_word] at u_389); simp only [mGo, mGo2, mGo3, mGoE, mSg, mStep, mGood, emqx, hs_1238, hs_3, hQ_388, f_390, u_389, hx_391, f_392, h_393, (nle h_393), hx_954, f_955, h_956, h_965, hx_971, f_972, h_973, h_976, c_983, (eq_true h_984), c_1051, (eq_true h_1052), h_1130, h_1146, h_1162, h_1178, h_1194, (eq_true h_1210), hx_1234, if_true, if_false, mqM_tp, mqM_size, mqM_limit, mqM_to, mqM_frm, mqM_kind, mqM_number, mqM_sign, mqM_word, MT_.w_tp, MT_.w_size, MT_.w_limit, MT_.w_to, MT_.w_frm, MT_.w_kind, MT_.w_number, MT_.w_sign, MT_.w_word]), (ps_mk hx_1 (kp_s hI_1235) (kp_j hI_1235 (by decide) (kp_j hI_1230 (by decide) (kp_s hI_1226))) (Int.le_of_lt (by have := hj_385; have := (ti_k tx_1234 rc_1); omega)) (Or.inl (by have := hj_385; have := (ti_k tx_1234 rc_1); omega)))⟩ dX12_go_197
              · skip
                have r_1239 := le_r (nlt h_976) r_974 r_952
                refine g_aload_n C 0 dX12_go_107 rfl rfl ?_
                refine g_iconst C (v := 0) dX12_go_108 (by decide) ?_
                refine h_putI C K hLx hkx f_12_104 p_12_7 dX12_go_109 (fun I_1240 hI_1240 => ?_)
                have hU_1241 := iw_put W9 hU_968 hI_1240 (ro_o hkx (by decide)) (lo := 0) (hi := 4) (rfl) (rg_w rc_0 (by decide) (by decide)) rfl
                have hF_1242 := fq_puto hF_969 hI_1240 hkx (by decide) (by decide)
                have hs_1243 : MTq I_1240 J_378 x b_2 = (MT_.w_kind (MT_.w_frm s_387 (v_382)) (0)) := by rw [hI_1240]; exact ((mq_kind wmqx).trans (congrArg (fun z : MT_ => MT_.w_kind z (0)) hs_970)).trans rfl
                exact g_vret B K rfl ⟨hU_1241, hF_1242, hG_381, (by (try simp only [f_390, hx_391, f_392, h_393, (nle h_393), hx_954, f_955, h_956, h_965, hx_971, f_972, h_973, h_976, (nlt h_976), if_true, if_false, mqM_tp, mqM_size, mqM_limit, mqM_to, mqM_frm, mqM_kind, mqM_number, mqM_sign, mqM_word, MT_.w_tp, MT_.w_size, MT_.w_limit, MT_.w_to, MT_.w_frm, MT_.w_kind, MT_.w_number, MT_.w_sign, MT_.w_word] at hQ_388); (try simp only [f_390, hx_391, f_392, h_393, (nle h_393), hx_954, f_955, h_956, h_965, hx_971, f_972, h_973, h_976, (nlt h_976), if_true, if_false, mqM_tp, mqM_size, mqM_limit, mqM_to, mqM_frm, mqM_kind, mqM_number, mqM_sign, mqM_word, MT_.w_tp, MT_.w_size, MT_.w_limit, MT_.w_to, MT_.w_frm, MT_.w_kind, MT_.w_number, MT_.w_sign, MT_.w_word] at u_389); simp only [mGo, mGo2, mGo3, mGoE, mSg, mStep, mGood, emqx, hs_1243, hs_3, hQ_388, f_390, u_389, hx_391, f_392, h_393, (nle h_393), hx_954, f_955, h_956, h_965, hx_971, f_972, h_973, h_976, (nlt h_976), if_true, if_false, mqM_tp, mqM_size, mqM_limit, mqM_to, mqM_frm, mqM_kind, mqM_number, mqM_sign, mqM_word, MT_.w_tp, MT_.w_size, MT_.w_limit, MT_.w_to, MT_.w_frm, MT_.w_kind, MT_.w_number, MT_.w_sign, MT_.w_word]), (ps_mk hx_1 (kp_j hI_1240 (by decide) (kp_j hI_967 (by decide) q_383)) (kp_s hI_1240) (by have := hj_385; omega) (Or.inr (by have := (rc_0).2; omega)))⟩ dX12_go_112
            · skip
              refine g_aload_n C 0 dX12_go_71 rfl rfl ?_
              refine g_getI C K hLx hkx f_12_98 (v := v_382) (kp_s hI_967) dX12_go_72 ?_
              refine g_aload_n C 0 dX12_go_75 rfl rfl ?_
              refine g_getI C K hLx hkx f_12_101 (v := x_971) hx_971 dX12_go_76 ?_
              refine g_icmp_lt C (tgt := 96) dX12_go_79 (by decide) (fun h_1244 => ?_) (fun h_1244 => ?_)
              · skip
                have r_1245 := lt_l (hi := 899) (h_1244) r_952 rx_971 (by decide)
                have r_1246 := lt_r (lo := 1) (h_1244) r_952 rx_971 (by decide)
                refine g_aload_n C 0 dX12_go_96 rfl rfl ?_
                refine g_getI C K hLx hkx f_12_95 (v := v_382) (kp_j hI_967 (by decide) q_383) dX12_go_97 ?_
                refine g_aload_n C 0 dX12_go_100 rfl rfl ?_
                refine g_getI C K hLx hkx f_12_92 (v := x_391) (kp_j hI_967 (by decide) hx_391) dX12_go_101 ?_
                refine g_icmp_lt C (tgt := 113) dX12_go_104 (by decide) (fun h_1247 => ?_) (fun h_1247 => ?_)
                · skip
                  refine g_aload_n C 0 dX12_go_113 rfl rfl ?_
                  refine g_getR C K hLx hkx f_12_7 hb_2 dX12_go_114 ?_
                  refine g_aload_n C 0 dX12_go_117 rfl rfl ?_
                  refine g_getI C K hLx hkx f_12_95 (v := v_382) (kp_j hI_967 (by decide) q_383) dX12_go_118 ?_
                  refine h_iald C K hb_2L hb_2k (v := x_954) (v_382.toNatClampNeg) (rfl) (ix_0 r_1245 (by decide)) (ix_lt r_1245 (by decide) hb_2n (by decide)) (kp_k (κ := κ) hI_967 (by rw [hb_2k, hkx]; decide) hx_954) dX12_go_121 ?_
                  refine g_istore_n C dX12_go_122 rfl (by decide) (lo2 := [(1, .int x_954), (0, .ref x)]) rfl ?_
                  refine g_iload_n C 0 dX12_go_123 rfl rfl ?_
                  refine g_callSI C K (c_X12_isLetter W9 x_954  hU_968) s_12_107 rfl ⟨rfl, rfl⟩ ⟨Nat.le_of_ble_eq_true rfl, Nat.le_of_ble_eq_true rfl⟩ (Nat.le_of_ble_eq_true rfl) ⟨Nat.le_of_ble_eq_true rfl, Nat.le_of_ble_eq_true rfl⟩ dX12_go_124 rfl (st := []) (fun x_1249 I_1250 J_1251 h_1252 => ?_)
                  obtain ⟨rfl, rfl, rx_1249, fx_1249, ex_1249⟩ := h_1252
                  have c_1253 : isLc (x_954) = x_1249 := fx_1249.symm
                  refine g_if_ne C (tgt := 198) dX12_go_127 (by decide) (fun h_1254 => ?_) (fun h_1254 => ?_)
                  · skip
                    have n_1255 : ¬ x_1249 = 0 := h_1254
                    have r_1256 := ne_lo (lo := 1) n_1255 rx_1249 rc_0 rfl (by decide)
                    have r_1257 := rg_i rx_954 ((ex_1249.2) n_1255) (lo := 97) (hi := 122) (by decide) (by decide)
                    refine g_iload_n C 0 dX12_go_198 rfl rfl ?_
                    refine g_callSI C K (c_X12_isLetter W9 x_954  hU_968) s_12_107 rfl ⟨rfl, rfl⟩ ⟨Nat.le_of_ble_eq_true rfl, Nat.le_of_ble_eq_true rfl⟩ (Nat.le_of_ble_eq_true rfl) ⟨Nat.le_of_ble_eq_true rfl, Nat.le_of_ble_eq_true rfl⟩ dX12_go_199 rfl (st := []) (fun x_1258 I_1259 J_1260 h_1261 => ?_)
                    obtain ⟨rfl, rfl, rx_1258, fx_1258, ex_1258⟩ := h_1261
                    have c_1262 : isLc (x_954) = x_1258 := fx_1258.symm
                    have ec_1262 : x_1249 = x_1258 := c_1253.symm.trans c_1262
                    subst ec_1262
                    refine g_istore_n C dX12_go_202 rfl (by decide) (lo2 := [(2, .int x_1249), (1, .int x_954), (0, .ref x)]) rfl ?_
                    refine g_iconst C (v := 1) dX12_go_203 (by decide) ?_
                    refine g_istore_n C dX12_go_204 rfl (by decide) (lo2 := [(3, .int 1), (2, .int x_1249), (1, .int x_954), (0, .ref x)]) rfl ?_
                    refine g_aload_n C 3 dX12_go_205 rfl rfl ?_
                    refine g_lconst C (v := 0) dX12_go_206 (by decide) ?_
                    refine h_putJ C K hLx hkx f_12_117 p_12_12 dX12_go_207 (fun J_1263 hJ_1263 => ?_)
                    have hG_1264 := fq_puto hG_381 hJ_1263 hkx (by decide) (by decide)
                    have hs_1265 : MTq I_967 J_1263 x b_2 = (MT_.w_word (MT_.w_frm s_387 (v_382)) (0)) := by rw [hJ_1263]; exact ((mq_word wmqx).trans (congrArg (fun z : MT_ => MT_.w_word z (0)) hs_970)).trans rfl
                    refine g_aload_n C 3 dX12_go_210 rfl rfl ?_
                    refine g_iconst C (v := 0) dX12_go_211 (by decide) ?_
                    refine h_putI C K hLx hkx f_12_121 p_12_8 dX12_go_212 (fun I_1266 hI_1266 => ?_)
                    have hU_1267 := iw_put W9 hU_968 hI_1266 (ro_o hkx (by decide)) (lo := (-2147483648)) (hi := 2147483647) (rfl) (rg_all _) rfl
                    have hF_1268 := fq_puto hF_969 hI_1266 hkx (by decide) (by decide)
                    have hs_1269 : MTq I_1266 J_1263 x b_2 = (MT_.w_number (MT_.w_word (MT_.w_frm s_387 (v_382)) (0)) (0)) := by rw [hI_1266]; exact ((mq_number wmqx).trans (congrArg (fun z : MT_ => MT_.w_number z (0)) hs_1265)).trans rfl
                    have u_1270 := mrun_eq (lt := x_1249) (g := 1) (m := (MT_.w_number (MT_.w_word (MT_.w_frm s_387 (v_382)) (0)) (0))) ((congrArg MT_.to hs_1269).symm.trans (kp_j hI_1266 (by decide) (kp_j hI_967 (by decide) q_383))) (rg_w r_1245 (by decide) (by decide))
                    refine g_aload_n C 3 dX12_go_215 rfl rfl ?_
                    refine g_aload_n C 3 dX12_go_216 rfl rfl ?_
                    refine g_getI C K hLx hkx f_12_95 (v := v_382) (kp_j hI_1266 (by decide) (kp_j hI_967 (by decide) q_383)) dX12_go_217 ?_
                    refine g_callVI C K (c_X12_tapeAt W9 hLx hkx v_382 (rg_w r_1245 (by decide) (by decide)) hU_1267) hLx hkx (by decide) rfl v_12_124 rfl ⟨rfl, rfl⟩ ⟨Nat.le_of_ble_eq_true rfl, Nat.le_of_ble_eq_true rfl⟩ (Nat.le_of_ble_eq_true rfl) ⟨Nat.le_of_ble_eq_true rfl, Nat.le_of_ble_eq_true rfl⟩ dX12_go_220 rfl (st := []) (fun x_1271 I_1272 J_1273 h_1274 => ?_)
                    obtain ⟨rfl, rfl, rx_1271, fx_1271, ex_1271⟩ := h_1274
                    have c_1275 : mTapeAt (v_382) ((MT_.w_number (MT_.w_word (MT_.w_frm s_387 (v_382)) (0)) (0))) = x_1271 := by have q := fx_1271; simp only [emqx, hs_1269] at q; exact q.symm
                    have r_1276 := eq_rg ((ex_1271.1 _ hb_2 (by rw [(kp_j hI_1266 (by decide) (kp_j hI_967 (by decide) hx_391))]; exact h_1247)).trans (kp_k (κ := κ) hI_1266 (by rw [hb_2k, hkx]; decide) (kp_k (κ := κ) hI_967 (by rw [hb_2k, hkx]; decide) hx_954))) r_1257
                    refine g_callSI C K (c_X12_isLetter W9 x_1271  hU_1267) s_12_107 rfl ⟨rfl, rfl⟩ ⟨Nat.le_of_ble_eq_true rfl, Nat.le_of_ble_eq_true rfl⟩ (Nat.le_of_ble_eq_true rfl) ⟨Nat.le_of_ble_eq_true rfl, Nat.le_of_ble_eq_true rfl⟩ dX12_go_223 rfl (st := []) (fun x_1277 I_1278 J_1279 h_1280 => ?_)
                    obtain ⟨rfl, rfl, rx_1277, fx_1277, ex_1277⟩ := h_1280
                    have c_1281 : isLc (x_1271) = x_1277 := fx_1277.symm
                    have n_1282 : ¬ x_1277 = 0 := by rcases ex_1277.1 with q | q | q; exact q; exact absurd q (by have := (r_1276).1; omega); exact absurd q (by have := (r_1276).2; omega)
                    have n_1283 : ¬ x_1277 = 0 := n_1282
                    have r_1284 := ne_lo (lo := 1) n_1283 rx_1277 rc_0 rfl (by decide)
                    refine g_if_ne C (tgt := 243) dX12_go_226 (by decide) (fun h_1285 => ?_) (fun h_1285 => ?_)
                    · skip
                      have n_1286 : ¬ x_1277 = 0 := h_1285
                      refine g_aload_n C 3 dX12_go_243 rfl rfl ?_
                      refine g_getR C K hLx hkx f_12_7 hb_2 dX12_go_244 ?_
                      refine g_aload_n C 3 dX12_go_247 rfl rfl ?_
                      refine g_getI C K hLx hkx f_12_95 (v := v_382) (kp_j hI_1266 (by decide) (kp_j hI_967 (by decide) q_383)) dX12_go_248 ?_
                      refine h_iald C K hb_2L hb_2k (v := x_954) (v_382.toNatClampNeg) (rfl) (ix_0 r_1245 (by decide)) (ix_lt r_1245 (by decide) hb_2n (by decide)) (kp_k (κ := κ) hI_1266 (by rw [hb_2k, hkx]; decide) (kp_k (κ := κ) hI_967 (by rw [hb_2k, hkx]; decide) hx_954)) dX12_go_251 ?_
                      refine g_istore C dX12_go_252 (by decide) (lo2 := [(4, .int x_954), (3, .int 1), (2, .int x_1249), (1, .int x_954), (0, .ref x)]) rfl ?_
                      refine g_iload_n C 1 dX12_go_254 rfl rfl ?_
                      refine g_if_eq C (tgt := 271) dX12_go_255 (by decide) (fun h_1288 => ?_) (fun h_1288 => ?_)
                      · skip
                        exact absurd (h_1288) (by decide)
                      · skip
                        refine g_iload C 0 dX12_go_258 rfl ?_
                        refine g_callSI C K (c_X12_isLetter W9 x_954  hU_1267) s_12_107 rfl ⟨rfl, rfl⟩ ⟨Nat.le_of_ble_eq_true rfl, Nat.le_of_ble_eq_true rfl⟩ (Nat.le_of_ble_eq_true rfl) ⟨Nat.le_of_ble_eq_true rfl, Nat.le_of_ble_eq_true rfl⟩ dX12_go_260 rfl (st := []) (fun x_1289 I_1290 J_1291 h_1292 => ?_)
                        obtain ⟨rfl, rfl, rx_1289, fx_1289, ex_1289⟩ := h_1292
                        have c_1293 : isLc (x_954) = x_1289 := fx_1289.symm
                        have ec_1293 : x_1249 = x_1289 := c_1253.symm.trans c_1293
                        subst ec_1293
                        refine g_iload_n C 2 dX12_go_263 rfl rfl ?_
                        refine g_icmp_ne C (tgt := 271) dX12_go_264 (by decide) (fun h_1294 => ?_) (fun h_1294 => ?_)
                        · skip
                          exact ne_no (h_1294) r_1256 r_1256
                        · skip
                          refine g_iconst C (v := 1) dX12_go_267 (by decide) ?_
                          refine g_goto C (tgt := 272) dX12_go_268 (by decide) ?_
                          refine g_istore_n C dX12_go_272 rfl (by decide) (lo2 := [(3, .int 1), (4, .int x_954), (2, .int x_1249), (1, .int x_954), (0, .ref x)]) rfl ?_
                          refine g_aload_n C 4 dX12_go_273 rfl rfl ?_
                          refine g_getI C K hLx hkx f_12_95 (v := v_382) (kp_j hI_1266 (by decide) (kp_j hI_967 (by decide) q_383)) dX12_go_274 ?_
                          refine g_aload_n C 4 dX12_go_277 rfl rfl ?_
                          refine g_getI C K hLx hkx f_12_98 (v := v_382) (kp_j hI_1266 (by decide) (kp_s hI_967)) dX12_go_278 ?_
                          refine g_isub C (v := 0) dX12_go_281 (Int32.sub_self _) ?_
                          refine g_bipush C (v := 7) dX12_go_282 (by decide) ?_
                          refine g_icmp_ge C (tgt := 307) dX12_go_284 (by decide) (fun h_1295 => ?_) (fun h_1295 => ?_)
                          · skip
                            exact absurd (h_1295) (by decide)
                          · skip
                            refine g_aload_n C 4 dX12_go_287 rfl rfl ?_
                            refine g_ldc2 C kl_128 dX12_go_288 ?_
                            refine g_aload_n C 4 dX12_go_291 rfl rfl ?_
                            obtain ⟨y_1296, hy_1296⟩ : ∃ z, J_1263 x 12 = z := ⟨_, rfl⟩
                            refine g_getJ C K hLx hkx f_12_117 (v := y_1296) hy_1296 dX12_go_292 ?_
                            refine g_lmulE C dX12_go_295 (fun y_1297 hy_1297 => ?_)
                            refine g_iload C 1 dX12_go_296 rfl ?_
                            obtain ⟨y_1298, hy_1298⟩ : ∃ z, Int32.toInt64 x_954 = z := ⟨_, rfl⟩
                            refine g_i2l C (v := y_1298) dX12_go_298 hy_1298 ?_
                            refine g_laddE C dX12_go_299 (fun y_1299 hy_1299 => ?_)
                            refine g_ldc2 C kl_130 dX12_go_300 ?_
                            refine g_lsubE C dX12_go_303 (fun y_1300 hy_1300 => ?_)
                            refine h_putJ C K hLx hkx f_12_117 p_12_12 dX12_go_304 (fun J_1301 hJ_1301 => ?_)
                            have hG_1302 := fq_puto hG_1264 hJ_1301 hkx (by decide) (by decide)
                            have hs_1303 : MTq I_1266 J_1301 x b_2 = (MT_.w_word (MT_.w_number (MT_.w_frm s_387 (v_382)) (0)) (y_1300)) := by rw [hJ_1301]; exact ((mq_word wmqx).trans (congrArg (fun z : MT_ => MT_.w_word z (y_1300)) hs_1269)).trans rfl
                            refine g_aload_n C 4 dX12_go_307 rfl rfl ?_
                            refine g_getI C K hLx hkx f_12_95 (v := v_382) (kp_j hI_1266 (by decide) (kp_j hI_967 (by decide) q_383)) dX12_go_308 ?_
                            refine g_aload_n C 4 dX12_go_311 rfl rfl ?_
                            refine g_getI C K hLx hkx f_12_98 (v := v_382) (kp_j hI_1266 (by decide) (kp_s hI_967)) dX12_go_312 ?_
                            refine g_isub C (v := 0) dX12_go_315 (Int32.sub_self _) ?_
                            refine g_iconst C (v := 3) dX12_go_316 (by decide) ?_
                            refine g_icmp_ge C (tgt := 337) dX12_go_317 (by decide) (fun h_1304 => ?_) (fun h_1304 => ?_)
                            · skip
                              exact absurd (h_1304) (by decide)
                            · skip
                              refine g_aload_n C 4 dX12_go_320 rfl rfl ?_
                              refine g_bipush C (v := 10) dX12_go_321 (by decide) ?_
                              refine g_aload_n C 4 dX12_go_323 rfl rfl ?_
                              refine g_getI C K hLx hkx f_12_121 (v := 0) (kp_s hI_1266) dX12_go_324 ?_
                              refine g_imul C (v := 0) dX12_go_327 (by decide) ?_
                              refine g_iload C 1 dX12_go_328 rfl ?_
                              obtain ⟨x_1305, hx_1305, rx_1305, tx_1305⟩ := ex_add 97 122 rc_0 r_1257 (by decide) (by decide) (by decide) (by decide)
                              refine g_iadd C (v := x_1305) dX12_go_330 hx_1305 ?_
                              refine g_bipush C (v := 48) dX12_go_331 (by decide) ?_
                              obtain ⟨x_1306, hx_1306, rx_1306, tx_1306⟩ := ex_sub 49 74 rx_1305 rc_48 (by decide) (by decide) (by decide) (by decide)
                              refine g_isub C (v := x_1306) dX12_go_333 hx_1306 ?_
                              refine h_putI C K hLx hkx f_12_121 p_12_8 dX12_go_334 (fun I_1307 hI_1307 => ?_)
                              have hU_1308 := iw_put W9 hU_1267 hI_1307 (ro_o hkx (by decide)) (lo := (-2147483648)) (hi := 2147483647) (rfl) (rg_all _) rfl
                              have hF_1309 := fq_puto hF_1268 hI_1307 hkx (by decide) (by decide)
                              have hs_1310 : MTq I_1307 J_1301 x b_2 = (MT_.w_number (MT_.w_word (MT_.w_frm s_387 (v_382)) (y_1300)) (x_1306)) := by rw [hI_1307]; exact ((mq_number wmqx).trans (congrArg (fun z : MT_ => MT_.w_number z (x_1306)) hs_1303)).trans rfl
                              refine g_aload_n C 4 dX12_go_337 rfl rfl ?_
                              refine g_dup C dX12_go_338 rfl ?_
                              refine g_getI C K hLx hkx f_12_95 (v := v_382) (kp_j hI_1307 (by decide) (kp_j hI_1266 (by decide) (kp_j hI_967 (by decide) q_383))) dX12_go_339 ?_
                              refine g_iconst C (v := 1) dX12_go_342 (by decide) ?_
                              obtain ⟨x_1311, hx_1311, rx_1311, tx_1311⟩ := ex_add 1 900 r_1245 rc_1 (by decide) (by decide) (by decide) (by decide)
                              refine g_iadd C (v := x_1311) dX12_go_343 hx_1311 ?_
                              refine h_putI C K hLx hkx f_12_95 p_12_5 dX12_go_344 (fun I_1312 hI_1312 => ?_)
                              have hU_1313 := iw_put W9 hU_1308 hI_1312 (ro_o hkx (by decide)) (lo := 0) (hi := 940) (rfl) (rg_w rx_1311 (by decide) (by decide)) rfl
                              have hF_1314 := fq_puto hF_1309 hI_1312 hkx (by decide) (by decide)
                              have hs_1315 : MTq I_1312 J_1301 x b_2 = (MT_.w_to (MT_.w_number (MT_.w_word (MT_.w_frm s_387 (v_382)) (y_1300)) (x_1306)) (x_1311)) := by rw [hI_1312]; exact ((mq_to wmqx).trans (congrArg (fun z : MT_ => MT_.w_to z (x_1311)) hs_1310)).trans rfl
                              refine g_goto C (tgt := 215) dX12_go_347 (by decide) ?_
                              refine g_lo (is := [4, 3, 2, 0, 1]) (lo2 := [(0, .ref x), (1, .int x_954), (2, .int x_1249), (3, .int 1), (4, .int x_954)]) rfl ?_
                              exact l_215 940 I_1312 J_1301 hU_1313 hF_1314 hG_1302 x_954 (rg_w r_1257 (by decide) (by decide)) (n_966) (n_963) x_1249 (rg_w r_1256 (by decide) (by decide)) 1 (rg_w rc_1 (by decide) (by decide)) x_954 (rg_w r_1257 (by decide) (by decide)) x_391 (r_953) x_971 (rg_w r_1246 (by decide) (by decide)) x_1311 (rg_w rx_1311 (by decide) (by decide)) v_382 (r_1245) x_1306 (kp_j hI_1312 (by decide) (kp_j hI_1307 (by decide) (kp_j hI_1266 (by decide) (kp_j hI_967 (by decide) hx_391)))) (kp_j hI_1312 (by decide) (kp_j hI_1307 (by decide) (kp_j hI_1266 (by decide) hx_971))) (kp_s hI_1312) (kp_j hI_1312 (by decide) (kp_j hI_1307 (by decide) (kp_j hI_1266 (by decide) (kp_s hI_967)))) (kp_j hI_1312 (by decide) (kp_s hI_1307)) (by (try simp only [f_390, hx_391, f_392, h_393, (nle h_393), hx_954, f_955, h_956, h_965, hx_971, f_972, h_973, (nle h_973), h_1244, h_1247, c_1253, h_1254, c_1281, h_1285, h_1288, (eq_true h_1294), h_1295, (nle h_1295), hy_1296, hy_1297, hy_1298, hy_1299, hy_1300, h_1304, (nle h_1304), hx_1305, hx_1306, hx_1311, if_true, if_false, mqM_tp, mqM_size, mqM_limit, mqM_to, mqM_frm, mqM_kind, mqM_number, mqM_sign, mqM_word, MT_.w_tp, MT_.w_size, MT_.w_limit, MT_.w_to, MT_.w_frm, MT_.w_kind, MT_.w_number, MT_.w_sign, MT_.w_word] at hQ_388); (try simp only [f_390, hx_391, f_392, h_393, (nle h_393), hx_954, f_955, h_956, h_965, hx_971, f_972, h_973, (nle h_973), h_1244, h_1247, c_1253, h_1254, c_1281, h_1285, h_1288, (eq_true h_1294), h_1295, (nle h_1295), hy_1296, hy_1297, hy_1298, hy_1299, hy_1300, h_1304, (nle h_1304), hx_1305, hx_1306, hx_1311, if_true, if_false, mqM_tp, mqM_size, mqM_limit, mqM_to, mqM_frm, mqM_kind, mqM_number, mqM_sign, mqM_word, MT_.w_tp, MT_.w_size, MT_.w_limit, MT_.w_to, MT_.w_frm, MT_.w_kind, MT_.w_number, MT_.w_sign, MT_.w_word] at u_389); (try simp only [f_390, hx_391, f_392, h_393, (nle h_393), hx_954, f_955, h_956, h_965, hx_971, f_972, h_973, (nle h_973), h_1244, h_1247, c_1253, h_1254, c_1281, h_1285, h_1288, (eq_true h_1294), h_1295, (nle h_1295), hy_1296, hy_1297, hy_1298, hy_1299, hy_1300, h_1304, (nle h_1304), hx_1305, hx_1306, hx_1311, if_true, if_false, mqM_tp, mqM_size, mqM_limit, mqM_to, mqM_frm, mqM_kind, mqM_number, mqM_sign, mqM_word, MT_.w_tp, MT_.w_size, MT_.w_limit, MT_.w_to, MT_.w_frm, MT_.w_kind, MT_.w_number, MT_.w_sign, MT_.w_word] at u_1270); (try simp only [f_390, hx_391, f_392, h_393, (nle h_393), hx_954, f_955, h_956, h_965, hx_971, f_972, h_973, (nle h_973), h_1244, h_1247, c_1253, h_1254, c_1281, h_1285, h_1288, (eq_true h_1294), h_1295, (nle h_1295), hy_1296, hy_1297, hy_1298, hy_1299, hy_1300, h_1304, (nle h_1304), hx_1305, hx_1306, hx_1311, if_true, if_false, mqM_tp, mqM_size, mqM_limit, mqM_to, mqM_frm, mqM_kind, mqM_number, mqM_sign, mqM_word, MT_.w_tp, MT_.w_size, MT_.w_limit, MT_.w_to, MT_.w_frm, MT_.w_kind, MT_.w_number, MT_.w_sign, MT_.w_word] at c_1275); simp only [mGo, mGo2, mGo3, mGoE, mSg, mStep, mGood, emqx, hs_1315, hs_3, hQ_388, f_390, u_389, hx_391, f_392, h_393, (nle h_393), hx_954, f_955, h_956, h_965, hx_971, f_972, h_973, (nle h_973), h_1244, h_1247, c_1253, h_1254, u_1270, c_1275, c_1281, h_1285, h_1288, (eq_true h_1294), h_1295, (nle h_1295), hy_1296, hy_1297, hy_1298, hy_1299, hy_1300, h_1304, (nle h_1304), hx_1305, hx_1306, hx_1311, if_true, if_false, mqM_tp, mqM_size, mqM_limit, mqM_to, mqM_frm, mqM_kind, mqM_number, mqM_sign, mqM_word, MT_.w_tp, MT_.w_size, MT_.w_limit, MT_.w_to, MT_.w_frm, MT_.w_kind, MT_.w_number, MT_.w_sign, MT_.w_word]) (by have := hj_385; have := (ti_k tx_1311 rc_1); omega) (ms_s (a := 1) (b := 940) (N := 940) (rg_w rx_1311 (by decide) (by decide)) (by decide))
                    · skip
                      exact eq_no (h_1285) r_1284 rc_0 (by decide)
                  · skip
                    have r_1316 := (⟨(rx_1249).1, (eq_rg (h_1254) rc_0).2⟩ : Rg 0 0 x_1249)
                    refine g_iload_n C 0 dX12_go_130 rfl rfl ?_
                    refine g_callSI C K (c_X12_isDigit W9 x_954  hU_968) s_12_111 rfl ⟨rfl, rfl⟩ ⟨Nat.le_of_ble_eq_true rfl, Nat.le_of_ble_eq_true rfl⟩ (Nat.le_of_ble_eq_true rfl) ⟨Nat.le_of_ble_eq_true rfl, Nat.le_of_ble_eq_true rfl⟩ dX12_go_131 rfl (st := []) (fun x_1317 I_1318 J_1319 h_1320 => ?_)
                    obtain ⟨rfl, rfl, rx_1317, fx_1317, ex_1317⟩ := h_1320
                    have c_1321 : isDc (x_954) = x_1317 := fx_1317.symm
                    refine g_if_ne C (tgt := 198) dX12_go_134 (by decide) (fun h_1322 => ?_) (fun h_1322 => ?_)
                    · skip
                      have n_1323 : ¬ x_1317 = 0 := h_1322
                      have r_1324 := ne_lo (lo := 1) n_1323 rx_1317 rc_0 rfl (by decide)
                      have r_1325 := rg_i rx_954 ((ex_1317.2) n_1323) (lo := 48) (hi := 57) (by decide) (by decide)
                      refine g_iload_n C 0 dX12_go_198 rfl rfl ?_
                      refine g_callSI C K (c_X12_isLetter W9 x_954  hU_968) s_12_107 rfl ⟨rfl, rfl⟩ ⟨Nat.le_of_ble_eq_true rfl, Nat.le_of_ble_eq_true rfl⟩ (Nat.le_of_ble_eq_true rfl) ⟨Nat.le_of_ble_eq_true rfl, Nat.le_of_ble_eq_true rfl⟩ dX12_go_199 rfl (st := []) (fun x_1326 I_1327 J_1328 h_1329 => ?_)
                      obtain ⟨rfl, rfl, rx_1326, fx_1326, ex_1326⟩ := h_1329
                      have c_1330 : isLc (x_954) = x_1326 := fx_1326.symm
                      have ec_1330 : x_1249 = x_1326 := c_1253.symm.trans c_1330
                      subst ec_1330
                      refine g_istore_n C dX12_go_202 rfl (by decide) (lo2 := [(2, .int x_1249), (1, .int x_954), (0, .ref x)]) rfl ?_
                      refine g_iconst C (v := 1) dX12_go_203 (by decide) ?_
                      refine g_istore_n C dX12_go_204 rfl (by decide) (lo2 := [(3, .int 1), (2, .int x_1249), (1, .int x_954), (0, .ref x)]) rfl ?_
                      refine g_aload_n C 3 dX12_go_205 rfl rfl ?_
                      refine g_lconst C (v := 0) dX12_go_206 (by decide) ?_
                      refine h_putJ C K hLx hkx f_12_117 p_12_12 dX12_go_207 (fun J_1331 hJ_1331 => ?_)
                      have hG_1332 := fq_puto hG_381 hJ_1331 hkx (by decide) (by decide)
                      have hs_1333 : MTq I_967 J_1331 x b_2 = (MT_.w_word (MT_.w_frm s_387 (v_382)) (0)) := by rw [hJ_1331]; exact ((mq_word wmqx).trans (congrArg (fun z : MT_ => MT_.w_word z (0)) hs_970)).trans rfl
                      refine g_aload_n C 3 dX12_go_210 rfl rfl ?_
                      refine g_iconst C (v := 0) dX12_go_211 (by decide) ?_
                      refine h_putI C K hLx hkx f_12_121 p_12_8 dX12_go_212 (fun I_1334 hI_1334 => ?_)
                      have hU_1335 := iw_put W9 hU_968 hI_1334 (ro_o hkx (by decide)) (lo := (-2147483648)) (hi := 2147483647) (rfl) (rg_all _) rfl
                      have hF_1336 := fq_puto hF_969 hI_1334 hkx (by decide) (by decide)
                      have hs_1337 : MTq I_1334 J_1331 x b_2 = (MT_.w_number (MT_.w_word (MT_.w_frm s_387 (v_382)) (0)) (0)) := by rw [hI_1334]; exact ((mq_number wmqx).trans (congrArg (fun z : MT_ => MT_.w_number z (0)) hs_1333)).trans rfl
                      have u_1338 := mrun_eq (lt := x_1249) (g := 1) (m := (MT_.w_number (MT_.w_word (MT_.w_frm s_387 (v_382)) (0)) (0))) ((congrArg MT_.to hs_1337).symm.trans (kp_j hI_1334 (by decide) (kp_j hI_967 (by decide) q_383))) (rg_w r_1245 (by decide) (by decide))
                      refine g_aload_n C 3 dX12_go_215 rfl rfl ?_
                      refine g_aload_n C 3 dX12_go_216 rfl rfl ?_
                      refine g_getI C K hLx hkx f_12_95 (v := v_382) (kp_j hI_1334 (by decide) (kp_j hI_967 (by decide) q_383)) dX12_go_217 ?_
                      refine g_callVI C K (c_X12_tapeAt W9 hLx hkx v_382 (rg_w r_1245 (by decide) (by decide)) hU_1335) hLx hkx (by decide) rfl v_12_124 rfl ⟨rfl, rfl⟩ ⟨Nat.le_of_ble_eq_true rfl, Nat.le_of_ble_eq_true rfl⟩ (Nat.le_of_ble_eq_true rfl) ⟨Nat.le_of_ble_eq_true rfl, Nat.le_of_ble_eq_true rfl⟩ dX12_go_220 rfl (st := []) (fun x_1339 I_1340 J_1341 h_1342 => ?_)
                      obtain ⟨rfl, rfl, rx_1339, fx_1339, ex_1339⟩ := h_1342
                      have c_1343 : mTapeAt (v_382) ((MT_.w_number (MT_.w_word (MT_.w_frm s_387 (v_382)) (0)) (0))) = x_1339 := by have q := fx_1339; simp only [emqx, hs_1337] at q; exact q.symm
                      have r_1344 := eq_rg ((ex_1339.1 _ hb_2 (by rw [(kp_j hI_1334 (by decide) (kp_j hI_967 (by decide) hx_391))]; exact h_1247)).trans (kp_k (κ := κ) hI_1334 (by rw [hb_2k, hkx]; decide) (kp_k (κ := κ) hI_967 (by rw [hb_2k, hkx]; decide) hx_954))) r_1325
                      refine g_callSI C K (c_X12_isLetter W9 x_1339  hU_1335) s_12_107 rfl ⟨rfl, rfl⟩ ⟨Nat.le_of_ble_eq_true rfl, Nat.le_of_ble_eq_true rfl⟩ (Nat.le_of_ble_eq_true rfl) ⟨Nat.le_of_ble_eq_true rfl, Nat.le_of_ble_eq_true rfl⟩ dX12_go_223 rfl (st := []) (fun x_1345 I_1346 J_1347 h_1348 => ?_)
                      obtain ⟨rfl, rfl, rx_1345, fx_1345, ex_1345⟩ := h_1348
                      have c_1349 : isLc (x_1339) = x_1345 := fx_1345.symm
                      refine g_if_ne C (tgt := 243) dX12_go_226 (by decide) (fun h_1350 => ?_) (fun h_1350 => ?_)
                      · skip
                        have n_1351 : ¬ x_1345 = 0 := h_1350
                        have r_1352 := ne_lo (lo := 1) n_1351 rx_1345 rc_0 rfl (by decide)
                        have r_1353 := rg_i r_1344 ((ex_1345.2) n_1351) (lo := 97) (hi := 57) (by decide) (by decide)
                        exact rg_no r_1353 (by decide)
                      · skip
                        have r_1354 := (⟨(rx_1345).1, (eq_rg (h_1350) rc_0).2⟩ : Rg 0 0 x_1345)
                        refine g_aload_n C 3 dX12_go_229 rfl rfl ?_
                        refine g_aload_n C 3 dX12_go_230 rfl rfl ?_
                        refine g_getI C K hLx hkx f_12_95 (v := v_382) (kp_j hI_1334 (by decide) (kp_j hI_967 (by decide) q_383)) dX12_go_231 ?_
                        refine g_callVI C K (c_X12_tapeAt W9 hLx hkx v_382 (rg_w r_1245 (by decide) (by decide)) hU_1335) hLx hkx (by decide) rfl v_12_124 rfl ⟨rfl, rfl⟩ ⟨Nat.le_of_ble_eq_true rfl, Nat.le_of_ble_eq_true rfl⟩ (Nat.le_of_ble_eq_true rfl) ⟨Nat.le_of_ble_eq_true rfl, Nat.le_of_ble_eq_true rfl⟩ dX12_go_234 rfl (st := []) (fun x_1355 I_1356 J_1357 h_1358 => ?_)
                        obtain ⟨rfl, rfl, rx_1355, fx_1355, ex_1355⟩ := h_1358
                        have c_1359 : mTapeAt (v_382) ((MT_.w_number (MT_.w_word (MT_.w_frm s_387 (v_382)) (0)) (0))) = x_1355 := by have q := fx_1355; simp only [emqx, hs_1337] at q; exact q.symm
                        have ec_1359 : x_1339 = x_1355 := c_1343.symm.trans c_1359
                        subst ec_1359
                        refine g_callSI C K (c_X12_isDigit W9 x_1339  hU_1335) s_12_111 rfl ⟨rfl, rfl⟩ ⟨Nat.le_of_ble_eq_true rfl, Nat.le_of_ble_eq_true rfl⟩ (Nat.le_of_ble_eq_true rfl) ⟨Nat.le_of_ble_eq_true rfl, Nat.le_of_ble_eq_true rfl⟩ dX12_go_237 rfl (st := []) (fun x_1360 I_1361 J_1362 h_1363 => ?_)
                        obtain ⟨rfl, rfl, rx_1360, fx_1360, ex_1360⟩ := h_1363
                        have c_1364 : isDc (x_1339) = x_1360 := fx_1360.symm
                        have n_1365 : ¬ x_1360 = 0 := by rcases ex_1360.1 with q | q | q; exact q; exact absurd q (by have := (r_1344).1; omega); exact absurd q (by have := (r_1344).2; omega)
                        have n_1366 : ¬ x_1360 = 0 := n_1365
                        have r_1367 := ne_lo (lo := 1) n_1366 rx_1360 rc_0 rfl (by decide)
                        refine g_if_eq C (tgt := 350) dX12_go_240 (by decide) (fun h_1368 => ?_) (fun h_1368 => ?_)
                        · skip
                          exact eq_no (h_1368) r_1367 rc_0 (by decide)
                        · skip
                          have n_1369 : ¬ x_1360 = 0 := h_1368
                          refine g_aload_n C 3 dX12_go_243 rfl rfl ?_
                          refine g_getR C K hLx hkx f_12_7 hb_2 dX12_go_244 ?_
                          refine g_aload_n C 3 dX12_go_247 rfl rfl ?_
                          refine g_getI C K hLx hkx f_12_95 (v := v_382) (kp_j hI_1334 (by decide) (kp_j hI_967 (by decide) q_383)) dX12_go_248 ?_
                          refine h_iald C K hb_2L hb_2k (v := x_954) (v_382.toNatClampNeg) (rfl) (ix_0 r_1245 (by decide)) (ix_lt r_1245 (by decide) hb_2n (by decide)) (kp_k (κ := κ) hI_1334 (by rw [hb_2k, hkx]; decide) (kp_k (κ := κ) hI_967 (by rw [hb_2k, hkx]; decide) hx_954)) dX12_go_251 ?_
                          refine g_istore C dX12_go_252 (by decide) (lo2 := [(4, .int x_954), (3, .int 1), (2, .int x_1249), (1, .int x_954), (0, .ref x)]) rfl ?_
                          refine g_iload_n C 1 dX12_go_254 rfl rfl ?_
                          refine g_if_eq C (tgt := 271) dX12_go_255 (by decide) (fun h_1371 => ?_) (fun h_1371 => ?_)
                          · skip
                            exact absurd (h_1371) (by decide)
                          · skip
                            refine g_iload C 0 dX12_go_258 rfl ?_
                            refine g_callSI C K (c_X12_isLetter W9 x_954  hU_1335) s_12_107 rfl ⟨rfl, rfl⟩ ⟨Nat.le_of_ble_eq_true rfl, Nat.le_of_ble_eq_true rfl⟩ (Nat.le_of_ble_eq_true rfl) ⟨Nat.le_of_ble_eq_true rfl, Nat.le_of_ble_eq_true rfl⟩ dX12_go_260 rfl (st := []) (fun x_1372 I_1373 J_1374 h_1375 => ?_)
                            obtain ⟨rfl, rfl, rx_1372, fx_1372, ex_1372⟩ := h_1375
                            have c_1376 : isLc (x_954) = x_1372 := fx_1372.symm
                            have ec_1376 : x_1249 = x_1372 := c_1253.symm.trans c_1376
                            subst ec_1376
                            refine g_iload_n C 2 dX12_go_263 rfl rfl ?_
                            refine g_icmp_ne C (tgt := 271) dX12_go_264 (by decide) (fun h_1377 => ?_) (fun h_1377 => ?_)
                            · skip
                              exact ne_no (h_1377) r_1316 r_1316
                            · skip
                              refine g_iconst C (v := 1) dX12_go_267 (by decide) ?_
                              refine g_goto C (tgt := 272) dX12_go_268 (by decide) ?_
                              refine g_istore_n C dX12_go_272 rfl (by decide) (lo2 := [(3, .int 1), (4, .int x_954), (2, .int x_1249), (1, .int x_954), (0, .ref x)]) rfl ?_
                              refine g_aload_n C 4 dX12_go_273 rfl rfl ?_
                              refine g_getI C K hLx hkx f_12_95 (v := v_382) (kp_j hI_1334 (by decide) (kp_j hI_967 (by decide) q_383)) dX12_go_274 ?_
                              refine g_aload_n C 4 dX12_go_277 rfl rfl ?_
                              refine g_getI C K hLx hkx f_12_98 (v := v_382) (kp_j hI_1334 (by decide) (kp_s hI_967)) dX12_go_278 ?_
                              refine g_isub C (v := 0) dX12_go_281 (Int32.sub_self _) ?_
                              refine g_bipush C (v := 7) dX12_go_282 (by decide) ?_
                              refine g_icmp_ge C (tgt := 307) dX12_go_284 (by decide) (fun h_1378 => ?_) (fun h_1378 => ?_)
                              · skip
                                exact absurd (h_1378) (by decide)
                              · skip
                                refine g_aload_n C 4 dX12_go_287 rfl rfl ?_
                                refine g_ldc2 C kl_128 dX12_go_288 ?_
                                refine g_aload_n C 4 dX12_go_291 rfl rfl ?_
                                obtain ⟨y_1379, hy_1379⟩ : ∃ z, J_1331 x 12 = z := ⟨_, rfl⟩
                                refine g_getJ C K hLx hkx f_12_117 (v := y_1379) hy_1379 dX12_go_292 ?_
                                refine g_lmulE C dX12_go_295 (fun y_1380 hy_1380 => ?_)
                                refine g_iload C 1 dX12_go_296 rfl ?_
                                obtain ⟨y_1381, hy_1381⟩ : ∃ z, Int32.toInt64 x_954 = z := ⟨_, rfl⟩
                                refine g_i2l C (v := y_1381) dX12_go_298 hy_1381 ?_
                                refine g_laddE C dX12_go_299 (fun y_1382 hy_1382 => ?_)
                                refine g_ldc2 C kl_130 dX12_go_300 ?_
                                refine g_lsubE C dX12_go_303 (fun y_1383 hy_1383 => ?_)
                                refine h_putJ C K hLx hkx f_12_117 p_12_12 dX12_go_304 (fun J_1384 hJ_1384 => ?_)
                                have hG_1385 := fq_puto hG_1332 hJ_1384 hkx (by decide) (by decide)
                                have hs_1386 : MTq I_1334 J_1384 x b_2 = (MT_.w_word (MT_.w_number (MT_.w_frm s_387 (v_382)) (0)) (y_1383)) := by rw [hJ_1384]; exact ((mq_word wmqx).trans (congrArg (fun z : MT_ => MT_.w_word z (y_1383)) hs_1337)).trans rfl
                                refine g_aload_n C 4 dX12_go_307 rfl rfl ?_
                                refine g_getI C K hLx hkx f_12_95 (v := v_382) (kp_j hI_1334 (by decide) (kp_j hI_967 (by decide) q_383)) dX12_go_308 ?_
                                refine g_aload_n C 4 dX12_go_311 rfl rfl ?_
                                refine g_getI C K hLx hkx f_12_98 (v := v_382) (kp_j hI_1334 (by decide) (kp_s hI_967)) dX12_go_312 ?_
                                refine g_isub C (v := 0) dX12_go_315 (Int32.sub_self _) ?_
                                refine g_iconst C (v := 3) dX12_go_316 (by decide) ?_
                                refine g_icmp_ge C (tgt := 337) dX12_go_317 (by decide) (fun h_1387 => ?_) (fun h_1387 => ?_)
                                · skip
                                  exact absurd (h_1387) (by decide)
                                · skip
                                  refine g_aload_n C 4 dX12_go_320 rfl rfl ?_
                                  refine g_bipush C (v := 10) dX12_go_321 (by decide) ?_
                                  refine g_aload_n C 4 dX12_go_323 rfl rfl ?_
                                  refine g_getI C K hLx hkx f_12_121 (v := 0) (kp_s hI_1334) dX12_go_324 ?_
                                  refine g_imul C (v := 0) dX12_go_327 (by decide) ?_
                                  refine g_iload C 1 dX12_go_328 rfl ?_
                                  obtain ⟨x_1388, hx_1388, rx_1388, tx_1388⟩ := ex_add 48 57 rc_0 r_1325 (by decide) (by decide) (by decide) (by decide)
                                  refine g_iadd C (v := x_1388) dX12_go_330 hx_1388 ?_
                                  refine g_bipush C (v := 48) dX12_go_331 (by decide) ?_
                                  obtain ⟨x_1389, hx_1389, rx_1389, tx_1389⟩ := ex_sub 0 9 rx_1388 rc_48 (by decide) (by decide) (by decide) (by decide)
                                  refine g_isub C (v := x_1389) dX12_go_333 hx_1389 ?_
                                  refine h_putI C K hLx hkx f_12_121 p_12_8 dX12_go_334 (fun I_1390 hI_1390 => ?_)
                                  have hU_1391 := iw_put W9 hU_1335 hI_1390 (ro_o hkx (by decide)) (lo := (-2147483648)) (hi := 2147483647) (rfl) (rg_all _) rfl
                                  have hF_1392 := fq_puto hF_1336 hI_1390 hkx (by decide) (by decide)
                                  have hs_1393 : MTq I_1390 J_1384 x b_2 = (MT_.w_number (MT_.w_word (MT_.w_frm s_387 (v_382)) (y_1383)) (x_1389)) := by rw [hI_1390]; exact ((mq_number wmqx).trans (congrArg (fun z : MT_ => MT_.w_number z (x_1389)) hs_1386)).trans rfl
                                  refine g_aload_n C 4 dX12_go_337 rfl rfl ?_
                                  refine g_dup C dX12_go_338 rfl ?_
                                  refine g_getI C K hLx hkx f_12_95 (v := v_382) (kp_j hI_1390 (by decide) (kp_j hI_1334 (by decide) (kp_j hI_967 (by decide) q_383))) dX12_go_339 ?_
                                  refine g_iconst C (v := 1) dX12_go_342 (by decide) ?_
                                  obtain ⟨x_1394, hx_1394, rx_1394, tx_1394⟩ := ex_add 1 900 r_1245 rc_1 (by decide) (by decide) (by decide) (by decide)
                                  refine g_iadd C (v := x_1394) dX12_go_343 hx_1394 ?_
                                  refine h_putI C K hLx hkx f_12_95 p_12_5 dX12_go_344 (fun I_1395 hI_1395 => ?_)
                                  have hU_1396 := iw_put W9 hU_1391 hI_1395 (ro_o hkx (by decide)) (lo := 0) (hi := 940) (rfl) (rg_w rx_1394 (by decide) (by decide)) rfl
                                  have hF_1397 := fq_puto hF_1392 hI_1395 hkx (by decide) (by decide)
                                  have hs_1398 : MTq I_1395 J_1384 x b_2 = (MT_.w_to (MT_.w_number (MT_.w_word (MT_.w_frm s_387 (v_382)) (y_1383)) (x_1389)) (x_1394)) := by rw [hI_1395]; exact ((mq_to wmqx).trans (congrArg (fun z : MT_ => MT_.w_to z (x_1394)) hs_1393)).trans rfl
                                  refine g_goto C (tgt := 215) dX12_go_347 (by decide) ?_
                                  refine g_lo (is := [4, 3, 2, 0, 1]) (lo2 := [(0, .ref x), (1, .int x_954), (2, .int x_1249), (3, .int 1), (4, .int x_954)]) rfl ?_
                                  exact l_215 940 I_1395 J_1384 hU_1396 hF_1397 hG_1385 x_954 (rg_w r_1325 (by decide) (by decide)) (n_966) (n_963) x_1249 (rg_w r_1316 (by decide) (by decide)) 1 (rg_w rc_1 (by decide) (by decide)) x_954 (rg_w r_1325 (by decide) (by decide)) x_391 (r_953) x_971 (rg_w r_1246 (by decide) (by decide)) x_1394 (rg_w rx_1394 (by decide) (by decide)) v_382 (r_1245) x_1389 (kp_j hI_1395 (by decide) (kp_j hI_1390 (by decide) (kp_j hI_1334 (by decide) (kp_j hI_967 (by decide) hx_391)))) (kp_j hI_1395 (by decide) (kp_j hI_1390 (by decide) (kp_j hI_1334 (by decide) hx_971))) (kp_s hI_1395) (kp_j hI_1395 (by decide) (kp_j hI_1390 (by decide) (kp_j hI_1334 (by decide) (kp_s hI_967)))) (kp_j hI_1395 (by decide) (kp_s hI_1390)) (by (try simp only [f_390, hx_391, f_392, h_393, (nle h_393), hx_954, f_955, h_956, h_965, hx_971, f_972, h_973, (nle h_973), h_1244, h_1247, c_1253, (eq_true h_1254), c_1321, h_1322, c_1349, (eq_true h_1350), c_1364, h_1368, h_1371, (eq_true h_1377), h_1378, (nle h_1378), hy_1379, hy_1380, hy_1381, hy_1382, hy_1383, h_1387, (nle h_1387), hx_1388, hx_1389, hx_1394, if_true, if_false, mqM_tp, mqM_size, mqM_limit, mqM_to, mqM_frm, mqM_kind, mqM_number, mqM_sign, mqM_word, MT_.w_tp, MT_.w_size, MT_.w_limit, MT_.w_to, MT_.w_frm, MT_.w_kind, MT_.w_number, MT_.w_sign, MT_.w_word] at hQ_388); (try simp only [f_390, hx_391, f_392, h_393, (nle h_393), hx_954, f_955, h_956, h_965, hx_971, f_972, h_973, (nle h_973), h_1244, h_1247, c_1253, (eq_true h_1254), c_1321, h_1322, c_1349, (eq_true h_1350), c_1364, h_1368, h_1371, (eq_true h_1377), h_1378, (nle h_1378), hy_1379, hy_1380, hy_1381, hy_1382, hy_1383, h_1387, (nle h_1387), hx_1388, hx_1389, hx_1394, if_true, if_false, mqM_tp, mqM_size, mqM_limit, mqM_to, mqM_frm, mqM_kind, mqM_number, mqM_sign, mqM_word, MT_.w_tp, MT_.w_size, MT_.w_limit, MT_.w_to, MT_.w_frm, MT_.w_kind, MT_.w_number, MT_.w_sign, MT_.w_word] at u_389); (try simp only [f_390, hx_391, f_392, h_393, (nle h_393), hx_954, f_955, h_956, h_965, hx_971, f_972, h_973, (nle h_973), h_1244, h_1247, c_1253, (eq_true h_1254), c_1321, h_1322, c_1349, (eq_true h_1350), c_1364, h_1368, h_1371, (eq_true h_1377), h_1378, (nle h_1378), hy_1379, hy_1380, hy_1381, hy_1382, hy_1383, h_1387, (nle h_1387), hx_1388, hx_1389, hx_1394, if_true, if_false, mqM_tp, mqM_size, mqM_limit, mqM_to, mqM_frm, mqM_kind, mqM_number, mqM_sign, mqM_word, MT_.w_tp, MT_.w_size, MT_.w_limit, MT_.w_to, MT_.w_frm, MT_.w_kind, MT_.w_number, MT_.w_sign, MT_.w_word] at u_1338); (try simp only [f_390, hx_391, f_392, h_393, (nle h_393), hx_954, f_955, h_956, h_965, hx_971, f_972, h_973, (nle h_973), h_1244, h_1247, c_1253, (eq_true h_1254), c_1321, h_1322, c_1349, (eq_true h_1350), c_1364, h_1368, h_1371, (eq_true h_1377), h_1378, (nle h_1378), hy_1379, hy_1380, hy_1381, hy_1382, hy_1383, h_1387, (nle h_1387), hx_1388, hx_1389, hx_1394, if_true, if_false, mqM_tp, mqM_size, mqM_limit, mqM_to, mqM_frm, mqM_kind, mqM_number, mqM_sign, mqM_word, MT_.w_tp, MT_.w_size, MT_.w_limit, MT_.w_to, MT_.w_frm, MT_.w_kind, MT_.w_number, MT_.w_sign, MT_.w_word] at c_1343); simp only [mGo, mGo2, mGo3, mGoE, mSg, mStep, mGood, emqx, hs_1398, hs_3, hQ_388, f_390, u_389, hx_391, f_392, h_393, (nle h_393), hx_954, f_955, h_956, h_965, hx_971, f_972, h_973, (nle h_973), h_1244, h_1247, c_1253, (eq_true h_1254), c_1321, h_1322, u_1338, c_1343, c_1349, (eq_true h_1350), c_1364, h_1368, h_1371, (eq_true h_1377), h_1378, (nle h_1378), hy_1379, hy_1380, hy_1381, hy_1382, hy_1383, h_1387, (nle h_1387), hx_1388, hx_1389, hx_1394, if_true, if_false, mqM_tp, mqM_size, mqM_limit, mqM_to, mqM_frm, mqM_kind, mqM_number, mqM_sign, mqM_word, MT_.w_tp, MT_.w_size, MT_.w_limit, MT_.w_to, MT_.w_frm, MT_.w_kind, MT_.w_number, MT_.w_sign, MT_.w_word]) (by have := hj_385; have := (ti_k tx_1394 rc_1); omega) (ms_s (a := 1) (b := 940) (N := 940) (rg_w rx_1394 (by decide) (by decide)) (by decide))
                    · skip
                      have r_1399 := (⟨(rx_1317).1, (eq_rg (h_1322) rc_0).2⟩ : Rg 0 0 x_1317)
                      refine g_aload_n C 1 dX12_go_137 rfl rfl ?_
                      refine g_iload_n C 0 dX12_go_138 rfl rfl ?_
                      refine g_bipush C (v := 59) dX12_go_139 (by decide) ?_
                      refine g_icmp_eq C (tgt := 174) dX12_go_141 (by decide) (fun h_1400 => ?_) (fun h_1400 => ?_)
                      · skip
                        have r_1401 := (⟨(eq_rg (h_1400) rc_59).1, (eq_rg (h_1400) rc_59).2⟩ : Rg 59 59 x_954)
                        refine g_iconst C (v := 4) dX12_go_174 (by decide) ?_
                        refine g_goto C (tgt := 179) dX12_go_175 (by decide) ?_
                        refine h_putI C K hLx hkx f_12_104 p_12_7 dX12_go_179 (fun I_1402 hI_1402 => ?_)
                        have hU_1403 := iw_put W9 hU_968 hI_1402 (ro_o hkx (by decide)) (lo := 0) (hi := 4) (rfl) (rg_w rc_4 (by decide) (by decide)) rfl
                        have hF_1404 := fq_puto hF_969 hI_1402 hkx (by decide) (by decide)
                        have hs_1405 : MTq I_1402 J_378 x b_2 = (MT_.w_kind (MT_.w_frm s_387 (v_382)) (4)) := by rw [hI_1402]; exact ((mq_kind wmqx).trans (congrArg (fun z : MT_ => MT_.w_kind z (4)) hs_970)).trans rfl
                        refine g_aload_n C 1 dX12_go_182 rfl rfl ?_
                        refine g_iload_n C 0 dX12_go_183 rfl rfl ?_
                        refine h_putI C K hLx hkx f_12_114 p_12_9 dX12_go_184 (fun I_1406 hI_1406 => ?_)
                        have hU_1407 := iw_put W9 hU_1403 hI_1406 (ro_o hkx (by decide)) (lo := (-2147483648)) (hi := 2147483647) (rfl) (rg_all _) rfl
                        have hF_1408 := fq_puto hF_1404 hI_1406 hkx (by decide) (by decide)
                        have hs_1409 : MTq I_1406 J_378 x b_2 = (MT_.w_sign (MT_.w_kind (MT_.w_frm s_387 (v_382)) (4)) (x_954)) := by rw [hI_1406]; exact ((mq_sign wmqx).trans (congrArg (fun z : MT_ => MT_.w_sign z (x_954)) hs_1405)).trans rfl
                        refine g_aload_n C 1 dX12_go_187 rfl rfl ?_
                        refine g_dup C dX12_go_188 rfl ?_
                        refine g_getI C K hLx hkx f_12_95 (v := v_382) (kp_j hI_1406 (by decide) (kp_j hI_1402 (by decide) (kp_j hI_967 (by decide) q_383))) dX12_go_189 ?_
                        refine g_iconst C (v := 1) dX12_go_192 (by decide) ?_
                        obtain ⟨x_1410, hx_1410, rx_1410, tx_1410⟩ := ex_add 1 900 r_1245 rc_1 (by decide) (by decide) (by decide) (by decide)
                        refine g_iadd C (v := x_1410) dX12_go_193 hx_1410 ?_
                        refine h_putI C K hLx hkx f_12_95 p_12_5 dX12_go_194 (fun I_1411 hI_1411 => ?_)
                        have hU_1412 := iw_put W9 hU_1407 hI_1411 (ro_o hkx (by decide)) (lo := 0) (hi := 940) (rfl) (rg_w rx_1410 (by decide) (by decide)) rfl
                        have hF_1413 := fq_puto hF_1408 hI_1411 hkx (by decide) (by decide)
                        have hs_1414 : MTq I_1411 J_378 x b_2 = (MT_.w_to (MT_.w_sign (MT_.w_kind (MT_.w_frm s_387 (v_382)) (4)) (x_954)) (x_1410)) := by rw [hI_1411]; exact ((mq_to wmqx).trans (congrArg (fun z : MT_ => MT_.w_to z (x_1410)) hs_1409)).trans rfl
                        exact g_vret B K rfl ⟨hU_1412, hF_1413, hG_381, (by (try simp only [f_390, hx_391, f_392, h_393, (nle h_393), hx_954, f_955, h_956, h_965, hx_971, f_972, h_973, (nle h_973), h_1244, h_1247, c_1253, (eq_true h_1254), c_1321, (eq_true h_1322), (eq_true h_1400), hx_1410, if_true, if_false, mqM_tp, mqM_size, mqM_limit, mqM_to, mqM_frm, mqM_kind, mqM_number, mqM_sign, mqM_word, MT_.w_tp, MT_.w_size, MT_.w_limit, MT_.w_to, MT_.w_frm, MT_.w_kind, MT_.w_number, MT_.w_sign, MT_.w_word] at hQ_388); (try simp only [f_390, hx_391, f_392, h_393, (nle h_393), hx_954, f_955, h_956, h_965, hx_971, f_972, h_973, (nle h_973), h_1244, h_1247, c_1253, (eq_true h_1254), c_1321, (eq_true h_1322), (eq_true h_1400), hx_1410, if_true, if_false, mqM_tp, mqM_size, mqM_limit, mqM_to, mqM_frm, mqM_kind, mqM_number, mqM_sign, mqM_word, MT_.w_tp, MT_.w_size, MT_.w_limit, MT_.w_to, MT_.w_frm, MT_.w_kind, MT_.w_number, MT_.w_sign, MT_.w_word] at u_389); simp only [mGo, mGo2, mGo3, mGoE, mSg, mStep, mGood, emqx, hs_1414, hs_3, hQ_388, f_390, u_389, hx_391, f_392, h_393, (nle h_393), hx_954, f_955, h_956, h_965, hx_971, f_972, h_973, (nle h_973), h_1244, h_1247, c_1253, (eq_true h_1254), c_1321, (eq_true h_1322), (eq_true h_1400), hx_1410, if_true, if_false, mqM_tp, mqM_size, mqM_limit, mqM_to, mqM_frm, mqM_kind, mqM_number, mqM_sign, mqM_word, MT_.w_tp, MT_.w_size, MT_.w_limit, MT_.w_to, MT_.w_frm, MT_.w_kind, MT_.w_number, MT_.w_sign, MT_.w_word]), (ps_mk hx_1 (kp_s hI_1411) (kp_j hI_1411 (by decide) (kp_j hI_1406 (by decide) (kp_s hI_1402))) (Int.le_of_lt (by have := hj_385; have := (ti_k tx_1410 rc_1); omega)) (Or.inl (by have := hj_385; have := (ti_k tx_1410 rc_1); omega)))⟩ dX12_go_197
                      · skip
                        have n_1415 : ¬ x_954 = 59 := h_1400
                        refine g_iload_n C 0 dX12_go_144 rfl rfl ?_
                        refine g_bipush C (v := 60) dX12_go_145 (by decide) ?_
                        refine g_icmp_eq C (tgt := 174) dX12_go_147 (by decide) (fun h_1416 => ?_) (fun h_1416 => ?_)
                        · skip
                          have r_1417 := (⟨(eq_rg (h_1416) rc_60).1, (eq_rg (h_1416) rc_60).2⟩ : Rg 60 60 x_954)
                          refine g_iconst C (v := 4) dX12_go_174 (by decide) ?_
                          refine g_goto C (tgt := 179) dX12_go_175 (by decide) ?_
                          refine h_putI C K hLx hkx f_12_104 p_12_7 dX12_go_179 (fun I_1418 hI_1418 => ?_)
                          have hU_1419 := iw_put W9 hU_968 hI_1418 (ro_o hkx (by decide)) (lo := 0) (hi := 4) (rfl) (rg_w rc_4 (by decide) (by decide)) rfl
                          have hF_1420 := fq_puto hF_969 hI_1418 hkx (by decide) (by decide)
                          have hs_1421 : MTq I_1418 J_378 x b_2 = (MT_.w_kind (MT_.w_frm s_387 (v_382)) (4)) := by rw [hI_1418]; exact ((mq_kind wmqx).trans (congrArg (fun z : MT_ => MT_.w_kind z (4)) hs_970)).trans rfl
                          refine g_aload_n C 1 dX12_go_182 rfl rfl ?_
                          refine g_iload_n C 0 dX12_go_183 rfl rfl ?_
                          refine h_putI C K hLx hkx f_12_114 p_12_9 dX12_go_184 (fun I_1422 hI_1422 => ?_)
                          have hU_1423 := iw_put W9 hU_1419 hI_1422 (ro_o hkx (by decide)) (lo := (-2147483648)) (hi := 2147483647) (rfl) (rg_all _) rfl
                          have hF_1424 := fq_puto hF_1420 hI_1422 hkx (by decide) (by decide)
                          have hs_1425 : MTq I_1422 J_378 x b_2 = (MT_.w_sign (MT_.w_kind (MT_.w_frm s_387 (v_382)) (4)) (x_954)) := by rw [hI_1422]; exact ((mq_sign wmqx).trans (congrArg (fun z : MT_ => MT_.w_sign z (x_954)) hs_1421)).trans rfl
                          refine g_aload_n C 1 dX12_go_187 rfl rfl ?_
                          refine g_dup C dX12_go_188 rfl ?_
                          refine g_getI C K hLx hkx f_12_95 (v := v_382) (kp_j hI_1422 (by decide) (kp_j hI_1418 (by decide) (kp_j hI_967 (by decide) q_383))) dX12_go_189 ?_
                          refine g_iconst C (v := 1) dX12_go_192 (by decide) ?_
                          obtain ⟨x_1426, hx_1426, rx_1426, tx_1426⟩ := ex_add 1 900 r_1245 rc_1 (by decide) (by decide) (by decide) (by decide)
                          refine g_iadd C (v := x_1426) dX12_go_193 hx_1426 ?_
                          refine h_putI C K hLx hkx f_12_95 p_12_5 dX12_go_194 (fun I_1427 hI_1427 => ?_)
                          have hU_1428 := iw_put W9 hU_1423 hI_1427 (ro_o hkx (by decide)) (lo := 0) (hi := 940) (rfl) (rg_w rx_1426 (by decide) (by decide)) rfl
                          have hF_1429 := fq_puto hF_1424 hI_1427 hkx (by decide) (by decide)
                          have hs_1430 : MTq I_1427 J_378 x b_2 = (MT_.w_to (MT_.w_sign (MT_.w_kind (MT_.w_frm s_387 (v_382)) (4)) (x_954)) (x_1426)) := by rw [hI_1427]; exact ((mq_to wmqx).trans (congrArg (fun z : MT_ => MT_.w_to z (x_1426)) hs_1425)).trans rfl
                          exact g_vret B K rfl ⟨hU_1428, hF_1429, hG_381, (by (try simp only [f_390, hx_391, f_392, h_393, (nle h_393), hx_954, f_955, h_956, h_965, hx_971, f_972, h_973, (nle h_973), h_1244, h_1247, c_1253, (eq_true h_1254), c_1321, (eq_true h_1322), h_1400, (eq_true h_1416), hx_1426, if_true, if_false, mqM_tp, mqM_size, mqM_limit, mqM_to, mqM_frm, mqM_kind, mqM_number, mqM_sign, mqM_word, MT_.w_tp, MT_.w_size, MT_.w_limit, MT_.w_to, MT_.w_frm, MT_.w_kind, MT_.w_number, MT_.w_sign, MT_.w_word] at hQ_388); (try simp only [f_390, hx_391, f_392, h_393, (nle h_393), hx_954, f_955, h_956, h_965, hx_971, f_972, h_973, (nle h_973), h_1244, h_1247, c_1253, (eq_true h_1254), c_1321, (eq_true h_1322), h_1400, (eq_true h_1416), hx_1426, if_true, if_false, mqM_tp, mqM_size, mqM_limit, mqM_to, mqM_frm, mqM_kind, mqM_number, mqM_sign, mqM_word, MT_.w_tp, MT_.w_size, MT_.w_limit, MT_.w_to, MT_.w_frm, MT_.w_kind, MT_.w_number, MT_.w_sign, MT_.w_word] at u_389); simp only [mGo, mGo2, mGo3, mGoE, mSg, mStep, mGood, emqx, hs_1430, hs_3, hQ_388, f_390, u_389, hx_391, f_392, h_393, (nle h_393), hx_954, f_955, h_956, h_965, hx_971, f_972, h_973, (nle h_973), h_1244, h_1247, c_1253, (eq_true h_1254), c_1321, (eq_true h_1322), h_1400, (eq_true h_1416), hx_1426, if_true, if_false, mqM_tp, mqM_size, mqM_limit, mqM_to, mqM_frm, mqM_kind, mqM_number, mqM_sign, mqM_word, MT_.w_tp, MT_.w_size, MT_.w_limit, MT_.w_to, MT_.w_frm, MT_.w_kind, MT_.w_number, MT_.w_sign, MT_.w_word]), (ps_mk hx_1 (kp_s hI_1427) (kp_j hI_1427 (by decide) (kp_j hI_1422 (by decide) (kp_s hI_1418))) (Int.le_of_lt (by have := hj_385; have := (ti_k tx_1426 rc_1); omega)) (Or.inl (by have := hj_385; have := (ti_k tx_1426 rc_1); omega)))⟩ dX12_go_197
                        · skip
                          have n_1431 : ¬ x_954 = 60 := h_1416
                          refine g_iload_n C 0 dX12_go_150 rfl rfl ?_
                          refine g_bipush C (v := 61) dX12_go_151 (by decide) ?_
                          refine g_icmp_eq C (tgt := 174) dX12_go_153 (by decide) (fun h_1432 => ?_) (fun h_1432 => ?_)
                          · skip
                            have r_1433 := (⟨(eq_rg (h_1432) rc_61).1, (eq_rg (h_1432) rc_61).2⟩ : Rg 61 61 x_954)
                            refine g_iconst C (v := 4) dX12_go_174 (by decide) ?_
                            refine g_goto C (tgt := 179) dX12_go_175 (by decide) ?_
                            refine h_putI C K hLx hkx f_12_104 p_12_7 dX12_go_179 (fun I_1434 hI_1434 => ?_)
                            have hU_1435 := iw_put W9 hU_968 hI_1434 (ro_o hkx (by decide)) (lo := 0) (hi := 4) (rfl) (rg_w rc_4 (by decide) (by decide)) rfl
                            have hF_1436 := fq_puto hF_969 hI_1434 hkx (by decide) (by decide)
                            have hs_1437 : MTq I_1434 J_378 x b_2 = (MT_.w_kind (MT_.w_frm s_387 (v_382)) (4)) := by rw [hI_1434]; exact ((mq_kind wmqx).trans (congrArg (fun z : MT_ => MT_.w_kind z (4)) hs_970)).trans rfl
                            refine g_aload_n C 1 dX12_go_182 rfl rfl ?_
                            refine g_iload_n C 0 dX12_go_183 rfl rfl ?_
                            refine h_putI C K hLx hkx f_12_114 p_12_9 dX12_go_184 (fun I_1438 hI_1438 => ?_)
                            have hU_1439 := iw_put W9 hU_1435 hI_1438 (ro_o hkx (by decide)) (lo := (-2147483648)) (hi := 2147483647) (rfl) (rg_all _) rfl
                            have hF_1440 := fq_puto hF_1436 hI_1438 hkx (by decide) (by decide)
                            have hs_1441 : MTq I_1438 J_378 x b_2 = (MT_.w_sign (MT_.w_kind (MT_.w_frm s_387 (v_382)) (4)) (x_954)) := by rw [hI_1438]; exact ((mq_sign wmqx).trans (congrArg (fun z : MT_ => MT_.w_sign z (x_954)) hs_1437)).trans rfl
                            refine g_aload_n C 1 dX12_go_187 rfl rfl ?_
                            refine g_dup C dX12_go_188 rfl ?_
                            refine g_getI C K hLx hkx f_12_95 (v := v_382) (kp_j hI_1438 (by decide) (kp_j hI_1434 (by decide) (kp_j hI_967 (by decide) q_383))) dX12_go_189 ?_
                            refine g_iconst C (v := 1) dX12_go_192 (by decide) ?_
                            obtain ⟨x_1442, hx_1442, rx_1442, tx_1442⟩ := ex_add 1 900 r_1245 rc_1 (by decide) (by decide) (by decide) (by decide)
                            refine g_iadd C (v := x_1442) dX12_go_193 hx_1442 ?_
                            refine h_putI C K hLx hkx f_12_95 p_12_5 dX12_go_194 (fun I_1443 hI_1443 => ?_)
                            have hU_1444 := iw_put W9 hU_1439 hI_1443 (ro_o hkx (by decide)) (lo := 0) (hi := 940) (rfl) (rg_w rx_1442 (by decide) (by decide)) rfl
                            have hF_1445 := fq_puto hF_1440 hI_1443 hkx (by decide) (by decide)
                            have hs_1446 : MTq I_1443 J_378 x b_2 = (MT_.w_to (MT_.w_sign (MT_.w_kind (MT_.w_frm s_387 (v_382)) (4)) (x_954)) (x_1442)) := by rw [hI_1443]; exact ((mq_to wmqx).trans (congrArg (fun z : MT_ => MT_.w_to z (x_1442)) hs_1441)).trans rfl
                            exact g_vret B K rfl ⟨hU_1444, hF_1445, hG_381, (by (try simp only [f_390, hx_391, f_392, h_393, (nle h_393), hx_954, f_955, h_956, h_965, hx_971, f_972, h_973, (nle h_973), h_1244, h_1247, c_1253, (eq_true h_1254), c_1321, (eq_true h_1322), h_1400, h_1416, (eq_true h_1432), hx_1442, if_true, if_false, mqM_tp, mqM_size, mqM_limit, mqM_to, mqM_frm, mqM_kind, mqM_number, mqM_sign, mqM_word, MT_.w_tp, MT_.w_size, MT_.w_limit, MT_.w_to, MT_.w_frm, MT_.w_kind, MT_.w_number, MT_.w_sign, MT_.w_word] at hQ_388); (try simp only [f_390, hx_391, f_392, h_393, (nle h_393), hx_954, f_955, h_956, h_965, hx_971, f_972, h_973, (nle h_973), h_1244, h_1247, c_1253, (eq_true h_1254), c_1321, (eq_true h_1322), h_1400, h_1416, (eq_true h_1432), hx_1442, if_true, if_false, mqM_tp, mqM_size, mqM_limit, mqM_to, mqM_frm, mqM_kind, mqM_number, mqM_sign, mqM_word, MT_.w_tp, MT_.w_size, MT_.w_limit, MT_.w_to, MT_.w_frm, MT_.w_kind, MT_.w_number, MT_.w_sign, MT_.w_word] at u_389); simp only [mGo, mGo2, mGo3, mGoE, mSg, mStep, mGood, emqx, hs_1446, hs_3, hQ_388, f_390, u_389, hx_391, f_392, h_393, (nle h_393), hx_954, f_955, h_956, h_965, hx_971, f_972, h_973, (nle h_973), h_1244, h_1247, c_1253, (eq_true h_1254), c_1321, (eq_true h_1322), h_1400, h_1416, (eq_true h_1432), hx_1442, if_true, if_false, mqM_tp, mqM_size, mqM_limit, mqM_to, mqM_frm, mqM_kind, mqM_number, mqM_sign, mqM_word, MT_.w_tp, MT_.w_size, MT_.w_limit, MT_.w_to, MT_.w_frm, MT_.w_kind, MT_.w_number, MT_.w_sign, MT_.w_word]), (ps_mk hx_1 (kp_s hI_1443) (kp_j hI_1443 (by decide) (kp_j hI_1438 (by decide) (kp_s hI_1434))) (Int.le_of_lt (by have := hj_385; have := (ti_k tx_1442 rc_1); omega)) (Or.inl (by have := hj_385; have := (ti_k tx_1442 rc_1); omega)))⟩ dX12_go_197
                          · skip
                            have n_1447 : ¬ x_954 = 61 := h_1432
                            refine g_iload_n C 0 dX12_go_156 rfl rfl ?_
                            refine g_bipush C (v := 62) dX12_go_157 (by decide) ?_
                            refine g_icmp_eq C (tgt := 174) dX12_go_159 (by decide) (fun h_1448 => ?_) (fun h_1448 => ?_)
                            · skip
                              have r_1449 := (⟨(eq_rg (h_1448) rc_62).1, (eq_rg (h_1448) rc_62).2⟩ : Rg 62 62 x_954)
                              refine g_iconst C (v := 4) dX12_go_174 (by decide) ?_
                              refine g_goto C (tgt := 179) dX12_go_175 (by decide) ?_
                              refine h_putI C K hLx hkx f_12_104 p_12_7 dX12_go_179 (fun I_1450 hI_1450 => ?_)
                              have hU_1451 := iw_put W9 hU_968 hI_1450 (ro_o hkx (by decide)) (lo := 0) (hi := 4) (rfl) (rg_w rc_4 (by decide) (by decide)) rfl
                              have hF_1452 := fq_puto hF_969 hI_1450 hkx (by decide) (by decide)
                              have hs_1453 : MTq I_1450 J_378 x b_2 = (MT_.w_kind (MT_.w_frm s_387 (v_382)) (4)) := by rw [hI_1450]; exact ((mq_kind wmqx).trans (congrArg (fun z : MT_ => MT_.w_kind z (4)) hs_970)).trans rfl
                              refine g_aload_n C 1 dX12_go_182 rfl rfl ?_
                              refine g_iload_n C 0 dX12_go_183 rfl rfl ?_
                              refine h_putI C K hLx hkx f_12_114 p_12_9 dX12_go_184 (fun I_1454 hI_1454 => ?_)
                              have hU_1455 := iw_put W9 hU_1451 hI_1454 (ro_o hkx (by decide)) (lo := (-2147483648)) (hi := 2147483647) (rfl) (rg_all _) rfl
                              have hF_1456 := fq_puto hF_1452 hI_1454 hkx (by decide) (by decide)
                              have hs_1457 : MTq I_1454 J_378 x b_2 = (MT_.w_sign (MT_.w_kind (MT_.w_frm s_387 (v_382)) (4)) (x_954)) := by rw [hI_1454]; exact ((mq_sign wmqx).trans (congrArg (fun z : MT_ => MT_.w_sign z (x_954)) hs_1453)).trans rfl
                              refine g_aload_n C 1 dX12_go_187 rfl rfl ?_
                              refine g_dup C dX12_go_188 rfl ?_
                              refine g_getI C K hLx hkx f_12_95 (v := v_382) (kp_j hI_1454 (by decide) (kp_j hI_1450 (by decide) (kp_j hI_967 (by decide) q_383))) dX12_go_189 ?_
                              refine g_iconst C (v := 1) dX12_go_192 (by decide) ?_
                              obtain ⟨x_1458, hx_1458, rx_1458, tx_1458⟩ := ex_add 1 900 r_1245 rc_1 (by decide) (by decide) (by decide) (by decide)
                              refine g_iadd C (v := x_1458) dX12_go_193 hx_1458 ?_
                              refine h_putI C K hLx hkx f_12_95 p_12_5 dX12_go_194 (fun I_1459 hI_1459 => ?_)
                              have hU_1460 := iw_put W9 hU_1455 hI_1459 (ro_o hkx (by decide)) (lo := 0) (hi := 940) (rfl) (rg_w rx_1458 (by decide) (by decide)) rfl
                              have hF_1461 := fq_puto hF_1456 hI_1459 hkx (by decide) (by decide)
                              have hs_1462 : MTq I_1459 J_378 x b_2 = (MT_.w_to (MT_.w_sign (MT_.w_kind (MT_.w_frm s_387 (v_382)) (4)) (x_954)) (x_1458)) := by rw [hI_1459]; exact ((mq_to wmqx).trans (congrArg (fun z : MT_ => MT_.w_to z (x_1458)) hs_1457)).trans rfl
                              exact g_vret B K rfl ⟨hU_1460, hF_1461, hG_381, (by (try simp only [f_390, hx_391, f_392, h_393, (nle h_393), hx_954, f_955, h_956, h_965, hx_971, f_972, h_973, (nle h_973), h_1244, h_1247, c_1253, (eq_true h_1254), c_1321, (eq_true h_1322), h_1400, h_1416, h_1432, (eq_true h_1448), hx_1458, if_true, if_false, mqM_tp, mqM_size, mqM_limit, mqM_to, mqM_frm, mqM_kind, mqM_number, mqM_sign, mqM_word, MT_.w_tp, MT_.w_size, MT_.w_limit, MT_.w_to, MT_.w_frm, MT_.w_kind, MT_.w_number, MT_.w_sign, MT_.w_word] at hQ_388); (try simp only [f_390, hx_391, f_392, h_393, (nle h_393), hx_954, f_955, h_956, h_965, hx_971, f_972, h_973, (nle h_973), h_1244, h_1247, c_1253, (eq_true h_1254), c_1321, (eq_true h_1322), h_1400, h_1416, h_1432, (eq_true h_1448), hx_1458, if_true, if_false, mqM_tp, mqM_size, mqM_limit, mqM_to, mqM_frm, mqM_kind, mqM_number, mqM_sign, mqM_word, MT_.w_tp, MT_.w_size, MT_.w_limit, MT_.w_to, MT_.w_frm, MT_.w_kind, MT_.w_number, MT_.w_sign, MT_.w_word] at u_389); simp only [mGo, mGo2, mGo3, mGoE, mSg, mStep, mGood, emqx, hs_1462, hs_3, hQ_388, f_390, u_389, hx_391, f_392, h_393, (nle h_393), hx_954, f_955, h_956, h_965, hx_971, f_972, h_973, (nle h_973), h_1244, h_1247, c_1253, (eq_true h_1254), c_1321, (eq_true h_1322), h_1400, h_1416, h_1432, (eq_true h_1448), hx_1458, if_true, if_false, mqM_tp, mqM_size, mqM_limit, mqM_to, mqM_frm, mqM_kind, mqM_number, mqM_sign, mqM_word, MT_.w_tp, MT_.w_size, MT_.w_limit, MT_.w_to, MT_.w_frm, MT_.w_kind, MT_.w_number, MT_.w_sign, MT_.w_word]), (ps_mk hx_1 (kp_s hI_1459) (kp_j hI_1459 (by decide) (kp_j hI_1454 (by decide) (kp_s hI_1450))) (Int.le_of_lt (by have := hj_385; have := (ti_k tx_1458 rc_1); omega)) (Or.inl (by have := hj_385; have := (ti_k tx_1458 rc_1); omega)))⟩ dX12_go_197
                            · skip
                              have n_1463 : ¬ x_954 = 62 := h_1448
                              refine g_iload_n C 0 dX12_go_162 rfl rfl ?_
                              refine g_bipush C (v := 40) dX12_go_163 (by decide) ?_
                              refine g_icmp_eq C (tgt := 174) dX12_go_165 (by decide) (fun h_1464 => ?_) (fun h_1464 => ?_)
                              · skip
                                have r_1465 := (⟨(eq_rg (h_1464) rc_40).1, (eq_rg (h_1464) rc_40).2⟩ : Rg 40 40 x_954)
                                refine g_iconst C (v := 4) dX12_go_174 (by decide) ?_
                                refine g_goto C (tgt := 179) dX12_go_175 (by decide) ?_
                                refine h_putI C K hLx hkx f_12_104 p_12_7 dX12_go_179 (fun I_1466 hI_1466 => ?_)
                                have hU_1467 := iw_put W9 hU_968 hI_1466 (ro_o hkx (by decide)) (lo := 0) (hi := 4) (rfl) (rg_w rc_4 (by decide) (by decide)) rfl
                                have hF_1468 := fq_puto hF_969 hI_1466 hkx (by decide) (by decide)
                                have hs_1469 : MTq I_1466 J_378 x b_2 = (MT_.w_kind (MT_.w_frm s_387 (v_382)) (4)) := by rw [hI_1466]; exact ((mq_kind wmqx).trans (congrArg (fun z : MT_ => MT_.w_kind z (4)) hs_970)).trans rfl
                                refine g_aload_n C 1 dX12_go_182 rfl rfl ?_
                                refine g_iload_n C 0 dX12_go_183 rfl rfl ?_
                                refine h_putI C K hLx hkx f_12_114 p_12_9 dX12_go_184 (fun I_1470 hI_1470 => ?_)
                                have hU_1471 := iw_put W9 hU_1467 hI_1470 (ro_o hkx (by decide)) (lo := (-2147483648)) (hi := 2147483647) (rfl) (rg_all _) rfl
                                have hF_1472 := fq_puto hF_1468 hI_1470 hkx (by decide) (by decide)
                                have hs_1473 : MTq I_1470 J_378 x b_2 = (MT_.w_sign (MT_.w_kind (MT_.w_frm s_387 (v_382)) (4)) (x_954)) := by rw [hI_1470]; exact ((mq_sign wmqx).trans (congrArg (fun z : MT_ => MT_.w_sign z (x_954)) hs_1469)).trans rfl
                                refine g_aload_n C 1 dX12_go_187 rfl rfl ?_
                                refine g_dup C dX12_go_188 rfl ?_
                                refine g_getI C K hLx hkx f_12_95 (v := v_382) (kp_j hI_1470 (by decide) (kp_j hI_1466 (by decide) (kp_j hI_967 (by decide) q_383))) dX12_go_189 ?_
                                refine g_iconst C (v := 1) dX12_go_192 (by decide) ?_
                                obtain ⟨x_1474, hx_1474, rx_1474, tx_1474⟩ := ex_add 1 900 r_1245 rc_1 (by decide) (by decide) (by decide) (by decide)
                                refine g_iadd C (v := x_1474) dX12_go_193 hx_1474 ?_
                                refine h_putI C K hLx hkx f_12_95 p_12_5 dX12_go_194 (fun I_1475 hI_1475 => ?_)
                                have hU_1476 := iw_put W9 hU_1471 hI_1475 (ro_o hkx (by decide)) (lo := 0) (hi := 940) (rfl) (rg_w rx_1474 (by decide) (by decide)) rfl
                                have hF_1477 := fq_puto hF_1472 hI_1475 hkx (by decide) (by decide)
                                have hs_1478 : MTq I_1475 J_378 x b_2 = (MT_.w_to (MT_.w_sign (MT_.w_kind (MT_.w_frm s_387 (v_382)) (4)) (x_954)) (x_1474)) := by rw [hI_1475]; exact ((mq_to wmqx).trans (congrArg (fun z : MT_ => MT_.w_to z (x_1474)) hs_1473)).trans rfl
                                exact g_vret B K rfl ⟨hU_1476, hF_1477, hG_381, (by (try simp only [f_390, hx_391, f_392, h_393, (nle h_393), hx_954, f_955, h_956, h_965, hx_971, f_972, h_973, (nle h_973), h_1244, h_1247, c_1253, (eq_true h_1254), c_1321, (eq_true h_1322), h_1400, h_1416, h_1432, h_1448, (eq_true h_1464), hx_1474, if_true, if_false, mqM_tp, mqM_size, mqM_limit, mqM_to, mqM_frm, mqM_kind, mqM_number, mqM_sign, mqM_word, MT_.w_tp, MT_.w_size, MT_.w_limit, MT_.w_to, MT_.w_frm, MT_.w_kind, MT_.w_number, MT_.w_sign, MT_.w_word] at hQ_388); (try simp only [f_390, hx_391, f_392, h_393, (nle h_393), hx_954, f_955, h_956, h_965, hx_971, f_972, h_973, (nle h_973), h_1244, h_1247, c_1253, (eq_true h_1254), c_1321, (eq_true h_1322), h_1400, h_1416, h_1432, h_1448, (eq_true h_1464), hx_1474, if_true, if_false, mqM_tp, mqM_size, mqM_limit, mqM_to, mqM_frm, mqM_kind, mqM_number, mqM_sign, mqM_word, MT_.w_tp, MT_.w_size, MT_.w_limit, MT_.w_to, MT_.w_frm, MT_.w_kind, MT_.w_number, MT_.w_sign, MT_.w_word] at u_389); simp only [mGo, mGo2, mGo3, mGoE, mSg, mStep, mGood, emqx, hs_1478, hs_3, hQ_388, f_390, u_389, hx_391, f_392, h_393, (nle h_393), hx_954, f_955, h_956, h_965, hx_971, f_972, h_973, (nle h_973), h_1244, h_1247, c_1253, (eq_true h_1254), c_1321, (eq_true h_1322), h_1400, h_1416, h_1432, h_1448, (eq_true h_1464), hx_1474, if_true, if_false, mqM_tp, mqM_size, mqM_limit, mqM_to, mqM_frm, mqM_kind, mqM_number, mqM_sign, mqM_word, MT_.w_tp, MT_.w_size, MT_.w_limit, MT_.w_to, MT_.w_frm, MT_.w_kind, MT_.w_number, MT_.w_sign, MT_.w_word]), (ps_mk hx_1 (kp_s hI_1475) (kp_j hI_1475 (by decide) (kp_j hI_1470 (by decide) (kp_s hI_1466))) (Int.le_of_lt (by have := hj_385; have := (ti_k tx_1474 rc_1); omega)) (Or.inl (by have := hj_385; have := (ti_k tx_1474 rc_1); omega)))⟩ dX12_go_197
                              · skip
                                have n_1479 : ¬ x_954 = 40 := h_1464
                                refine g_iload_n C 0 dX12_go_168 rfl rfl ?_
                                refine g_bipush C (v := 41) dX12_go_169 (by decide) ?_
                                refine g_icmp_ne C (tgt := 178) dX12_go_171 (by decide) (fun h_1480 => ?_) (fun h_1480 => ?_)
                                · skip
                                  have n_1481 : ¬ x_954 = 41 := h_1480
                                  refine g_iconst C (v := 1) dX12_go_178 (by decide) ?_
                                  refine h_putI C K hLx hkx f_12_104 p_12_7 dX12_go_179 (fun I_1482 hI_1482 => ?_)
                                  have hU_1483 := iw_put W9 hU_968 hI_1482 (ro_o hkx (by decide)) (lo := 0) (hi := 4) (rfl) (rg_w rc_1 (by decide) (by decide)) rfl
                                  have hF_1484 := fq_puto hF_969 hI_1482 hkx (by decide) (by decide)
                                  have hs_1485 : MTq I_1482 J_378 x b_2 = (MT_.w_kind (MT_.w_frm s_387 (v_382)) (1)) := by rw [hI_1482]; exact ((mq_kind wmqx).trans (congrArg (fun z : MT_ => MT_.w_kind z (1)) hs_970)).trans rfl
                                  refine g_aload_n C 1 dX12_go_182 rfl rfl ?_
                                  refine g_iload_n C 0 dX12_go_183 rfl rfl ?_
                                  refine h_putI C K hLx hkx f_12_114 p_12_9 dX12_go_184 (fun I_1486 hI_1486 => ?_)
                                  have hU_1487 := iw_put W9 hU_1483 hI_1486 (ro_o hkx (by decide)) (lo := (-2147483648)) (hi := 2147483647) (rfl) (rg_all _) rfl
                                  have hF_1488 := fq_puto hF_1484 hI_1486 hkx (by decide) (by decide)
                                  have hs_1489 : MTq I_1486 J_378 x b_2 = (MT_.w_sign (MT_.w_kind (MT_.w_frm s_387 (v_382)) (1)) (x_954)) := by rw [hI_1486]; exact ((mq_sign wmqx).trans (congrArg (fun z : MT_ => MT_.w_sign z (x_954)) hs_1485)).trans rfl
                                  refine g_aload_n C 1 dX12_go_187 rfl rfl ?_
                                  refine g_dup C dX12_go_188 rfl ?_
                                  refine g_getI C K hLx hkx f_12_95 (v := v_382) (kp_j hI_1486 (by decide) (kp_j hI_1482 (by decide) (kp_j hI_967 (by decide) q_383))) dX12_go_189 ?_
                                  refine g_iconst C (v := 1) dX12_go_192 (by decide) ?_
                                  obtain ⟨x_1490, hx_1490, rx_1490, tx_1490⟩ := ex_add 1 900 r_1245 rc_1 (by decide) (by decide) (by decide) (by decide)
                                  refine g_iadd C (v := x_1490) dX12_go_193 hx_1490 ?_
                                  refine h_putI C K hLx hkx f_12_95 p_12_5 dX12_go_194 (fun I_1491 hI_1491 => ?_)
                                  have hU_1492 := iw_put W9 hU_1487 hI_1491 (ro_o hkx (by decide)) (lo := 0) (hi := 940) (rfl) (rg_w rx_1490 (by decide) (by decide)) rfl
                                  have hF_1493 := fq_puto hF_1488 hI_1491 hkx (by decide) (by decide)
                                  have hs_1494 : MTq I_1491 J_378 x b_2 = (MT_.w_to (MT_.w_sign (MT_.w_kind (MT_.w_frm s_387 (v_382)) (1)) (x_954)) (x_1490)) := by rw [hI_1491]; exact ((mq_to wmqx).trans (congrArg (fun z : MT_ => MT_.w_to z (x_1490)) hs_1489)).trans rfl
                                  exact g_vret B K rfl ⟨hU_1492, hF_1493, hG_381, (by (try simp only [f_390, hx_391, f_392, h_393, (nle h_393), hx_954, f_955, h_956, h_965, hx_971, f_972, h_973, (nle h_973), h_1244, h_1247, c_1253, (eq_true h_1254), c_1321, (eq_true h_1322), h_1400, h_1416, h_1432, h_1448, h_1464, h_1480, hx_1490, if_true, if_false, mqM_tp, mqM_size, mqM_limit, mqM_to, mqM_frm, mqM_kind, mqM_number, mqM_sign, mqM_word, MT_.w_tp, MT_.w_size, MT_.w_limit, MT_.w_to, MT_.w_frm, MT_.w_kind, MT_.w_number, MT_.w_sign, MT_.w_word] at hQ_388); (try simp only [f_390, hx_391, f_392, h_393, (nle h_393), hx_954, f_955, h_956, h_965, hx_971, f_972, h_973, (nle h_973), h_1244, h_1247, c_1253, (eq_true h_1254), c_1321, (eq_true h_1322), h_1400, h_1416, h_1432, h_1448, h_1464, h_1480, hx_1490, if_true, if_false, mqM_tp, mqM_size, mqM_limit, mqM_to, mqM_frm, mqM_kind, mqM_number, mqM_sign, mqM_word, MT_.w_tp, MT_.w_size, MT_.w_limit, MT_.w_to, MT_.w_frm, MT_.w_kind, MT_.w_number, MT_.w_sign, MT_.w_word] at u_389); simp only [mGo, mGo2, mGo3, mGoE, mSg, mStep, mGood, emqx, hs_1494, hs_3, hQ_388, f_390, u_389, hx_391, f_392, h_393, (nle h_393), hx_954, f_955, h_956, h_965, hx_971, f_972, h_973, (nle h_973), h_1244, h_1247, c_1253, (eq_true h_1254), c_1321, (eq_true h_1322), h_1400, h_1416, h_1432, h_1448, h_1464, h_1480, hx_1490, if_true, if_false, mqM_tp, mqM_size, mqM_limit, mqM_to, mqM_frm, mqM_kind, mqM_number, mqM_sign, mqM_word, MT_.w_tp, MT_.w_size, MT_.w_limit, MT_.w_to, MT_.w_frm, MT_.w_kind, MT_.w_number, MT_.w_sign, MT_.w_word]), (ps_mk hx_1 (kp_s hI_1491) (kp_j hI_1491 (by decide) (kp_j hI_1486 (by decide) (kp_s hI_1482))) (by have := hj_385; have := (ti_k tx_1490 rc_1); omega) (Or.inr (by have := (rc_1).2; omega)))⟩ dX12_go_197
                                · skip
                                  have r_1495 := (⟨(eq_rg (h_1480) rc_41).1, (eq_rg (h_1480) rc_41).2⟩ : Rg 41 41 x_954)
                                  refine g_iconst C (v := 4) dX12_go_174 (by decide) ?_
                                  refine g_goto C (tgt := 179) dX12_go_175 (by decide) ?_
                                  refine h_putI C K hLx hkx f_12_104 p_12_7 dX12_go_179 (fun I_1496 hI_1496 => ?_)
                                  have hU_1497 := iw_put W9 hU_968 hI_1496 (ro_o hkx (by decide)) (lo := 0) (hi := 4) (rfl) (rg_w rc_4 (by decide) (by decide)) rfl
                                  have hF_1498 := fq_puto hF_969 hI_1496 hkx (by decide) (by decide)
                                  have hs_1499 : MTq I_1496 J_378 x b_2 = (MT_.w_kind (MT_.w_frm s_387 (v_382)) (4)) := by rw [hI_1496]; exact ((mq_kind wmqx).trans (congrArg (fun z : MT_ => MT_.w_kind z (4)) hs_970)).trans rfl
                                  refine g_aload_n C 1 dX12_go_182 rfl rfl ?_
                                  refine g_iload_n C 0 dX12_go_183 rfl rfl ?_
                                  refine h_putI C K hLx hkx f_12_114 p_12_9 dX12_go_184 (fun I_1500 hI_1500 => ?_)
                                  have hU_1501 := iw_put W9 hU_1497 hI_1500 (ro_o hkx (by decide)) (lo := (-2147483648)) (hi := 2147483647) (rfl) (rg_all _) rfl
                                  have hF_1502 := fq_puto hF_1498 hI_1500 hkx (by decide) (by decide)
                                  have hs_1503 : MTq I_1500 J_378 x b_2 = (MT_.w_sign (MT_.w_kind (MT_.w_frm s_387 (v_382)) (4)) (x_954)) := by rw [hI_1500]; exact ((mq_sign wmqx).trans (congrArg (fun z : MT_ => MT_.w_sign z (x_954)) hs_1499)).trans rfl
                                  refine g_aload_n C 1 dX12_go_187 rfl rfl ?_
                                  refine g_dup C dX12_go_188 rfl ?_
                                  refine g_getI C K hLx hkx f_12_95 (v := v_382) (kp_j hI_1500 (by decide) (kp_j hI_1496 (by decide) (kp_j hI_967 (by decide) q_383))) dX12_go_189 ?_
                                  refine g_iconst C (v := 1) dX12_go_192 (by decide) ?_
                                  obtain ⟨x_1504, hx_1504, rx_1504, tx_1504⟩ := ex_add 1 900 r_1245 rc_1 (by decide) (by decide) (by decide) (by decide)
                                  refine g_iadd C (v := x_1504) dX12_go_193 hx_1504 ?_
                                  refine h_putI C K hLx hkx f_12_95 p_12_5 dX12_go_194 (fun I_1505 hI_1505 => ?_)
                                  have hU_1506 := iw_put W9 hU_1501 hI_1505 (ro_o hkx (by decide)) (lo := 0) (hi := 940) (rfl) (rg_w rx_1504 (by decide) (by decide)) rfl
                                  have hF_1507 := fq_puto hF_1502 hI_1505 hkx (by decide) (by decide)
                                  have hs_1508 : MTq I_1505 J_378 x b_2 = (MT_.w_to (MT_.w_sign (MT_.w_kind (MT_.w_frm s_387 (v_382)) (4)) (x_954)) (x_1504)) := by rw [hI_1505]; exact ((mq_to wmqx).trans (congrArg (fun z : MT_ => MT_.w_to z (x_1504)) hs_1503)).trans rfl
                                  exact g_vret B K rfl ⟨hU_1506, hF_1507, hG_381, (by (try simp only [f_390, hx_391, f_392, h_393, (nle h_393), hx_954, f_955, h_956, h_965, hx_971, f_972, h_973, (nle h_973), h_1244, h_1247, c_1253, (eq_true h_1254), c_1321, (eq_true h_1322), h_1400, h_1416, h_1432, h_1448, h_1464, (eq_true h_1480), hx_1504, if_true, if_false, mqM_tp, mqM_size, mqM_limit, mqM_to, mqM_frm, mqM_kind, mqM_number, mqM_sign, mqM_word, MT_.w_tp, MT_.w_size, MT_.w_limit, MT_.w_to, MT_.w_frm, MT_.w_kind, MT_.w_number, MT_.w_sign, MT_.w_word] at hQ_388); (try simp only [f_390, hx_391, f_392, h_393, (nle h_393), hx_954, f_955, h_956, h_965, hx_971, f_972, h_973, (nle h_973), h_1244, h_1247, c_1253, (eq_true h_1254), c_1321, (eq_true h_1322), h_1400, h_1416, h_1432, h_1448, h_1464, (eq_true h_1480), hx_1504, if_true, if_false, mqM_tp, mqM_size, mqM_limit, mqM_to, mqM_frm, mqM_kind, mqM_number, mqM_sign, mqM_word, MT_.w_tp, MT_.w_size, MT_.w_limit, MT_.w_to, MT_.w_frm, MT_.w_kind, MT_.w_number, MT_.w_sign, MT_.w_word] at u_389); simp only [mGo, mGo2, mGo3, mGoE, mSg, mStep, mGood, emqx, hs_1508, hs_3, hQ_388, f_390, u_389, hx_391, f_392, h_393, (nle h_393), hx_954, f_955, h_956, h_965, hx_971, f_972, h_973, (nle h_973), h_1244, h_1247, c_1253, (eq_true h_1254), c_1321, (eq_true h_1322), h_1400, h_1416, h_1432, h_1448, h_1464, (eq_true h_1480), hx_1504, if_true, if_false, mqM_tp, mqM_size, mqM_limit, mqM_to, mqM_frm, mqM_kind, mqM_number, mqM_sign, mqM_word, MT_.w_tp, MT_.w_size, MT_.w_limit, MT_.w_to, MT_.w_frm, MT_.w_kind, MT_.w_number, MT_.w_sign, MT_.w_word]), (ps_mk hx_1 (kp_s hI_1505) (kp_j hI_1505 (by decide) (kp_j hI_1500 (by decide) (kp_s hI_1496))) (Int.le_of_lt (by have := hj_385; have := (ti_k tx_1504 rc_1); omega)) (Or.inl (by have := hj_385; have := (ti_k tx_1504 rc_1); omega)))⟩ dX12_go_197
                · skip
                  have r_1509 := le_l (nlt h_1247) r_953 r_1245
                  have r_1510 := le_r (nlt h_1247) r_953 r_1245
                  refine g_aload_n C 0 dX12_go_107 rfl rfl ?_
                  refine g_iconst C (v := 0) dX12_go_108 (by decide) ?_
                  refine h_putI C K hLx hkx f_12_104 p_12_7 dX12_go_109 (fun I_1511 hI_1511 => ?_)
                  have hU_1512 := iw_put W9 hU_968 hI_1511 (ro_o hkx (by decide)) (lo := 0) (hi := 4) (rfl) (rg_w rc_0 (by decide) (by decide)) rfl
                  have hF_1513 := fq_puto hF_969 hI_1511 hkx (by decide) (by decide)
                  have hs_1514 : MTq I_1511 J_378 x b_2 = (MT_.w_kind (MT_.w_frm s_387 (v_382)) (0)) := by rw [hI_1511]; exact ((mq_kind wmqx).trans (congrArg (fun z : MT_ => MT_.w_kind z (0)) hs_970)).trans rfl
                  exact g_vret B K rfl ⟨hU_1512, hF_1513, hG_381, (by (try simp only [f_390, hx_391, f_392, h_393, (nle h_393), hx_954, f_955, h_956, h_965, hx_971, f_972, h_973, (nle h_973), h_1244, h_1247, (nlt h_1247), if_true, if_false, mqM_tp, mqM_size, mqM_limit, mqM_to, mqM_frm, mqM_kind, mqM_number, mqM_sign, mqM_word, MT_.w_tp, MT_.w_size, MT_.w_limit, MT_.w_to, MT_.w_frm, MT_.w_kind, MT_.w_number, MT_.w_sign, MT_.w_word] at hQ_388); (try simp only [f_390, hx_391, f_392, h_393, (nle h_393), hx_954, f_955, h_956, h_965, hx_971, f_972, h_973, (nle h_973), h_1244, h_1247, (nlt h_1247), if_true, if_false, mqM_tp, mqM_size, mqM_limit, mqM_to, mqM_frm, mqM_kind, mqM_number, mqM_sign, mqM_word, MT_.w_tp, MT_.w_size, MT_.w_limit, MT_.w_to, MT_.w_frm, MT_.w_kind, MT_.w_number, MT_.w_sign, MT_.w_word] at u_389); simp only [mGo, mGo2, mGo3, mGoE, mSg, mStep, mGood, emqx, hs_1514, hs_3, hQ_388, f_390, u_389, hx_391, f_392, h_393, (nle h_393), hx_954, f_955, h_956, h_965, hx_971, f_972, h_973, (nle h_973), h_1244, h_1247, (nlt h_1247), if_true, if_false, mqM_tp, mqM_size, mqM_limit, mqM_to, mqM_frm, mqM_kind, mqM_number, mqM_sign, mqM_word, MT_.w_tp, MT_.w_size, MT_.w_limit, MT_.w_to, MT_.w_frm, MT_.w_kind, MT_.w_number, MT_.w_sign, MT_.w_word]), (ps_mk hx_1 (kp_j hI_1511 (by decide) (kp_j hI_967 (by decide) q_383)) (kp_s hI_1511) (by have := hj_385; omega) (Or.inr (by have := (rc_0).2; omega)))⟩ dX12_go_112
              · skip
                refine g_aload_n C 0 dX12_go_82 rfl rfl ?_
                refine g_aload_n C 0 dX12_go_83 rfl rfl ?_
                refine g_getI C K hLx hkx f_12_101 (v := x_971) hx_971 dX12_go_84 ?_
                refine h_putI C K hLx hkx f_12_98 p_12_6 dX12_go_87 (fun I_1515 hI_1515 => ?_)
                have hU_1516 := iw_put W9 hU_968 hI_1515 (ro_o hkx (by decide)) (lo := 0) (hi := 940) (rfl) (rg_w rx_971 (by decide) (by decide)) rfl
                have hF_1517 := fq_puto hF_969 hI_1515 hkx (by decide) (by decide)
                have hs_1518 : MTq I_1515 J_378 x b_2 = (MT_.w_frm s_387 (x_971)) := by rw [hI_1515]; exact ((mq_frm wmqx).trans (congrArg (fun z : MT_ => MT_.w_frm z (x_971)) hs_970)).trans rfl
                refine g_aload_n C 0 dX12_go_90 rfl rfl ?_
                refine g_iconst C (v := 1) dX12_go_91 (by decide) ?_
                refine h_putI C K hLx hkx f_12_104 p_12_7 dX12_go_92 (fun I_1519 hI_1519 => ?_)
                have hU_1520 := iw_put W9 hU_1516 hI_1519 (ro_o hkx (by decide)) (lo := 0) (hi := 4) (rfl) (rg_w rc_1 (by decide) (by decide)) rfl
                have hF_1521 := fq_puto hF_1517 hI_1519 hkx (by decide) (by decide)
                have hs_1522 : MTq I_1519 J_378 x b_2 = (MT_.w_kind (MT_.w_frm s_387 (x_971)) (1)) := by rw [hI_1519]; exact ((mq_kind wmqx).trans (congrArg (fun z : MT_ => MT_.w_kind z (1)) hs_1518)).trans rfl
                exact g_vret B K rfl ⟨hU_1520, hF_1521, hG_381, (by (try simp only [f_390, hx_391, f_392, h_393, (nle h_393), hx_954, f_955, h_956, h_965, hx_971, f_972, h_973, (nle h_973), h_1244, (nlt h_1244), if_true, if_false, mqM_tp, mqM_size, mqM_limit, mqM_to, mqM_frm, mqM_kind, mqM_number, mqM_sign, mqM_word, MT_.w_tp, MT_.w_size, MT_.w_limit, MT_.w_to, MT_.w_frm, MT_.w_kind, MT_.w_number, MT_.w_sign, MT_.w_word] at hQ_388); (try simp only [f_390, hx_391, f_392, h_393, (nle h_393), hx_954, f_955, h_956, h_965, hx_971, f_972, h_973, (nle h_973), h_1244, (nlt h_1244), if_true, if_false, mqM_tp, mqM_size, mqM_limit, mqM_to, mqM_frm, mqM_kind, mqM_number, mqM_sign, mqM_word, MT_.w_tp, MT_.w_size, MT_.w_limit, MT_.w_to, MT_.w_frm, MT_.w_kind, MT_.w_number, MT_.w_sign, MT_.w_word] at u_389); simp only [mGo, mGo2, mGo3, mGoE, mSg, mStep, mGood, emqx, hs_1522, hs_3, hQ_388, f_390, u_389, hx_391, f_392, h_393, (nle h_393), hx_954, f_955, h_956, h_965, hx_971, f_972, h_973, (nle h_973), h_1244, (nlt h_1244), if_true, if_false, mqM_tp, mqM_size, mqM_limit, mqM_to, mqM_frm, mqM_kind, mqM_number, mqM_sign, mqM_word, MT_.w_tp, MT_.w_size, MT_.w_limit, MT_.w_to, MT_.w_frm, MT_.w_kind, MT_.w_number, MT_.w_sign, MT_.w_word]), (ps_mk hx_1 (kp_j hI_1519 (by decide) (kp_j hI_1515 (by decide) (kp_j hI_967 (by decide) q_383))) (kp_s hI_1519) (by have := hj_385; omega) (Or.inr (by have := (rc_1).2; omega)))⟩ dX12_go_95
          · skip
            have r_1523 := (⟨(eq_rg (h_965) rc_10).1, (eq_rg (h_965) rc_10).2⟩ : Rg 10 10 x_954)
            refine g_aload_n C 0 dX12_go_39 rfl rfl ?_
            refine g_dup C dX12_go_40 rfl ?_
            refine g_getI C K hLx hkx f_12_95 (v := v_382) q_383 dX12_go_41 ?_
            refine g_iconst C (v := 1) dX12_go_44 (by decide) ?_
            obtain ⟨x_1524, hx_1524, rx_1524, tx_1524⟩ := ex_add 1 940 r_952 rc_1 (by decide) (by decide) (by decide) (by decide)
            refine g_iadd C (v := x_1524) dX12_go_45 hx_1524 ?_
            refine h_putI C K hLx hkx f_12_95 p_12_5 dX12_go_46 (fun I_1525 hI_1525 => ?_)
            have hU_1526 := iw_put W9 hU_379 hI_1525 (ro_o hkx (by decide)) (lo := 0) (hi := 940) (rfl) (rg_w rx_1524 (by decide) (by decide)) rfl
            have hF_1527 := fq_puto hF_380 hI_1525 hkx (by decide) (by decide)
            have hs_1528 : MTq I_1525 J_378 x b_2 = (MT_.w_to s_387 (x_1524)) := by rw [hI_1525]; exact ((mq_to wmqx).trans (congrArg (fun z : MT_ => MT_.w_to z (x_1524)) hs_387)).trans rfl
            refine g_goto C (tgt := 0) dX12_go_49 (by decide) ?_
            refine g_lo (is := [0]) (lo2 := [(0, .ref x)]) rfl ?_
            exact ih_0 I_1525 J_378 hU_1526 hF_1527 hG_381 x_1524 (rg_w rx_1524 (by decide) (by decide)) (kp_s hI_1525) (by (try simp only [f_390, hx_391, f_392, h_393, (nle h_393), hx_954, f_955, h_956, (eq_true h_965), hx_1524, if_true, if_false, mqM_tp, mqM_size, mqM_limit, mqM_to, mqM_frm, mqM_kind, mqM_number, mqM_sign, mqM_word, MT_.w_tp, MT_.w_size, MT_.w_limit, MT_.w_to, MT_.w_frm, MT_.w_kind, MT_.w_number, MT_.w_sign, MT_.w_word] at hQ_388); (try simp only [f_390, hx_391, f_392, h_393, (nle h_393), hx_954, f_955, h_956, (eq_true h_965), hx_1524, if_true, if_false, mqM_tp, mqM_size, mqM_limit, mqM_to, mqM_frm, mqM_kind, mqM_number, mqM_sign, mqM_word, MT_.w_tp, MT_.w_size, MT_.w_limit, MT_.w_to, MT_.w_frm, MT_.w_kind, MT_.w_number, MT_.w_sign, MT_.w_word] at u_389); simp only [mGo2, mGo3, mGoE, mSg, mStep, mGood, emqx, hs_1528, hs_3, hQ_388, f_390, u_389, hx_391, f_392, h_393, (nle h_393), hx_954, f_955, h_956, (eq_true h_965), hx_1524, if_true, if_false, mqM_tp, mqM_size, mqM_limit, mqM_to, mqM_frm, mqM_kind, mqM_number, mqM_sign, mqM_word, MT_.w_tp, MT_.w_size, MT_.w_limit, MT_.w_to, MT_.w_frm, MT_.w_kind, MT_.w_number, MT_.w_sign, MT_.w_word]) (by have := hj_385; have := (ti_k tx_1524 rc_1); omega) (ms_1 hm_386 (ti_k tx_1524 rc_1) (by decide))
  have f_1529 : s_3.to = x_1 := (congrArg MT_.to hs_3).symm.trans hx_1
  refine g_lo (is := [0]) (lo2 := [(0, .ref x)]) rfl ?_
  exact l_0 941 I J hU hF hG x_1 (rx_1) hx_1 (by simp only [mGo, mGo2, mGo3, mGoE, mSg, mStep, mGood, emqx, hs_3, hx_1, if_true, if_false, mqM_tp, mqM_size, mqM_limit, mqM_to, mqM_frm, mqM_kind, mqM_number, mqM_sign, mqM_word, MT_.w_tp, MT_.w_size, MT_.w_limit, MT_.w_to, MT_.w_frm, MT_.w_kind, MT_.w_number, MT_.w_sign, MT_.w_word]) (Int.le_refl _) (ms_s (a := 0) (b := 940) (N := 941) (rx_1) (by decide))
set_option maxRecDepth 100000 in
set_option maxHeartbeats 8000000 in
theorem c_X12_take {l : Launch} {D : va_G} {cy : Nat → ClassId} {L : List Nat} {κ ln : Nat → Nat} {R : Nat → Nat → Option Nat} {I : Nat → Nat → Int32} {J : Nat → Nat → Int64} {ow : Nat → Nat × Nat} (W9 : ∀ a ∈ L, Shp L κ ln R ow a) {x : Nat} (hLx : x ∈ L) (hkx : κ x = 12) (hU : Iw L κ R ow I) : CtI l yX12_take cX12_take 2 (some .int) { frames := 0, cells := 0, slots := 0, locals := 0 } D cy L κ ln R I J [.ref x] (fun r I2 J2 => Iw L κ R ow I2 ∧ Fq L κ ow [1202] I I2 ∧ Fq L κ ow [] J J2 ∧ Rg 0 940 r ∧ ((r, NRf R I2 J2 x) = mTake (NRf R I J x))) := by
  refine CtI.of (by decide +kernel) (Nat.le_of_ble_eq_true rfl) ?_
  intro p e s m below meth c B K
  have C := B.1
  have hF : Fq L κ ow [1202] I I := fq_rf
  have hG : Fq L κ ow [] J J := fq_rf
  obtain ⟨b_1, hb_1, hb_1L, hb_1k, hb_1n, hb_1o⟩ := shp_a (W9 x hLx) hkx 15 14 72 rfl (by decide)
  obtain ⟨b_2, hb_2, hb_2L, hb_2k, hb_2n, hb_2o⟩ := shp_a (W9 x hLx) hkx 20 15 13 rfl (by decide)
  have enqx : ∀ I J, NRf R I J x = NRq I J x b_1 b_2 := fun I J => by simp only [NRf, rr_, Option.getD_some, hb_1, hb_2]
  have wnqx : nqw_ L κ ow x b_1 b_2 := ⟨⟨hLx, hb_1L, hb_2L⟩, ⟨(ro_o hkx (by decide)), (ro_a hb_1k (by decide) hb_1o hkx rfl), (ro_a hb_2k (by decide) hb_2o hkx rfl)⟩⟩
  obtain ⟨s_3, hs_3⟩ : ∃ z, NRq I J x b_1 b_2 = z := ⟨_, rfl⟩
  refine g_lo (is := [0]) (lo2 := [(0, .ref x)]) rfl ?_
  refine g_aload_n C 0 dX12_take_0 rfl rfl ?_
  obtain ⟨x_4, hx_4, rx_4⟩ := ex_getw (I := I) (a := x) (j := 2) (lo := 0) (hi := 940) hU.1 hLx (ro_o hkx (by decide)) rfl
  have f_5 : s_3.taped = x_4 := (congrArg NR_.taped hs_3).symm.trans hx_4
  refine g_getI C K hLx hkx f_12_85 (v := x_4) hx_4 dX12_take_1 ?_
  refine g_istore_n C dX12_take_4 rfl (by decide) (lo2 := [(1, .int x_4), (0, .ref x)]) rfl ?_
  refine g_aload_n C 1 dX12_take_5 rfl rfl ?_
  refine g_iconst C (v := 0) dX12_take_6 (by decide) ?_
  refine h_putI C K hLx hkx f_12_85 p_12_2 dX12_take_7 (fun I_6 hI_6 => ?_)
  have hU_7 := iw_put W9 hU hI_6 (ro_o hkx (by decide)) (lo := 0) (hi := 940) (rfl) (rg_w rc_0 (by decide) (by decide)) rfl
  have hF_8 := fq_puto hF hI_6 hkx (by decide) (by decide)
  have hs_9 : NRq I_6 J x b_1 b_2 = (NR_.w_taped s_3 (0)) := by rw [hI_6]; exact ((nq_taped wnqx).trans (congrArg (fun z : NR_ => NR_.w_taped z (0)) hs_3)).trans rfl
  refine g_iload_n C 0 dX12_take_10 rfl rfl ?_
  exact g_zret (ty := .int) (r := x_4) B K rfl (rfl) ⟨hU_7, hF_8, hG, rx_4, (by simp only [mTake, enqx, hs_9, hs_3, hx_4, f_5, if_true, if_false, nqM_rd, nqM_rn, nqM_taped, nqM_mfault, nqM_mplace, nqM_told, nqM_hl, nqM_hd, NR_.w_rd, NR_.w_rn, NR_.w_taped, NR_.w_mfault, NR_.w_mplace, NR_.w_told, NR_.w_hl, NR_.w_hd])⟩ dX12_take_11
set_option maxRecDepth 100000 in
set_option maxHeartbeats 8000000 in
theorem c_X12_begin {l : Launch} {D : va_G} {cy : Nat → ClassId} {L : List Nat} {κ ln : Nat → Nat} {R : Nat → Nat → Option Nat} {I : Nat → Nat → Int32} {J : Nat → Nat → Int64} {ow : Nat → Nat × Nat} (W9 : ∀ a ∈ L, Shp L κ ln R ow a) {x : Nat} (hLx : x ∈ L) (hkx : κ x = 12) (a0 : Int32) (ra0 : Rg 200 900 a0) (hU : Iw L κ R ow I) : CtV l yX12_begin cX12_begin 2 none { frames := 2, cells := 0, slots := 0, locals := 45 } D cy L κ ln R I J [.ref x, .int a0] (fun I2 J2 => Iw L κ R ow I2 ∧ Fq L κ ow [1200, 1202, 1203, 1204, 1205, 1206, 1207, 1208, 1209, 1210] I I2 ∧ Fq L κ ow [1212] J J2 ∧ ((MTf R I2 J2 x, NRf R I2 J2 x) = mBegin a0 (MTf R I J x) (NRf R I J x))) := by
  refine CtV.of (by decide +kernel) (Nat.le_of_ble_eq_true rfl) ?_
  intro p e s m below meth c B K
  have C := B.1
  have hF : Fq L κ ow [1200, 1202, 1203, 1204, 1205, 1206, 1207, 1208, 1209, 1210] I I := fq_rf
  have hG : Fq L κ ow [1212] J J := fq_rf
  obtain ⟨b_1, hb_1, hb_1L, hb_1k, hb_1n, hb_1o⟩ := shp_a (W9 x hLx) hkx 1 14 940 rfl (by decide)
  have emqx : ∀ I J, MTf R I J x = MTq I J x b_1 := fun I J => by simp only [MTf, rr_, Option.getD_some, hb_1]
  have wmqx : mqw_ L κ ow x b_1 := ⟨⟨hLx, hb_1L⟩, ⟨(ro_o hkx (by decide)), (ro_a hb_1k (by decide) hb_1o hkx rfl)⟩⟩
  obtain ⟨s_2, hs_2⟩ : ∃ z, MTq I J x b_1 = z := ⟨_, rfl⟩
  obtain ⟨b_3, hb_3, hb_3L, hb_3k, hb_3n, hb_3o⟩ := shp_a (W9 x hLx) hkx 15 14 72 rfl (by decide)
  obtain ⟨b_4, hb_4, hb_4L, hb_4k, hb_4n, hb_4o⟩ := shp_a (W9 x hLx) hkx 20 15 13 rfl (by decide)
  have enqx : ∀ I J, NRf R I J x = NRq I J x b_3 b_4 := fun I J => by simp only [NRf, rr_, Option.getD_some, hb_3, hb_4]
  have wnqx : nqw_ L κ ow x b_3 b_4 := ⟨⟨hLx, hb_3L, hb_4L⟩, ⟨(ro_o hkx (by decide)), (ro_a hb_3k (by decide) hb_3o hkx rfl), (ro_a hb_4k (by decide) hb_4o hkx rfl)⟩⟩
  obtain ⟨s_5, hs_5⟩ : ∃ z, NRq I J x b_3 b_4 = z := ⟨_, rfl⟩
  refine g_lo (is := [0, 1]) (lo2 := [(0, .ref x), (1, .int a0)]) rfl ?_
  refine g_aload_n C 0 dX12_begin_0 rfl rfl ?_
  refine g_iconst C (v := 0) dX12_begin_1 (by decide) ?_
  refine h_putI C K hLx hkx f_12_82 p_12_0 dX12_begin_2 (fun I_6 hI_6 => ?_)
  have hU_7 := iw_put W9 hU hI_6 (ro_o hkx (by decide)) (lo := (-2147483648)) (hi := 2147483647) (rfl) (rg_all _) rfl
  have hF_8 := fq_puto hF hI_6 hkx (by decide) (by decide)
  have hs_9 : MTq I_6 J x b_1 = s_2 := by rw [hI_6]; exact (mq_uIt wmqx (by decide)).trans hs_2
  have hs_10 : NRq I_6 J x b_3 b_4 = s_5 := by rw [hI_6]; exact (nq_uIt wnqx (by decide)).trans hs_5
  refine g_aload_n C 0 dX12_begin_5 rfl rfl ?_
  refine g_aload_n C 0 dX12_begin_6 rfl rfl ?_
  refine g_callVI C K (c_X12_take W9 hLx hkx   hU_7) hLx hkx (by decide) rfl v_12_162 rfl ⟨rfl, rfl⟩ ⟨Nat.le_of_ble_eq_true rfl, Nat.le_of_ble_eq_true rfl⟩ (Nat.le_of_ble_eq_true rfl) ⟨Nat.le_of_ble_eq_true rfl, Nat.le_of_ble_eq_true rfl⟩ dX12_begin_7 rfl (st := [.ref x]) (fun x_11 I_12 J_13 h_14 => ?_)
  obtain ⟨hUI_12, hFI_12, hGJ_13, rx_11, fx_11⟩ := h_14
  have hF_15 := fq_tr hF_8 hFI_12 (by decide)
  have hG_16 := fq_tr hG hGJ_13 (by decide)
  obtain ⟨s_18, hs_18⟩ : ∃ z, NRq I_12 J_13 x b_3 b_4 = z := ⟨_, rfl⟩
  have c_17 : mTake (s_5) = (x_11, s_18) := by have q := fx_11; simp only [enqx, hs_10, hs_18] at q; exact q.symm
  have hs_19 : MTq I_12 J_13 x b_1 = s_2 := (mq_fq wmqx hFI_12 hGJ_13 (by decide) (by decide)).trans hs_9
  refine h_putI C K hLx hkx f_12_92 p_12_3 dX12_begin_10 (fun I_20 hI_20 => ?_)
  have hU_21 := iw_put W9 hUI_12 hI_20 (ro_o hkx (by decide)) (lo := 0) (hi := 940) (rfl) (rx_11) rfl
  have hF_22 := fq_puto hF_15 hI_20 hkx (by decide) (by decide)
  have hs_23 : MTq I_20 J_13 x b_1 = (MT_.w_size s_2 (x_11)) := by rw [hI_20]; exact ((mq_size wmqx).trans (congrArg (fun z : MT_ => MT_.w_size z (x_11)) hs_19)).trans rfl
  have hs_24 : NRq I_20 J_13 x b_3 b_4 = s_18 := by rw [hI_20]; exact (nq_uIt wnqx (by decide)).trans hs_18
  refine g_aload_n C 0 dX12_begin_13 rfl rfl ?_
  refine g_iload_n C 1 dX12_begin_14 rfl rfl ?_
  refine h_putI C K hLx hkx f_12_101 p_12_4 dX12_begin_15 (fun I_25 hI_25 => ?_)
  have hU_26 := iw_put W9 hU_21 hI_25 (ro_o hkx (by decide)) (lo := 0) (hi := 900) (rfl) (rg_w ra0 (by decide) (by decide)) rfl
  have hF_27 := fq_puto hF_22 hI_25 hkx (by decide) (by decide)
  have hs_28 : MTq I_25 J_13 x b_1 = (MT_.w_limit (MT_.w_size s_2 (x_11)) (a0)) := by rw [hI_25]; exact ((mq_limit wmqx).trans (congrArg (fun z : MT_ => MT_.w_limit z (a0)) hs_23)).trans rfl
  have hs_29 : NRq I_25 J_13 x b_3 b_4 = s_18 := by rw [hI_25]; exact (nq_uIt wnqx (by decide)).trans hs_24
  refine g_aload_n C 0 dX12_begin_18 rfl rfl ?_
  refine g_iconst C (v := 0) dX12_begin_19 (by decide) ?_
  refine h_putI C K hLx hkx f_12_140 p_12_10 dX12_begin_20 (fun I_30 hI_30 => ?_)
  have hU_31 := iw_put W9 hU_26 hI_30 (ro_o hkx (by decide)) (lo := (-2147483648)) (hi := 2147483647) (rfl) (rg_all _) rfl
  have hF_32 := fq_puto hF_27 hI_30 hkx (by decide) (by decide)
  have hs_33 : MTq I_30 J_13 x b_1 = (MT_.w_limit (MT_.w_size s_2 (x_11)) (a0)) := by rw [hI_30]; exact (mq_uIt wmqx (by decide)).trans hs_28
  have hs_34 : NRq I_30 J_13 x b_3 b_4 = (NR_.w_mfault s_18 (0)) := by rw [hI_30]; exact ((nq_mfault wnqx).trans (congrArg (fun z : NR_ => NR_.w_mfault z (0)) hs_29)).trans rfl
  refine g_aload_n C 0 dX12_begin_23 rfl rfl ?_
  refine g_iconst C (v := 0) dX12_begin_24 (by decide) ?_
  refine h_putI C K hLx hkx f_12_95 p_12_5 dX12_begin_25 (fun I_35 hI_35 => ?_)
  have hU_36 := iw_put W9 hU_31 hI_35 (ro_o hkx (by decide)) (lo := 0) (hi := 940) (rfl) (rg_w rc_0 (by decide) (by decide)) rfl
  have hF_37 := fq_puto hF_32 hI_35 hkx (by decide) (by decide)
  have hs_38 : MTq I_35 J_13 x b_1 = (MT_.w_to (MT_.w_limit (MT_.w_size s_2 (x_11)) (a0)) (0)) := by rw [hI_35]; exact ((mq_to wmqx).trans (congrArg (fun z : MT_ => MT_.w_to z (0)) hs_33)).trans rfl
  have hs_39 : NRq I_35 J_13 x b_3 b_4 = (NR_.w_mfault s_18 (0)) := by rw [hI_35]; exact (nq_uIt wnqx (by decide)).trans hs_34
  refine g_aload_n C 0 dX12_begin_28 rfl rfl ?_
  refine g_callVV C K (c_X12_go W9 hLx hkx   hU_36) hLx hkx (by decide) rfl v_12_156 rfl ⟨rfl, rfl⟩ ⟨Nat.le_of_ble_eq_true rfl, Nat.le_of_ble_eq_true rfl⟩ (Nat.le_of_ble_eq_true rfl) ⟨Nat.le_of_ble_eq_true rfl, Nat.le_of_ble_eq_true rfl⟩ dX12_begin_29 rfl (st := []) (fun I_41 J_42 h_43 => ?_)
  obtain ⟨hUI_41, hFI_41, hGJ_42, fx_40, ex_40⟩ := h_43
  have hF_44 := fq_tr hF_37 hFI_41 (by decide)
  have hG_45 := fq_tr hG_16 hGJ_42 (by decide)
  obtain ⟨s_47, hs_47⟩ : ∃ z, MTq I_41 J_42 x b_1 = z := ⟨_, rfl⟩
  have c_46 : mGo ((MT_.w_to (MT_.w_limit (MT_.w_size s_2 (x_11)) (a0)) (0))) = s_47 := by have q := fx_40; simp only [emqx, hs_38, hs_47] at q; exact q.symm
  have hs_48 : NRq I_41 J_42 x b_3 b_4 = (NR_.w_mfault s_18 (0)) := (nq_fq wnqx hFI_41 hGJ_42 (by decide) (by decide)).trans hs_39
  exact g_vret B K rfl ⟨hUI_41, hF_44, hG_45, (by (try simp only [c_17, if_true, if_false, mqM_tp, mqM_size, mqM_limit, mqM_to, mqM_frm, mqM_kind, mqM_number, mqM_sign, mqM_word, MT_.w_tp, MT_.w_size, MT_.w_limit, MT_.w_to, MT_.w_frm, MT_.w_kind, MT_.w_number, MT_.w_sign, MT_.w_word, nqM_rd, nqM_rn, nqM_taped, nqM_mfault, nqM_mplace, nqM_told, nqM_hl, nqM_hd, NR_.w_rd, NR_.w_rn, NR_.w_taped, NR_.w_mfault, NR_.w_mplace, NR_.w_told, NR_.w_hl, NR_.w_hd] at c_46); simp only [mBegin, emqx, hs_47, hs_2, enqx, hs_48, hs_5, c_17, c_46, if_true, if_false, mqM_tp, mqM_size, mqM_limit, mqM_to, mqM_frm, mqM_kind, mqM_number, mqM_sign, mqM_word, MT_.w_tp, MT_.w_size, MT_.w_limit, MT_.w_to, MT_.w_frm, MT_.w_kind, MT_.w_number, MT_.w_sign, MT_.w_word, nqM_rd, nqM_rn, nqM_taped, nqM_mfault, nqM_mplace, nqM_told, nqM_hl, nqM_hd, NR_.w_rd, NR_.w_rn, NR_.w_taped, NR_.w_mfault, NR_.w_mplace, NR_.w_told, NR_.w_hl, NR_.w_hd])⟩ dX12_begin_32
set_option maxRecDepth 100000 in
set_option maxHeartbeats 8000000 in
theorem c_X12_bad {l : Launch} {D : va_G} {cy : Nat → ClassId} {L : List Nat} {κ ln : Nat → Nat} {R : Nat → Nat → Option Nat} {I : Nat → Nat → Int32} {J : Nat → Nat → Int64} {ow : Nat → Nat × Nat} (W9 : ∀ a ∈ L, Shp L κ ln R ow a) {x : Nat} (hLx : x ∈ L) (hkx : κ x = 12) (a0 : Int32) (ra0 : Rg 1 4 a0) (hU : Iw L κ R ow I) : CtI l yX12_bad cX12_bad 2 (some .boolean) { frames := 0, cells := 0, slots := 0, locals := 0 } D cy L κ ln R I J [.ref x, .int a0] (fun r I2 J2 => Iw L κ R ow I2 ∧ Fq L κ ow [1210, 1211] I I2 ∧ Fq L κ ow [] J J2 ∧ Rg 0 0 r ∧ ((r, MTf R I2 J2 x, NRf R I2 J2 x) = mBad a0 (MTf R I J x) (NRf R I J x))) := by
  refine CtI.of (by decide +kernel) (Nat.le_of_ble_eq_true rfl) ?_
  intro p e s m below meth c B K
  have C := B.1
  have hF : Fq L κ ow [1210, 1211] I I := fq_rf
  have hG : Fq L κ ow [] J J := fq_rf
  obtain ⟨b_1, hb_1, hb_1L, hb_1k, hb_1n, hb_1o⟩ := shp_a (W9 x hLx) hkx 1 14 940 rfl (by decide)
  have emqx : ∀ I J, MTf R I J x = MTq I J x b_1 := fun I J => by simp only [MTf, rr_, Option.getD_some, hb_1]
  have wmqx : mqw_ L κ ow x b_1 := ⟨⟨hLx, hb_1L⟩, ⟨(ro_o hkx (by decide)), (ro_a hb_1k (by decide) hb_1o hkx rfl)⟩⟩
  obtain ⟨s_2, hs_2⟩ : ∃ z, MTq I J x b_1 = z := ⟨_, rfl⟩
  obtain ⟨b_3, hb_3, hb_3L, hb_3k, hb_3n, hb_3o⟩ := shp_a (W9 x hLx) hkx 15 14 72 rfl (by decide)
  obtain ⟨b_4, hb_4, hb_4L, hb_4k, hb_4n, hb_4o⟩ := shp_a (W9 x hLx) hkx 20 15 13 rfl (by decide)
  have enqx : ∀ I J, NRf R I J x = NRq I J x b_3 b_4 := fun I J => by simp only [NRf, rr_, Option.getD_some, hb_3, hb_4]
  have wnqx : nqw_ L κ ow x b_3 b_4 := ⟨⟨hLx, hb_3L, hb_4L⟩, ⟨(ro_o hkx (by decide)), (ro_a hb_3k (by decide) hb_3o hkx rfl), (ro_a hb_4k (by decide) hb_4o hkx rfl)⟩⟩
  obtain ⟨s_5, hs_5⟩ : ∃ z, NRq I J x b_3 b_4 = z := ⟨_, rfl⟩
  refine g_lo (is := [0, 1]) (lo2 := [(0, .ref x), (1, .int a0)]) rfl ?_
  refine g_aload_n C 0 dX12_bad_0 rfl rfl ?_
  refine g_aload_n C 0 dX12_bad_1 rfl rfl ?_
  obtain ⟨x_6, hx_6, rx_6⟩ := ex_getw (I := I) (a := x) (j := 7) (lo := 0) (hi := 4) hU.1 hLx (ro_o hkx (by decide)) rfl
  have f_7 : s_2.kind = x_6 := (congrArg MT_.kind hs_2).symm.trans hx_6
  refine g_getI C K hLx hkx f_12_104 (v := x_6) hx_6 dX12_bad_2 ?_
  refine g_iconst C (v := 1) dX12_bad_5 (by decide) ?_
  refine g_icmp_ne C (tgt := 13) dX12_bad_6 (by decide) (fun h_8 => ?_) (fun h_8 => ?_)
  · skip
    have n_9 : ¬ x_6 = 1 := h_8
    refine g_iload_n C 1 dX12_bad_13 rfl rfl ?_
    refine h_putI C K hLx hkx f_12_140 p_12_10 dX12_bad_14 (fun I_10 hI_10 => ?_)
    have hU_11 := iw_put W9 hU hI_10 (ro_o hkx (by decide)) (lo := (-2147483648)) (hi := 2147483647) (rfl) (rg_all _) rfl
    have hF_12 := fq_puto hF hI_10 hkx (by decide) (by decide)
    have hs_13 : MTq I_10 J x b_1 = s_2 := by rw [hI_10]; exact (mq_uIt wmqx (by decide)).trans hs_2
    have hs_14 : NRq I_10 J x b_3 b_4 = (NR_.w_mfault s_5 (a0)) := by rw [hI_10]; exact ((nq_mfault wnqx).trans (congrArg (fun z : NR_ => NR_.w_mfault z (a0)) hs_5)).trans rfl
    refine g_aload_n C 0 dX12_bad_17 rfl rfl ?_
    refine g_aload_n C 0 dX12_bad_18 rfl rfl ?_
    obtain ⟨x_15, hx_15, rx_15⟩ := ex_getw (I := I_10) (a := x) (j := 6) (lo := 0) (hi := 940) hU_11.1 hLx (ro_o hkx (by decide)) rfl
    have f_16 : s_2.frm = x_15 := (congrArg MT_.frm hs_13).symm.trans hx_15
    refine g_getI C K hLx hkx f_12_98 (v := x_15) hx_15 dX12_bad_19 ?_
    refine h_putI C K hLx hkx f_12_143 p_12_11 dX12_bad_22 (fun I_17 hI_17 => ?_)
    have hU_18 := iw_put W9 hU_11 hI_17 (ro_o hkx (by decide)) (lo := (-2147483648)) (hi := 2147483647) (rfl) (rg_all _) rfl
    have hF_19 := fq_puto hF_12 hI_17 hkx (by decide) (by decide)
    have hs_20 : MTq I_17 J x b_1 = s_2 := by rw [hI_17]; exact (mq_uIt wmqx (by decide)).trans hs_13
    have hs_21 : NRq I_17 J x b_3 b_4 = (NR_.w_mplace (NR_.w_mfault s_5 (a0)) (x_15)) := by rw [hI_17]; exact ((nq_mplace wnqx).trans (congrArg (fun z : NR_ => NR_.w_mplace z (x_15)) hs_14)).trans rfl
    refine g_iconst C (v := 0) dX12_bad_25 (by decide) ?_
    exact g_zret (ty := .boolean) (r := 0) B K rfl (rfl) ⟨hU_18, hF_19, hG, rc_0, (by simp only [mBad, emqx, hs_20, hs_2, enqx, hs_21, hs_5, hx_6, f_7, h_8, hx_15, f_16, if_true, if_false, mqM_tp, mqM_size, mqM_limit, mqM_to, mqM_frm, mqM_kind, mqM_number, mqM_sign, mqM_word, MT_.w_tp, MT_.w_size, MT_.w_limit, MT_.w_to, MT_.w_frm, MT_.w_kind, MT_.w_number, MT_.w_sign, MT_.w_word, nqM_rd, nqM_rn, nqM_taped, nqM_mfault, nqM_mplace, nqM_told, nqM_hl, nqM_hd, NR_.w_rd, NR_.w_rn, NR_.w_taped, NR_.w_mfault, NR_.w_mplace, NR_.w_told, NR_.w_hl, NR_.w_hd])⟩ dX12_bad_26
  · skip
    have r_22 := (⟨(eq_rg (h_8) rc_1).1, (eq_rg (h_8) rc_1).2⟩ : Rg 1 1 x_6)
    refine g_iconst C (v := 1) dX12_bad_9 (by decide) ?_
    refine g_goto C (tgt := 14) dX12_bad_10 (by decide) ?_
    refine h_putI C K hLx hkx f_12_140 p_12_10 dX12_bad_14 (fun I_23 hI_23 => ?_)
    have hU_24 := iw_put W9 hU hI_23 (ro_o hkx (by decide)) (lo := (-2147483648)) (hi := 2147483647) (rfl) (rg_all _) rfl
    have hF_25 := fq_puto hF hI_23 hkx (by decide) (by decide)
    have hs_26 : MTq I_23 J x b_1 = s_2 := by rw [hI_23]; exact (mq_uIt wmqx (by decide)).trans hs_2
    have hs_27 : NRq I_23 J x b_3 b_4 = (NR_.w_mfault s_5 (1)) := by rw [hI_23]; exact ((nq_mfault wnqx).trans (congrArg (fun z : NR_ => NR_.w_mfault z (1)) hs_5)).trans rfl
    refine g_aload_n C 0 dX12_bad_17 rfl rfl ?_
    refine g_aload_n C 0 dX12_bad_18 rfl rfl ?_
    obtain ⟨x_28, hx_28, rx_28⟩ := ex_getw (I := I_23) (a := x) (j := 6) (lo := 0) (hi := 940) hU_24.1 hLx (ro_o hkx (by decide)) rfl
    have f_29 : s_2.frm = x_28 := (congrArg MT_.frm hs_26).symm.trans hx_28
    refine g_getI C K hLx hkx f_12_98 (v := x_28) hx_28 dX12_bad_19 ?_
    refine h_putI C K hLx hkx f_12_143 p_12_11 dX12_bad_22 (fun I_30 hI_30 => ?_)
    have hU_31 := iw_put W9 hU_24 hI_30 (ro_o hkx (by decide)) (lo := (-2147483648)) (hi := 2147483647) (rfl) (rg_all _) rfl
    have hF_32 := fq_puto hF_25 hI_30 hkx (by decide) (by decide)
    have hs_33 : MTq I_30 J x b_1 = s_2 := by rw [hI_30]; exact (mq_uIt wmqx (by decide)).trans hs_26
    have hs_34 : NRq I_30 J x b_3 b_4 = (NR_.w_mplace (NR_.w_mfault s_5 (1)) (x_28)) := by rw [hI_30]; exact ((nq_mplace wnqx).trans (congrArg (fun z : NR_ => NR_.w_mplace z (x_28)) hs_27)).trans rfl
    refine g_iconst C (v := 0) dX12_bad_25 (by decide) ?_
    exact g_zret (ty := .boolean) (r := 0) B K rfl (rfl) ⟨hU_31, hF_32, hG, rc_0, (by simp only [mBad, emqx, hs_33, hs_2, enqx, hs_34, hs_5, hx_6, f_7, (eq_true h_8), hx_28, f_29, if_true, if_false, mqM_tp, mqM_size, mqM_limit, mqM_to, mqM_frm, mqM_kind, mqM_number, mqM_sign, mqM_word, MT_.w_tp, MT_.w_size, MT_.w_limit, MT_.w_to, MT_.w_frm, MT_.w_kind, MT_.w_number, MT_.w_sign, MT_.w_word, nqM_rd, nqM_rn, nqM_taped, nqM_mfault, nqM_mplace, nqM_told, nqM_hl, nqM_hd, NR_.w_rd, NR_.w_rn, NR_.w_taped, NR_.w_mfault, NR_.w_mplace, NR_.w_told, NR_.w_hl, NR_.w_hd])⟩ dX12_bad_26
set_option maxRecDepth 100000 in
set_option maxHeartbeats 8000000 in
theorem c_X12_isSign {l : Launch} {D : va_G} {cy : Nat → ClassId} {L : List Nat} {κ ln : Nat → Nat} {R : Nat → Nat → Option Nat} {I : Nat → Nat → Int32} {J : Nat → Nat → Int64} {ow : Nat → Nat × Nat} (W9 : ∀ a ∈ L, Shp L κ ln R ow a) {x : Nat} (hLx : x ∈ L) (hkx : κ x = 12) (a0 : Int32) (ra0 : Rg 40 62 a0) (hU : Iw L κ R ow I) : CtI l yX12_isSign cX12_isSign 2 (some .boolean) { frames := 0, cells := 0, slots := 0, locals := 0 } D cy L κ ln R I J [.ref x, .int a0] (fun r I2 J2 => I = I2 ∧ J = J2 ∧ Rg 0 1 r ∧ (r = mIsSign a0 (MTf R I J x)) ∧ (¬ r = 0 → Rg 4 4 (I2 x 7))) := by
  refine CtI.of (by decide +kernel) (Nat.le_of_ble_eq_true rfl) ?_
  intro p e s m below meth c B K
  have C := B.1
  obtain ⟨b_1, hb_1, hb_1L, hb_1k, hb_1n, hb_1o⟩ := shp_a (W9 x hLx) hkx 1 14 940 rfl (by decide)
  have emqx : ∀ I J, MTf R I J x = MTq I J x b_1 := fun I J => by simp only [MTf, rr_, Option.getD_some, hb_1]
  have wmqx : mqw_ L κ ow x b_1 := ⟨⟨hLx, hb_1L⟩, ⟨(ro_o hkx (by decide)), (ro_a hb_1k (by decide) hb_1o hkx rfl)⟩⟩
  obtain ⟨s_2, hs_2⟩ : ∃ z, MTq I J x b_1 = z := ⟨_, rfl⟩
  refine g_lo (is := [0, 1]) (lo2 := [(0, .ref x), (1, .int a0)]) rfl ?_
  refine g_aload_n C 0 dX12_isSign_0 rfl rfl ?_
  obtain ⟨x_3, hx_3, rx_3⟩ := ex_getw (I := I) (a := x) (j := 7) (lo := 0) (hi := 4) hU.1 hLx (ro_o hkx (by decide)) rfl
  have f_4 : s_2.kind = x_3 := (congrArg MT_.kind hs_2).symm.trans hx_3
  refine g_getI C K hLx hkx f_12_104 (v := x_3) hx_3 dX12_isSign_1 ?_
  refine g_iconst C (v := 4) dX12_isSign_4 (by decide) ?_
  refine g_icmp_ne C (tgt := 20) dX12_isSign_5 (by decide) (fun h_5 => ?_) (fun h_5 => ?_)
  · skip
    have n_6 : ¬ x_3 = 4 := h_5
    have r_7 := ne_hi (hi := 3) n_6 rx_3 rc_4 rfl (by decide)
    refine g_iconst C (v := 0) dX12_isSign_20 (by decide) ?_
    exact g_zret (ty := .boolean) (r := 0) B K rfl (rfl) ⟨rfl, rfl, rg_w rc_0 (by decide) (by decide), (by simp only [mIsSign, emqx, hs_2, hx_3, f_4, h_5, if_true, if_false, mqM_tp, mqM_size, mqM_limit, mqM_to, mqM_frm, mqM_kind, mqM_number, mqM_sign, mqM_word, MT_.w_tp, MT_.w_size, MT_.w_limit, MT_.w_to, MT_.w_frm, MT_.w_kind, MT_.w_number, MT_.w_sign, MT_.w_word]), (fun q => absurd rfl q)⟩ dX12_isSign_21
  · skip
    have r_8 := (⟨(eq_rg (h_5) rc_4).1, (rx_3).2⟩ : Rg 4 4 x_3)
    refine g_aload_n C 0 dX12_isSign_8 rfl rfl ?_
    obtain ⟨x_9, hx_9, rx_9⟩ := ex_getw (I := I) (a := x) (j := 9) (lo := (-2147483648)) (hi := 2147483647) hU.1 hLx (ro_o hkx (by decide)) rfl
    have f_10 : s_2.sign = x_9 := (congrArg MT_.sign hs_2).symm.trans hx_9
    refine g_getI C K hLx hkx f_12_114 (v := x_9) hx_9 dX12_isSign_9 ?_
    refine g_iload_n C 1 dX12_isSign_12 rfl rfl ?_
    refine g_icmp_ne C (tgt := 20) dX12_isSign_13 (by decide) (fun h_11 => ?_) (fun h_11 => ?_)
    · skip
      refine g_iconst C (v := 0) dX12_isSign_20 (by decide) ?_
      exact g_zret (ty := .boolean) (r := 0) B K rfl (rfl) ⟨rfl, rfl, rg_w rc_0 (by decide) (by decide), (by simp only [mIsSign, emqx, hs_2, hx_3, f_4, (eq_true h_5), hx_9, f_10, h_11, if_true, if_false, mqM_tp, mqM_size, mqM_limit, mqM_to, mqM_frm, mqM_kind, mqM_number, mqM_sign, mqM_word, MT_.w_tp, MT_.w_size, MT_.w_limit, MT_.w_to, MT_.w_frm, MT_.w_kind, MT_.w_number, MT_.w_sign, MT_.w_word]), (fun q => absurd rfl q)⟩ dX12_isSign_21
    · skip
      have r_12 := (⟨(eq_rg (h_11) ra0).1, (eq_rg (h_11) ra0).2⟩ : Rg 40 62 x_9)
      refine g_iconst C (v := 1) dX12_isSign_16 (by decide) ?_
      refine g_goto C (tgt := 21) dX12_isSign_17 (by decide) ?_
      exact g_zret (ty := .boolean) (r := 1) B K rfl (rfl) ⟨rfl, rfl, rg_w rc_1 (by decide) (by decide), (by simp only [mIsSign, emqx, hs_2, hx_3, f_4, (eq_true h_5), hx_9, f_10, (eq_true h_11), if_true, if_false, mqM_tp, mqM_size, mqM_limit, mqM_to, mqM_frm, mqM_kind, mqM_number, mqM_sign, mqM_word, MT_.w_tp, MT_.w_size, MT_.w_limit, MT_.w_to, MT_.w_frm, MT_.w_kind, MT_.w_number, MT_.w_sign, MT_.w_word]), (fun _ => eq_rg hx_3 (r_8))⟩ dX12_isSign_21
set_option maxRecDepth 100000 in
set_option maxHeartbeats 8000000 in
theorem c_X12_readEnd {l : Launch} {D : va_G} {cy : Nat → ClassId} {L : List Nat} {κ ln : Nat → Nat} {R : Nat → Nat → Option Nat} {I : Nat → Nat → Int32} {J : Nat → Nat → Int64} {ow : Nat → Nat × Nat} (W9 : ∀ a ∈ L, Shp L κ ln R ow a) {x : Nat} (hLx : x ∈ L) (hkx : κ x = 12) (hU : Iw L κ R ow I) : CtI l yX12_readEnd cX12_readEnd 1 (some .boolean) { frames := 2, cells := 0, slots := 0, locals := 45 } D cy L κ ln R I J [.ref x] (fun r I2 J2 => Iw L κ R ow I2 ∧ Fq L κ ow [1205, 1206, 1207, 1208, 1209, 1210, 1211] I I2 ∧ Fq L κ ow [1212] J J2 ∧ Rg 0 1 r ∧ ((r, MTf R I2 J2 x, NRf R I2 J2 x) = mReadEnd (MTf R I J x) (NRf R I J x)) ∧ (Pg_ x I I2 ∧ (¬ r = 0 → Ps_ x I I2)) ∧ (¬ r = 0 → (I x 7).toInt = 4)) := by
  obtain ⟨x_1, hx_1, rx_1⟩ := ex_getw (I := I) (a := x) (j := 7) (lo := 0) (hi := 4) hU.1 hLx (ro_o hkx (by decide)) rfl
  refine CtI.of (by decide +kernel) (Nat.le_of_ble_eq_true rfl) ?_
  intro p e s m below meth c B K
  have C := B.1
  have hF : Fq L κ ow [1205, 1206, 1207, 1208, 1209, 1210, 1211] I I := fq_rf
  have hG : Fq L κ ow [1212] J J := fq_rf
  obtain ⟨b_2, hb_2, hb_2L, hb_2k, hb_2n, hb_2o⟩ := shp_a (W9 x hLx) hkx 1 14 940 rfl (by decide)
  have emqx : ∀ I J, MTf R I J x = MTq I J x b_2 := fun I J => by simp only [MTf, rr_, Option.getD_some, hb_2]
  have wmqx : mqw_ L κ ow x b_2 := ⟨⟨hLx, hb_2L⟩, ⟨(ro_o hkx (by decide)), (ro_a hb_2k (by decide) hb_2o hkx rfl)⟩⟩
  obtain ⟨s_3, hs_3⟩ : ∃ z, MTq I J x b_2 = z := ⟨_, rfl⟩
  obtain ⟨b_4, hb_4, hb_4L, hb_4k, hb_4n, hb_4o⟩ := shp_a (W9 x hLx) hkx 15 14 72 rfl (by decide)
  obtain ⟨b_5, hb_5, hb_5L, hb_5k, hb_5n, hb_5o⟩ := shp_a (W9 x hLx) hkx 20 15 13 rfl (by decide)
  have enqx : ∀ I J, NRf R I J x = NRq I J x b_4 b_5 := fun I J => by simp only [NRf, rr_, Option.getD_some, hb_4, hb_5]
  have wnqx : nqw_ L κ ow x b_4 b_5 := ⟨⟨hLx, hb_4L, hb_5L⟩, ⟨(ro_o hkx (by decide)), (ro_a hb_4k (by decide) hb_4o hkx rfl), (ro_a hb_5k (by decide) hb_5o hkx rfl)⟩⟩
  obtain ⟨s_6, hs_6⟩ : ∃ z, NRq I J x b_4 b_5 = z := ⟨_, rfl⟩
  refine g_lo (is := [0]) (lo2 := [(0, .ref x)]) rfl ?_
  refine g_aload_n C 0 dX12_readEnd_0 rfl rfl ?_
  refine g_bipush C (v := 59) dX12_readEnd_1 (by decide) ?_
  have f_7 : s_3.kind = x_1 := (congrArg MT_.kind hs_3).symm.trans hx_1
  refine g_callVI C K (c_X12_isSign W9 hLx hkx 59 (rg_w rc_59 (by decide) (by decide)) hU) hLx hkx (by decide) rfl v_12_159 rfl ⟨rfl, rfl⟩ ⟨Nat.le_of_ble_eq_true rfl, Nat.le_of_ble_eq_true rfl⟩ (Nat.le_of_ble_eq_true rfl) ⟨Nat.le_of_ble_eq_true rfl, Nat.le_of_ble_eq_true rfl⟩ dX12_readEnd_3 rfl (st := []) (fun x_8 I_9 J_10 h_11 => ?_)
  obtain ⟨rfl, rfl, rx_8, fx_8, ex_8⟩ := h_11
  have c_12 : mIsSign (59) (s_3) = x_8 := by have q := fx_8; simp only [emqx, hs_3] at q; exact q.symm
  have q_13 := hx_1
  refine g_if_ne C (tgt := 15) dX12_readEnd_6 (by decide) (fun h_14 => ?_) (fun h_14 => ?_)
  · skip
    have n_15 : ¬ x_8 = 0 := h_14
    have r_16 := ne_lo (lo := 1) n_15 rx_8 rc_0 rfl (by decide)
    have r_17 := rg_i rx_1 (eq_rg q_13.symm ((ex_8) n_15)) (lo := 4) (hi := 4) (by decide) (by decide)
    refine g_aload_n C 0 dX12_readEnd_15 rfl rfl ?_
    refine g_callVV C K (c_X12_go W9 hLx hkx   hU) hLx hkx (by decide) rfl v_12_156 rfl ⟨rfl, rfl⟩ ⟨Nat.le_of_ble_eq_true rfl, Nat.le_of_ble_eq_true rfl⟩ (Nat.le_of_ble_eq_true rfl) ⟨Nat.le_of_ble_eq_true rfl, Nat.le_of_ble_eq_true rfl⟩ dX12_readEnd_16 rfl (st := []) (fun I_19 J_20 h_21 => ?_)
    obtain ⟨hUI_19, hFI_19, hGJ_20, fx_18, ex_18⟩ := h_21
    have hF_22 := fq_tr hF hFI_19 (by decide)
    have hG_23 := fq_tr hG hGJ_20 (by decide)
    obtain ⟨s_25, hs_25⟩ : ∃ z, MTq I_19 J_20 x b_2 = z := ⟨_, rfl⟩
    have c_24 : mGo (s_3) = s_25 := by have q := fx_18; simp only [emqx, hs_3, hs_25] at q; exact q.symm
    have hs_26 : NRq I_19 J_20 x b_4 b_5 = s_6 := (nq_fq wnqx hFI_19 hGJ_20 (by decide) (by decide)).trans hs_6
    refine g_iconst C (v := 1) dX12_readEnd_19 (by decide) ?_
    exact g_zret (ty := .boolean) (r := 1) B K rfl (rfl) ⟨hUI_19, hF_22, hG_23, rg_w rc_1 (by decide) (by decide), (by simp only [mReadEnd, emqx, hs_25, hs_3, enqx, hs_26, hs_6, hx_1, f_7, c_12, h_14, c_24, if_true, if_false, mqM_tp, mqM_size, mqM_limit, mqM_to, mqM_frm, mqM_kind, mqM_number, mqM_sign, mqM_word, MT_.w_tp, MT_.w_size, MT_.w_limit, MT_.w_to, MT_.w_frm, MT_.w_kind, MT_.w_number, MT_.w_sign, MT_.w_word, nqM_rd, nqM_rn, nqM_taped, nqM_mfault, nqM_mplace, nqM_told, nqM_hl, nqM_hd, NR_.w_rd, NR_.w_rn, NR_.w_taped, NR_.w_mfault, NR_.w_mplace, NR_.w_told, NR_.w_hl, NR_.w_hd]), ⟨(pg_s (ps_t2 pg_rf ex_18)), fun _ => (ps_t2 pg_rf ex_18)⟩, (fun _ => by rw [hx_1]; have := (r_17).1; have := (r_17).2; omega)⟩ dX12_readEnd_20
  · skip
    have r_27 := (⟨(rx_8).1, (eq_rg (h_14) rc_0).2⟩ : Rg 0 0 x_8)
    refine g_aload_n C 0 dX12_readEnd_9 rfl rfl ?_
    refine g_iconst C (v := 1) dX12_readEnd_10 (by decide) ?_
    refine g_callVI C K (c_X12_bad W9 hLx hkx 1 (rg_w rc_1 (by decide) (by decide)) hU) hLx hkx (by decide) rfl v_12_146 rfl ⟨rfl, rfl⟩ ⟨Nat.le_of_ble_eq_true rfl, Nat.le_of_ble_eq_true rfl⟩ (Nat.le_of_ble_eq_true rfl) ⟨Nat.le_of_ble_eq_true rfl, Nat.le_of_ble_eq_true rfl⟩ dX12_readEnd_11 rfl (st := []) (fun x_28 I_29 J_30 h_31 => ?_)
    obtain ⟨hUI_29, hFI_29, hGJ_30, rx_28, fx_28⟩ := h_31
    have hF_32 := fq_tr hF hFI_29 (by decide)
    have hG_33 := fq_tr hG hGJ_30 (by decide)
    obtain ⟨s_35, hs_35⟩ : ∃ z, MTq I_29 J_30 x b_2 = z := ⟨_, rfl⟩
    obtain ⟨s_36, hs_36⟩ : ∃ z, NRq I_29 J_30 x b_4 b_5 = z := ⟨_, rfl⟩
    have c_34 : mBad (1) (s_3) (s_6) = (x_28, s_35, s_36) := by have q := fx_28; simp only [emqx, enqx, hs_3, hs_6, hs_35, hs_36] at q; exact q.symm
    exact g_zret (ty := .boolean) (r := x_28) B K rfl (nar_z (rg_w rx_28 (by decide) (by decide))) ⟨hUI_29, hF_32, hG_33, rg_w rx_28 (by decide) (by decide), (by simp only [mReadEnd, emqx, hs_35, hs_3, enqx, hs_36, hs_6, hx_1, f_7, c_12, (eq_true h_14), c_34, if_true, if_false, mqM_tp, mqM_size, mqM_limit, mqM_to, mqM_frm, mqM_kind, mqM_number, mqM_sign, mqM_word, MT_.w_tp, MT_.w_size, MT_.w_limit, MT_.w_to, MT_.w_frm, MT_.w_kind, MT_.w_number, MT_.w_sign, MT_.w_word, nqM_rd, nqM_rn, nqM_taped, nqM_mfault, nqM_mplace, nqM_told, nqM_hl, nqM_hd, NR_.w_rd, NR_.w_rn, NR_.w_taped, NR_.w_mfault, NR_.w_mplace, NR_.w_told, NR_.w_hl, NR_.w_hd]), ⟨(pg_fq pg_rf hFI_29 hLx hkx (by decide) (by decide)), fun q => ne_no q rx_28 rc_0⟩, (fun q => ne_no q rx_28 rc_0)⟩ dX12_readEnd_14
set_option maxRecDepth 100000 in
set_option maxHeartbeats 8000000 in
theorem c_X12_spelt {l : Launch} {D : va_G} {cy : Nat → ClassId} {L : List Nat} {κ ln : Nat → Nat} {R : Nat → Nat → Option Nat} {I : Nat → Nat → Int32} {J : Nat → Nat → Int64} {ow : Nat → Nat × Nat} (W9 : ∀ a ∈ L, Shp L κ ln R ow a) (a0 : Int32) (a1 : Int32) (a2 : Int32) (a3 : Int32) (a4 : Int32) (a5 : Int32) (a6 : Int32) (ra0 : Rg 97 119 a0) (ra1 : Rg 97 117 a1) (ra2 : Rg 0 120 a2) (ra3 : Rg 0 118 a3) (ra4 : Rg 0 116 a4) (ra5 : Rg 0 121 a5) (ra6 : Rg 0 115 a6) (hU : Iw L κ R ow I) : CtL l yX12_spelt cX12_spelt 9 (some .long) { frames := 0, cells := 0, slots := 0, locals := 0 } D cy L κ ln R I J [.int a0, .int a1, .int a2, .int a3, .int a4, .int a5, .int a6] (fun r I2 J2 => I = I2 ∧ J = J2 ∧ (r = spl a0 a1 a2 a3 a4 a5 a6)) := by
  refine CtL.of (by decide +kernel) (Nat.le_of_ble_eq_true rfl) ?_
  intro p e s m below meth c B K
  have C := B.1
  refine g_lo (is := [0, 1, 2, 3, 4, 5, 6]) (lo2 := [(0, .int a0), (1, .int a1), (2, .int a2), (3, .int a3), (4, .int a4), (5, .int a5), (6, .int a6)]) rfl ?_
  refine g_ldc2 C kl_128 dX12_spelt_0 ?_
  refine g_iload_n C 0 dX12_spelt_3 rfl rfl ?_
  obtain ⟨y_1, hy_1⟩ : ∃ z, Int32.toInt64 a0 = z := ⟨_, rfl⟩
  refine g_i2l C (v := y_1) dX12_spelt_4 hy_1 ?_
  refine g_ldc2 C kl_130 dX12_spelt_5 ?_
  refine g_lsubE C dX12_spelt_8 (fun y_2 hy_2 => ?_)
  refine g_lmulE C dX12_spelt_9 (fun y_3 hy_3 => ?_)
  refine g_iload_n C 1 dX12_spelt_10 rfl rfl ?_
  obtain ⟨y_4, hy_4⟩ : ∃ z, Int32.toInt64 a1 = z := ⟨_, rfl⟩
  refine g_i2l C (v := y_4) dX12_spelt_11 hy_4 ?_
  refine g_laddE C dX12_spelt_12 (fun y_5 hy_5 => ?_)
  refine g_ldc2 C kl_130 dX12_spelt_13 ?_
  refine g_lsubE C dX12_spelt_16 (fun y_6 hy_6 => ?_)
  refine g_lstore C dX12_spelt_17 (by decide) (lo2 := [(7, .long y_6), (0, .int a0), (1, .int a1), (2, .int a2), (3, .int a3), (4, .int a4), (5, .int a5), (6, .int a6)]) rfl ?_
  refine g_iload_n C 3 dX12_spelt_19 rfl rfl ?_
  refine g_if_le C (tgt := 38) dX12_spelt_20 (by decide) (fun h_7 => ?_) (fun h_7 => ?_)
  · skip
    have r_8 := le_l (h_7) ra2 rc_0
    refine g_iload_n C 4 dX12_spelt_38 rfl rfl ?_
    refine g_if_le C (tgt := 57) dX12_spelt_39 (by decide) (fun h_9 => ?_) (fun h_9 => ?_)
    · skip
      have r_10 := le_l (h_9) ra3 rc_0
      refine g_iload C 5 dX12_spelt_57 rfl ?_
      refine g_if_le C (tgt := 78) dX12_spelt_59 (by decide) (fun h_11 => ?_) (fun h_11 => ?_)
      · skip
        have r_12 := le_l (h_11) ra4 rc_0
        refine g_iload C 6 dX12_spelt_78 rfl ?_
        refine g_if_le C (tgt := 99) dX12_spelt_80 (by decide) (fun h_13 => ?_) (fun h_13 => ?_)
        · skip
          have r_14 := le_l (h_13) ra5 rc_0
          refine g_iload C 7 dX12_spelt_99 rfl ?_
          refine g_if_le C (tgt := 120) dX12_spelt_101 (by decide) (fun h_15 => ?_) (fun h_15 => ?_)
          · skip
            have r_16 := le_l (h_15) ra6 rc_0
            refine g_lload C 0 dX12_spelt_120 rfl ?_
            exact g_lret (r := y_6) B K rfl ⟨rfl, rfl, (by simp only [spl, hy_1, hy_2, hy_3, hy_4, hy_5, hy_6, h_7, h_9, h_11, h_13, h_15, if_true, if_false])⟩ dX12_spelt_122
          · skip
            have r_17 := lt_r (lo := 1) (nle h_15) rc_0 ra6 (by decide)
            refine g_ldc2 C kl_128 dX12_spelt_104 ?_
            refine g_lload C 0 dX12_spelt_107 rfl ?_
            refine g_lmulE C dX12_spelt_109 (fun y_18 hy_18 => ?_)
            refine g_iload C 7 dX12_spelt_110 rfl ?_
            obtain ⟨y_19, hy_19⟩ : ∃ z, Int32.toInt64 a6 = z := ⟨_, rfl⟩
            refine g_i2l C (v := y_19) dX12_spelt_112 hy_19 ?_
            refine g_laddE C dX12_spelt_113 (fun y_20 hy_20 => ?_)
            refine g_ldc2 C kl_130 dX12_spelt_114 ?_
            refine g_lsubE C dX12_spelt_117 (fun y_21 hy_21 => ?_)
            refine g_lstore C dX12_spelt_118 (by decide) (lo2 := [(7, .long y_21), (0, .int a0), (1, .int a1), (2, .int a2), (3, .int a3), (4, .int a4), (5, .int a5), (6, .int a6)]) rfl ?_
            refine g_lload C 0 dX12_spelt_120 rfl ?_
            exact g_lret (r := y_21) B K rfl ⟨rfl, rfl, (by simp only [spl, hy_1, hy_2, hy_3, hy_4, hy_5, hy_6, h_7, h_9, h_11, h_13, h_15, (nle h_15), hy_18, hy_19, hy_20, hy_21, if_true, if_false])⟩ dX12_spelt_122
        · skip
          have r_22 := lt_r (lo := 1) (nle h_13) rc_0 ra5 (by decide)
          refine g_ldc2 C kl_128 dX12_spelt_83 ?_
          refine g_lload C 0 dX12_spelt_86 rfl ?_
          refine g_lmulE C dX12_spelt_88 (fun y_23 hy_23 => ?_)
          refine g_iload C 6 dX12_spelt_89 rfl ?_
          obtain ⟨y_24, hy_24⟩ : ∃ z, Int32.toInt64 a5 = z := ⟨_, rfl⟩
          refine g_i2l C (v := y_24) dX12_spelt_91 hy_24 ?_
          refine g_laddE C dX12_spelt_92 (fun y_25 hy_25 => ?_)
          refine g_ldc2 C kl_130 dX12_spelt_93 ?_
          refine g_lsubE C dX12_spelt_96 (fun y_26 hy_26 => ?_)
          refine g_lstore C dX12_spelt_97 (by decide) (lo2 := [(7, .long y_26), (0, .int a0), (1, .int a1), (2, .int a2), (3, .int a3), (4, .int a4), (5, .int a5), (6, .int a6)]) rfl ?_
          refine g_iload C 7 dX12_spelt_99 rfl ?_
          refine g_if_le C (tgt := 120) dX12_spelt_101 (by decide) (fun h_27 => ?_) (fun h_27 => ?_)
          · skip
            have r_28 := le_l (h_27) ra6 rc_0
            refine g_lload C 0 dX12_spelt_120 rfl ?_
            exact g_lret (r := y_26) B K rfl ⟨rfl, rfl, (by simp only [spl, hy_1, hy_2, hy_3, hy_4, hy_5, hy_6, h_7, h_9, h_11, h_13, (nle h_13), hy_23, hy_24, hy_25, hy_26, h_27, if_true, if_false])⟩ dX12_spelt_122
          · skip
            have r_29 := lt_r (lo := 1) (nle h_27) rc_0 ra6 (by decide)
            refine g_ldc2 C kl_128 dX12_spelt_104 ?_
            refine g_lload C 0 dX12_spelt_107 rfl ?_
            refine g_lmulE C dX12_spelt_109 (fun y_30 hy_30 => ?_)
            refine g_iload C 7 dX12_spelt_110 rfl ?_
            obtain ⟨y_31, hy_31⟩ : ∃ z, Int32.toInt64 a6 = z := ⟨_, rfl⟩
            refine g_i2l C (v := y_31) dX12_spelt_112 hy_31 ?_
            refine g_laddE C dX12_spelt_113 (fun y_32 hy_32 => ?_)
            refine g_ldc2 C kl_130 dX12_spelt_114 ?_
            refine g_lsubE C dX12_spelt_117 (fun y_33 hy_33 => ?_)
            refine g_lstore C dX12_spelt_118 (by decide) (lo2 := [(7, .long y_33), (0, .int a0), (1, .int a1), (2, .int a2), (3, .int a3), (4, .int a4), (5, .int a5), (6, .int a6)]) rfl ?_
            refine g_lload C 0 dX12_spelt_120 rfl ?_
            exact g_lret (r := y_33) B K rfl ⟨rfl, rfl, (by simp only [spl, hy_1, hy_2, hy_3, hy_4, hy_5, hy_6, h_7, h_9, h_11, h_13, (nle h_13), hy_23, hy_24, hy_25, hy_26, h_27, (nle h_27), hy_30, hy_31, hy_32, hy_33, if_true, if_false])⟩ dX12_spelt_122
      · skip
        have r_34 := lt_r (lo := 1) (nle h_11) rc_0 ra4 (by decide)
        refine g_ldc2 C kl_128 dX12_spelt_62 ?_
        refine g_lload C 0 dX12_spelt_65 rfl ?_
        refine g_lmulE C dX12_spelt_67 (fun y_35 hy_35 => ?_)
        refine g_iload C 5 dX12_spelt_68 rfl ?_
        obtain ⟨y_36, hy_36⟩ : ∃ z, Int32.toInt64 a4 = z := ⟨_, rfl⟩
        refine g_i2l C (v := y_36) dX12_spelt_70 hy_36 ?_
        refine g_laddE C dX12_spelt_71 (fun y_37 hy_37 => ?_)
        refine g_ldc2 C kl_130 dX12_spelt_72 ?_
        refine g_lsubE C dX12_spelt_75 (fun y_38 hy_38 => ?_)
        refine g_lstore C dX12_spelt_76 (by decide) (lo2 := [(7, .long y_38), (0, .int a0), (1, .int a1), (2, .int a2), (3, .int a3), (4, .int a4), (5, .int a5), (6, .int a6)]) rfl ?_
        refine g_iload C 6 dX12_spelt_78 rfl ?_
        refine g_if_le C (tgt := 99) dX12_spelt_80 (by decide) (fun h_39 => ?_) (fun h_39 => ?_)
        · skip
          have r_40 := le_l (h_39) ra5 rc_0
          refine g_iload C 7 dX12_spelt_99 rfl ?_
          refine g_if_le C (tgt := 120) dX12_spelt_101 (by decide) (fun h_41 => ?_) (fun h_41 => ?_)
          · skip
            have r_42 := le_l (h_41) ra6 rc_0
            refine g_lload C 0 dX12_spelt_120 rfl ?_
            exact g_lret (r := y_38) B K rfl ⟨rfl, rfl, (by simp only [spl, hy_1, hy_2, hy_3, hy_4, hy_5, hy_6, h_7, h_9, h_11, (nle h_11), hy_35, hy_36, hy_37, hy_38, h_39, h_41, if_true, if_false])⟩ dX12_spelt_122
          · skip
            have r_43 := lt_r (lo := 1) (nle h_41) rc_0 ra6 (by decide)
            refine g_ldc2 C kl_128 dX12_spelt_104 ?_
            refine g_lload C 0 dX12_spelt_107 rfl ?_
            refine g_lmulE C dX12_spelt_109 (fun y_44 hy_44 => ?_)
            refine g_iload C 7 dX12_spelt_110 rfl ?_
            obtain ⟨y_45, hy_45⟩ : ∃ z, Int32.toInt64 a6 = z := ⟨_, rfl⟩
            refine g_i2l C (v := y_45) dX12_spelt_112 hy_45 ?_
            refine g_laddE C dX12_spelt_113 (fun y_46 hy_46 => ?_)
            refine g_ldc2 C kl_130 dX12_spelt_114 ?_
            refine g_lsubE C dX12_spelt_117 (fun y_47 hy_47 => ?_)
            refine g_lstore C dX12_spelt_118 (by decide) (lo2 := [(7, .long y_47), (0, .int a0), (1, .int a1), (2, .int a2), (3, .int a3), (4, .int a4), (5, .int a5), (6, .int a6)]) rfl ?_
            refine g_lload C 0 dX12_spelt_120 rfl ?_
            exact g_lret (r := y_47) B K rfl ⟨rfl, rfl, (by simp only [spl, hy_1, hy_2, hy_3, hy_4, hy_5, hy_6, h_7, h_9, h_11, (nle h_11), hy_35, hy_36, hy_37, hy_38, h_39, h_41, (nle h_41), hy_44, hy_45, hy_46, hy_47, if_true, if_false])⟩ dX12_spelt_122
        · skip
          have r_48 := lt_r (lo := 1) (nle h_39) rc_0 ra5 (by decide)
          refine g_ldc2 C kl_128 dX12_spelt_83 ?_
          refine g_lload C 0 dX12_spelt_86 rfl ?_
          refine g_lmulE C dX12_spelt_88 (fun y_49 hy_49 => ?_)
          refine g_iload C 6 dX12_spelt_89 rfl ?_
          obtain ⟨y_50, hy_50⟩ : ∃ z, Int32.toInt64 a5 = z := ⟨_, rfl⟩
          refine g_i2l C (v := y_50) dX12_spelt_91 hy_50 ?_
          refine g_laddE C dX12_spelt_92 (fun y_51 hy_51 => ?_)
          refine g_ldc2 C kl_130 dX12_spelt_93 ?_
          refine g_lsubE C dX12_spelt_96 (fun y_52 hy_52 => ?_)
          refine g_lstore C dX12_spelt_97 (by decide) (lo2 := [(7, .long y_52), (0, .int a0), (1, .int a1), (2, .int a2), (3, .int a3), (4, .int a4), (5, .int a5), (6, .int a6)]) rfl ?_
          refine g_iload C 7 dX12_spelt_99 rfl ?_
          refine g_if_le C (tgt := 120) dX12_spelt_101 (by decide) (fun h_53 => ?_) (fun h_53 => ?_)
          · skip
            have r_54 := le_l (h_53) ra6 rc_0
            refine g_lload C 0 dX12_spelt_120 rfl ?_
            exact g_lret (r := y_52) B K rfl ⟨rfl, rfl, (by simp only [spl, hy_1, hy_2, hy_3, hy_4, hy_5, hy_6, h_7, h_9, h_11, (nle h_11), hy_35, hy_36, hy_37, hy_38, h_39, (nle h_39), hy_49, hy_50, hy_51, hy_52, h_53, if_true, if_false])⟩ dX12_spelt_122
          · skip
            have r_55 := lt_r (lo := 1) (nle h_53) rc_0 ra6 (by decide)
            refine g_ldc2 C kl_128 dX12_spelt_104 ?_
            refine g_lload C 0 dX12_spelt_107 rfl ?_
            refine g_lmulE C dX12_spelt_109 (fun y_56 hy_56 => ?_)
            refine g_iload C 7 dX12_spelt_110 rfl ?_
            obtain ⟨y_57, hy_57⟩ : ∃ z, Int32.toInt64 a6 = z := ⟨_, rfl⟩
            refine g_i2l C (v := y_57) dX12_spelt_112 hy_57 ?_
            refine g_laddE C dX12_spelt_113 (fun y_58 hy_58 => ?_)
            refine g_ldc2 C kl_130 dX12_spelt_114 ?_
            refine g_lsubE C dX12_spelt_117 (fun y_59 hy_59 => ?_)
            refine g_lstore C dX12_spelt_118 (by decide) (lo2 := [(7, .long y_59), (0, .int a0), (1, .int a1), (2, .int a2), (3, .int a3), (4, .int a4), (5, .int a5), (6, .int a6)]) rfl ?_
            refine g_lload C 0 dX12_spelt_120 rfl ?_
            exact g_lret (r := y_59) B K rfl ⟨rfl, rfl, (by simp only [spl, hy_1, hy_2, hy_3, hy_4, hy_5, hy_6, h_7, h_9, h_11, (nle h_11), hy_35, hy_36, hy_37, hy_38, h_39, (nle h_39), hy_49, hy_50, hy_51, hy_52, h_53, (nle h_53), hy_56, hy_57, hy_58, hy_59, if_true, if_false])⟩ dX12_spelt_122
    · skip
      have r_60 := lt_r (lo := 1) (nle h_9) rc_0 ra3 (by decide)
      refine g_ldc2 C kl_128 dX12_spelt_42 ?_
      refine g_lload C 0 dX12_spelt_45 rfl ?_
      refine g_lmulE C dX12_spelt_47 (fun y_61 hy_61 => ?_)
      refine g_iload_n C 4 dX12_spelt_48 rfl rfl ?_
      obtain ⟨y_62, hy_62⟩ : ∃ z, Int32.toInt64 a3 = z := ⟨_, rfl⟩
      refine g_i2l C (v := y_62) dX12_spelt_49 hy_62 ?_
      refine g_laddE C dX12_spelt_50 (fun y_63 hy_63 => ?_)
      refine g_ldc2 C kl_130 dX12_spelt_51 ?_
      refine g_lsubE C dX12_spelt_54 (fun y_64 hy_64 => ?_)
      refine g_lstore C dX12_spelt_55 (by decide) (lo2 := [(7, .long y_64), (0, .int a0), (1, .int a1), (2, .int a2), (3, .int a3), (4, .int a4), (5, .int a5), (6, .int a6)]) rfl ?_
      refine g_iload C 5 dX12_spelt_57 rfl ?_
      refine g_if_le C (tgt := 78) dX12_spelt_59 (by decide) (fun h_65 => ?_) (fun h_65 => ?_)
      · skip
        have r_66 := le_l (h_65) ra4 rc_0
        refine g_iload C 6 dX12_spelt_78 rfl ?_
        refine g_if_le C (tgt := 99) dX12_spelt_80 (by decide) (fun h_67 => ?_) (fun h_67 => ?_)
        · skip
          have r_68 := le_l (h_67) ra5 rc_0
          refine g_iload C 7 dX12_spelt_99 rfl ?_
          refine g_if_le C (tgt := 120) dX12_spelt_101 (by decide) (fun h_69 => ?_) (fun h_69 => ?_)
          · skip
            have r_70 := le_l (h_69) ra6 rc_0
            refine g_lload C 0 dX12_spelt_120 rfl ?_
            exact g_lret (r := y_64) B K rfl ⟨rfl, rfl, (by simp only [spl, hy_1, hy_2, hy_3, hy_4, hy_5, hy_6, h_7, h_9, (nle h_9), hy_61, hy_62, hy_63, hy_64, h_65, h_67, h_69, if_true, if_false])⟩ dX12_spelt_122
          · skip
            have r_71 := lt_r (lo := 1) (nle h_69) rc_0 ra6 (by decide)
            refine g_ldc2 C kl_128 dX12_spelt_104 ?_
            refine g_lload C 0 dX12_spelt_107 rfl ?_
            refine g_lmulE C dX12_spelt_109 (fun y_72 hy_72 => ?_)
            refine g_iload C 7 dX12_spelt_110 rfl ?_
            obtain ⟨y_73, hy_73⟩ : ∃ z, Int32.toInt64 a6 = z := ⟨_, rfl⟩
            refine g_i2l C (v := y_73) dX12_spelt_112 hy_73 ?_
            refine g_laddE C dX12_spelt_113 (fun y_74 hy_74 => ?_)
            refine g_ldc2 C kl_130 dX12_spelt_114 ?_
            refine g_lsubE C dX12_spelt_117 (fun y_75 hy_75 => ?_)
            refine g_lstore C dX12_spelt_118 (by decide) (lo2 := [(7, .long y_75), (0, .int a0), (1, .int a1), (2, .int a2), (3, .int a3), (4, .int a4), (5, .int a5), (6, .int a6)]) rfl ?_
            refine g_lload C 0 dX12_spelt_120 rfl ?_
            exact g_lret (r := y_75) B K rfl ⟨rfl, rfl, (by simp only [spl, hy_1, hy_2, hy_3, hy_4, hy_5, hy_6, h_7, h_9, (nle h_9), hy_61, hy_62, hy_63, hy_64, h_65, h_67, h_69, (nle h_69), hy_72, hy_73, hy_74, hy_75, if_true, if_false])⟩ dX12_spelt_122
        · skip
          have r_76 := lt_r (lo := 1) (nle h_67) rc_0 ra5 (by decide)
          refine g_ldc2 C kl_128 dX12_spelt_83 ?_
          refine g_lload C 0 dX12_spelt_86 rfl ?_
          refine g_lmulE C dX12_spelt_88 (fun y_77 hy_77 => ?_)
          refine g_iload C 6 dX12_spelt_89 rfl ?_
          obtain ⟨y_78, hy_78⟩ : ∃ z, Int32.toInt64 a5 = z := ⟨_, rfl⟩
          refine g_i2l C (v := y_78) dX12_spelt_91 hy_78 ?_
          refine g_laddE C dX12_spelt_92 (fun y_79 hy_79 => ?_)
          refine g_ldc2 C kl_130 dX12_spelt_93 ?_
          refine g_lsubE C dX12_spelt_96 (fun y_80 hy_80 => ?_)
          refine g_lstore C dX12_spelt_97 (by decide) (lo2 := [(7, .long y_80), (0, .int a0), (1, .int a1), (2, .int a2), (3, .int a3), (4, .int a4), (5, .int a5), (6, .int a6)]) rfl ?_
          refine g_iload C 7 dX12_spelt_99 rfl ?_
          refine g_if_le C (tgt := 120) dX12_spelt_101 (by decide) (fun h_81 => ?_) (fun h_81 => ?_)
          · skip
            have r_82 := le_l (h_81) ra6 rc_0
            refine g_lload C 0 dX12_spelt_120 rfl ?_
            exact g_lret (r := y_80) B K rfl ⟨rfl, rfl, (by simp only [spl, hy_1, hy_2, hy_3, hy_4, hy_5, hy_6, h_7, h_9, (nle h_9), hy_61, hy_62, hy_63, hy_64, h_65, h_67, (nle h_67), hy_77, hy_78, hy_79, hy_80, h_81, if_true, if_false])⟩ dX12_spelt_122
          · skip
            have r_83 := lt_r (lo := 1) (nle h_81) rc_0 ra6 (by decide)
            refine g_ldc2 C kl_128 dX12_spelt_104 ?_
            refine g_lload C 0 dX12_spelt_107 rfl ?_
            refine g_lmulE C dX12_spelt_109 (fun y_84 hy_84 => ?_)
            refine g_iload C 7 dX12_spelt_110 rfl ?_
            obtain ⟨y_85, hy_85⟩ : ∃ z, Int32.toInt64 a6 = z := ⟨_, rfl⟩
            refine g_i2l C (v := y_85) dX12_spelt_112 hy_85 ?_
            refine g_laddE C dX12_spelt_113 (fun y_86 hy_86 => ?_)
            refine g_ldc2 C kl_130 dX12_spelt_114 ?_
            refine g_lsubE C dX12_spelt_117 (fun y_87 hy_87 => ?_)
            refine g_lstore C dX12_spelt_118 (by decide) (lo2 := [(7, .long y_87), (0, .int a0), (1, .int a1), (2, .int a2), (3, .int a3), (4, .int a4), (5, .int a5), (6, .int a6)]) rfl ?_
            refine g_lload C 0 dX12_spelt_120 rfl ?_
            exact g_lret (r := y_87) B K rfl ⟨rfl, rfl, (by simp only [spl, hy_1, hy_2, hy_3, hy_4, hy_5, hy_6, h_7, h_9, (nle h_9), hy_61, hy_62, hy_63, hy_64, h_65, h_67, (nle h_67), hy_77, hy_78, hy_79, hy_80, h_81, (nle h_81), hy_84, hy_85, hy_86, hy_87, if_true, if_false])⟩ dX12_spelt_122
      · skip
        have r_88 := lt_r (lo := 1) (nle h_65) rc_0 ra4 (by decide)
        refine g_ldc2 C kl_128 dX12_spelt_62 ?_
        refine g_lload C 0 dX12_spelt_65 rfl ?_
        refine g_lmulE C dX12_spelt_67 (fun y_89 hy_89 => ?_)
        refine g_iload C 5 dX12_spelt_68 rfl ?_
        obtain ⟨y_90, hy_90⟩ : ∃ z, Int32.toInt64 a4 = z := ⟨_, rfl⟩
        refine g_i2l C (v := y_90) dX12_spelt_70 hy_90 ?_
        refine g_laddE C dX12_spelt_71 (fun y_91 hy_91 => ?_)
        refine g_ldc2 C kl_130 dX12_spelt_72 ?_
        refine g_lsubE C dX12_spelt_75 (fun y_92 hy_92 => ?_)
        refine g_lstore C dX12_spelt_76 (by decide) (lo2 := [(7, .long y_92), (0, .int a0), (1, .int a1), (2, .int a2), (3, .int a3), (4, .int a4), (5, .int a5), (6, .int a6)]) rfl ?_
        refine g_iload C 6 dX12_spelt_78 rfl ?_
        refine g_if_le C (tgt := 99) dX12_spelt_80 (by decide) (fun h_93 => ?_) (fun h_93 => ?_)
        · skip
          have r_94 := le_l (h_93) ra5 rc_0
          refine g_iload C 7 dX12_spelt_99 rfl ?_
          refine g_if_le C (tgt := 120) dX12_spelt_101 (by decide) (fun h_95 => ?_) (fun h_95 => ?_)
          · skip
            have r_96 := le_l (h_95) ra6 rc_0
            refine g_lload C 0 dX12_spelt_120 rfl ?_
            exact g_lret (r := y_92) B K rfl ⟨rfl, rfl, (by simp only [spl, hy_1, hy_2, hy_3, hy_4, hy_5, hy_6, h_7, h_9, (nle h_9), hy_61, hy_62, hy_63, hy_64, h_65, (nle h_65), hy_89, hy_90, hy_91, hy_92, h_93, h_95, if_true, if_false])⟩ dX12_spelt_122
          · skip
            have r_97 := lt_r (lo := 1) (nle h_95) rc_0 ra6 (by decide)
            refine g_ldc2 C kl_128 dX12_spelt_104 ?_
            refine g_lload C 0 dX12_spelt_107 rfl ?_
            refine g_lmulE C dX12_spelt_109 (fun y_98 hy_98 => ?_)
            refine g_iload C 7 dX12_spelt_110 rfl ?_
            obtain ⟨y_99, hy_99⟩ : ∃ z, Int32.toInt64 a6 = z := ⟨_, rfl⟩
            refine g_i2l C (v := y_99) dX12_spelt_112 hy_99 ?_
            refine g_laddE C dX12_spelt_113 (fun y_100 hy_100 => ?_)
            refine g_ldc2 C kl_130 dX12_spelt_114 ?_
            refine g_lsubE C dX12_spelt_117 (fun y_101 hy_101 => ?_)
            refine g_lstore C dX12_spelt_118 (by decide) (lo2 := [(7, .long y_101), (0, .int a0), (1, .int a1), (2, .int a2), (3, .int a3), (4, .int a4), (5, .int a5), (6, .int a6)]) rfl ?_
            refine g_lload C 0 dX12_spelt_120 rfl ?_
            exact g_lret (r := y_101) B K rfl ⟨rfl, rfl, (by simp only [spl, hy_1, hy_2, hy_3, hy_4, hy_5, hy_6, h_7, h_9, (nle h_9), hy_61, hy_62, hy_63, hy_64, h_65, (nle h_65), hy_89, hy_90, hy_91, hy_92, h_93, h_95, (nle h_95), hy_98, hy_99, hy_100, hy_101, if_true, if_false])⟩ dX12_spelt_122
        · skip
          have r_102 := lt_r (lo := 1) (nle h_93) rc_0 ra5 (by decide)
          refine g_ldc2 C kl_128 dX12_spelt_83 ?_
          refine g_lload C 0 dX12_spelt_86 rfl ?_
          refine g_lmulE C dX12_spelt_88 (fun y_103 hy_103 => ?_)
          refine g_iload C 6 dX12_spelt_89 rfl ?_
          obtain ⟨y_104, hy_104⟩ : ∃ z, Int32.toInt64 a5 = z := ⟨_, rfl⟩
          refine g_i2l C (v := y_104) dX12_spelt_91 hy_104 ?_
          refine g_laddE C dX12_spelt_92 (fun y_105 hy_105 => ?_)
          refine g_ldc2 C kl_130 dX12_spelt_93 ?_
          refine g_lsubE C dX12_spelt_96 (fun y_106 hy_106 => ?_)
          refine g_lstore C dX12_spelt_97 (by decide) (lo2 := [(7, .long y_106), (0, .int a0), (1, .int a1), (2, .int a2), (3, .int a3), (4, .int a4), (5, .int a5), (6, .int a6)]) rfl ?_
          refine g_iload C 7 dX12_spelt_99 rfl ?_
          refine g_if_le C (tgt := 120) dX12_spelt_101 (by decide) (fun h_107 => ?_) (fun h_107 => ?_)
          · skip
            have r_108 := le_l (h_107) ra6 rc_0
            refine g_lload C 0 dX12_spelt_120 rfl ?_
            exact g_lret (r := y_106) B K rfl ⟨rfl, rfl, (by simp only [spl, hy_1, hy_2, hy_3, hy_4, hy_5, hy_6, h_7, h_9, (nle h_9), hy_61, hy_62, hy_63, hy_64, h_65, (nle h_65), hy_89, hy_90, hy_91, hy_92, h_93, (nle h_93), hy_103, hy_104, hy_105, hy_106, h_107, if_true, if_false])⟩ dX12_spelt_122
          · skip
            have r_109 := lt_r (lo := 1) (nle h_107) rc_0 ra6 (by decide)
            refine g_ldc2 C kl_128 dX12_spelt_104 ?_
            refine g_lload C 0 dX12_spelt_107 rfl ?_
            refine g_lmulE C dX12_spelt_109 (fun y_110 hy_110 => ?_)
            refine g_iload C 7 dX12_spelt_110 rfl ?_
            obtain ⟨y_111, hy_111⟩ : ∃ z, Int32.toInt64 a6 = z := ⟨_, rfl⟩
            refine g_i2l C (v := y_111) dX12_spelt_112 hy_111 ?_
            refine g_laddE C dX12_spelt_113 (fun y_112 hy_112 => ?_)
            refine g_ldc2 C kl_130 dX12_spelt_114 ?_
            refine g_lsubE C dX12_spelt_117 (fun y_113 hy_113 => ?_)
            refine g_lstore C dX12_spelt_118 (by decide) (lo2 := [(7, .long y_113), (0, .int a0), (1, .int a1), (2, .int a2), (3, .int a3), (4, .int a4), (5, .int a5), (6, .int a6)]) rfl ?_
            refine g_lload C 0 dX12_spelt_120 rfl ?_
            exact g_lret (r := y_113) B K rfl ⟨rfl, rfl, (by simp only [spl, hy_1, hy_2, hy_3, hy_4, hy_5, hy_6, h_7, h_9, (nle h_9), hy_61, hy_62, hy_63, hy_64, h_65, (nle h_65), hy_89, hy_90, hy_91, hy_92, h_93, (nle h_93), hy_103, hy_104, hy_105, hy_106, h_107, (nle h_107), hy_110, hy_111, hy_112, hy_113, if_true, if_false])⟩ dX12_spelt_122
  · skip
    have r_114 := lt_r (lo := 1) (nle h_7) rc_0 ra2 (by decide)
    refine g_ldc2 C kl_128 dX12_spelt_23 ?_
    refine g_lload C 0 dX12_spelt_26 rfl ?_
    refine g_lmulE C dX12_spelt_28 (fun y_115 hy_115 => ?_)
    refine g_iload_n C 3 dX12_spelt_29 rfl rfl ?_
    obtain ⟨y_116, hy_116⟩ : ∃ z, Int32.toInt64 a2 = z := ⟨_, rfl⟩
    refine g_i2l C (v := y_116) dX12_spelt_30 hy_116 ?_
    refine g_laddE C dX12_spelt_31 (fun y_117 hy_117 => ?_)
    refine g_ldc2 C kl_130 dX12_spelt_32 ?_
    refine g_lsubE C dX12_spelt_35 (fun y_118 hy_118 => ?_)
    refine g_lstore C dX12_spelt_36 (by decide) (lo2 := [(7, .long y_118), (0, .int a0), (1, .int a1), (2, .int a2), (3, .int a3), (4, .int a4), (5, .int a5), (6, .int a6)]) rfl ?_
    refine g_iload_n C 4 dX12_spelt_38 rfl rfl ?_
    refine g_if_le C (tgt := 57) dX12_spelt_39 (by decide) (fun h_119 => ?_) (fun h_119 => ?_)
    · skip
      have r_120 := le_l (h_119) ra3 rc_0
      refine g_iload C 5 dX12_spelt_57 rfl ?_
      refine g_if_le C (tgt := 78) dX12_spelt_59 (by decide) (fun h_121 => ?_) (fun h_121 => ?_)
      · skip
        have r_122 := le_l (h_121) ra4 rc_0
        refine g_iload C 6 dX12_spelt_78 rfl ?_
        refine g_if_le C (tgt := 99) dX12_spelt_80 (by decide) (fun h_123 => ?_) (fun h_123 => ?_)
        · skip
          have r_124 := le_l (h_123) ra5 rc_0
          refine g_iload C 7 dX12_spelt_99 rfl ?_
          refine g_if_le C (tgt := 120) dX12_spelt_101 (by decide) (fun h_125 => ?_) (fun h_125 => ?_)
          · skip
            have r_126 := le_l (h_125) ra6 rc_0
            refine g_lload C 0 dX12_spelt_120 rfl ?_
            exact g_lret (r := y_118) B K rfl ⟨rfl, rfl, (by simp only [spl, hy_1, hy_2, hy_3, hy_4, hy_5, hy_6, h_7, (nle h_7), hy_115, hy_116, hy_117, hy_118, h_119, h_121, h_123, h_125, if_true, if_false])⟩ dX12_spelt_122
          · skip
            have r_127 := lt_r (lo := 1) (nle h_125) rc_0 ra6 (by decide)
            refine g_ldc2 C kl_128 dX12_spelt_104 ?_
            refine g_lload C 0 dX12_spelt_107 rfl ?_
            refine g_lmulE C dX12_spelt_109 (fun y_128 hy_128 => ?_)
            refine g_iload C 7 dX12_spelt_110 rfl ?_
            obtain ⟨y_129, hy_129⟩ : ∃ z, Int32.toInt64 a6 = z := ⟨_, rfl⟩
            refine g_i2l C (v := y_129) dX12_spelt_112 hy_129 ?_
            refine g_laddE C dX12_spelt_113 (fun y_130 hy_130 => ?_)
            refine g_ldc2 C kl_130 dX12_spelt_114 ?_
            refine g_lsubE C dX12_spelt_117 (fun y_131 hy_131 => ?_)
            refine g_lstore C dX12_spelt_118 (by decide) (lo2 := [(7, .long y_131), (0, .int a0), (1, .int a1), (2, .int a2), (3, .int a3), (4, .int a4), (5, .int a5), (6, .int a6)]) rfl ?_
            refine g_lload C 0 dX12_spelt_120 rfl ?_
            exact g_lret (r := y_131) B K rfl ⟨rfl, rfl, (by simp only [spl, hy_1, hy_2, hy_3, hy_4, hy_5, hy_6, h_7, (nle h_7), hy_115, hy_116, hy_117, hy_118, h_119, h_121, h_123, h_125, (nle h_125), hy_128, hy_129, hy_130, hy_131, if_true, if_false])⟩ dX12_spelt_122
        · skip
          have r_132 := lt_r (lo := 1) (nle h_123) rc_0 ra5 (by decide)
          refine g_ldc2 C kl_128 dX12_spelt_83 ?_
          refine g_lload C 0 dX12_spelt_86 rfl ?_
          refine g_lmulE C dX12_spelt_88 (fun y_133 hy_133 => ?_)
          refine g_iload C 6 dX12_spelt_89 rfl ?_
          obtain ⟨y_134, hy_134⟩ : ∃ z, Int32.toInt64 a5 = z := ⟨_, rfl⟩
          refine g_i2l C (v := y_134) dX12_spelt_91 hy_134 ?_
          refine g_laddE C dX12_spelt_92 (fun y_135 hy_135 => ?_)
          refine g_ldc2 C kl_130 dX12_spelt_93 ?_
          refine g_lsubE C dX12_spelt_96 (fun y_136 hy_136 => ?_)
          refine g_lstore C dX12_spelt_97 (by decide) (lo2 := [(7, .long y_136), (0, .int a0), (1, .int a1), (2, .int a2), (3, .int a3), (4, .int a4), (5, .int a5), (6, .int a6)]) rfl ?_
          refine g_iload C 7 dX12_spelt_99 rfl ?_
          refine g_if_le C (tgt := 120) dX12_spelt_101 (by decide) (fun h_137 => ?_) (fun h_137 => ?_)
          · skip
            have r_138 := le_l (h_137) ra6 rc_0
            refine g_lload C 0 dX12_spelt_120 rfl ?_
            exact g_lret (r := y_136) B K rfl ⟨rfl, rfl, (by simp only [spl, hy_1, hy_2, hy_3, hy_4, hy_5, hy_6, h_7, (nle h_7), hy_115, hy_116, hy_117, hy_118, h_119, h_121, h_123, (nle h_123), hy_133, hy_134, hy_135, hy_136, h_137, if_true, if_false])⟩ dX12_spelt_122
          · skip
            have r_139 := lt_r (lo := 1) (nle h_137) rc_0 ra6 (by decide)
            refine g_ldc2 C kl_128 dX12_spelt_104 ?_
            refine g_lload C 0 dX12_spelt_107 rfl ?_
            refine g_lmulE C dX12_spelt_109 (fun y_140 hy_140 => ?_)
            refine g_iload C 7 dX12_spelt_110 rfl ?_
            obtain ⟨y_141, hy_141⟩ : ∃ z, Int32.toInt64 a6 = z := ⟨_, rfl⟩
            refine g_i2l C (v := y_141) dX12_spelt_112 hy_141 ?_
            refine g_laddE C dX12_spelt_113 (fun y_142 hy_142 => ?_)
            refine g_ldc2 C kl_130 dX12_spelt_114 ?_
            refine g_lsubE C dX12_spelt_117 (fun y_143 hy_143 => ?_)
            refine g_lstore C dX12_spelt_118 (by decide) (lo2 := [(7, .long y_143), (0, .int a0), (1, .int a1), (2, .int a2), (3, .int a3), (4, .int a4), (5, .int a5), (6, .int a6)]) rfl ?_
            refine g_lload C 0 dX12_spelt_120 rfl ?_
            exact g_lret (r := y_143) B K rfl ⟨rfl, rfl, (by simp only [spl, hy_1, hy_2, hy_3, hy_4, hy_5, hy_6, h_7, (nle h_7), hy_115, hy_116, hy_117, hy_118, h_119, h_121, h_123, (nle h_123), hy_133, hy_134, hy_135, hy_136, h_137, (nle h_137), hy_140, hy_141, hy_142, hy_143, if_true, if_false])⟩ dX12_spelt_122
      · skip
        have r_144 := lt_r (lo := 1) (nle h_121) rc_0 ra4 (by decide)
        refine g_ldc2 C kl_128 dX12_spelt_62 ?_
        refine g_lload C 0 dX12_spelt_65 rfl ?_
        refine g_lmulE C dX12_spelt_67 (fun y_145 hy_145 => ?_)
        refine g_iload C 5 dX12_spelt_68 rfl ?_
        obtain ⟨y_146, hy_146⟩ : ∃ z, Int32.toInt64 a4 = z := ⟨_, rfl⟩
        refine g_i2l C (v := y_146) dX12_spelt_70 hy_146 ?_
        refine g_laddE C dX12_spelt_71 (fun y_147 hy_147 => ?_)
        refine g_ldc2 C kl_130 dX12_spelt_72 ?_
        refine g_lsubE C dX12_spelt_75 (fun y_148 hy_148 => ?_)
        refine g_lstore C dX12_spelt_76 (by decide) (lo2 := [(7, .long y_148), (0, .int a0), (1, .int a1), (2, .int a2), (3, .int a3), (4, .int a4), (5, .int a5), (6, .int a6)]) rfl ?_
        refine g_iload C 6 dX12_spelt_78 rfl ?_
        refine g_if_le C (tgt := 99) dX12_spelt_80 (by decide) (fun h_149 => ?_) (fun h_149 => ?_)
        · skip
          have r_150 := le_l (h_149) ra5 rc_0
          refine g_iload C 7 dX12_spelt_99 rfl ?_
          refine g_if_le C (tgt := 120) dX12_spelt_101 (by decide) (fun h_151 => ?_) (fun h_151 => ?_)
          · skip
            have r_152 := le_l (h_151) ra6 rc_0
            refine g_lload C 0 dX12_spelt_120 rfl ?_
            exact g_lret (r := y_148) B K rfl ⟨rfl, rfl, (by simp only [spl, hy_1, hy_2, hy_3, hy_4, hy_5, hy_6, h_7, (nle h_7), hy_115, hy_116, hy_117, hy_118, h_119, h_121, (nle h_121), hy_145, hy_146, hy_147, hy_148, h_149, h_151, if_true, if_false])⟩ dX12_spelt_122
          · skip
            have r_153 := lt_r (lo := 1) (nle h_151) rc_0 ra6 (by decide)
            refine g_ldc2 C kl_128 dX12_spelt_104 ?_
            refine g_lload C 0 dX12_spelt_107 rfl ?_
            refine g_lmulE C dX12_spelt_109 (fun y_154 hy_154 => ?_)
            refine g_iload C 7 dX12_spelt_110 rfl ?_
            obtain ⟨y_155, hy_155⟩ : ∃ z, Int32.toInt64 a6 = z := ⟨_, rfl⟩
            refine g_i2l C (v := y_155) dX12_spelt_112 hy_155 ?_
            refine g_laddE C dX12_spelt_113 (fun y_156 hy_156 => ?_)
            refine g_ldc2 C kl_130 dX12_spelt_114 ?_
            refine g_lsubE C dX12_spelt_117 (fun y_157 hy_157 => ?_)
            refine g_lstore C dX12_spelt_118 (by decide) (lo2 := [(7, .long y_157), (0, .int a0), (1, .int a1), (2, .int a2), (3, .int a3), (4, .int a4), (5, .int a5), (6, .int a6)]) rfl ?_
            refine g_lload C 0 dX12_spelt_120 rfl ?_
            exact g_lret (r := y_157) B K rfl ⟨rfl, rfl, (by simp only [spl, hy_1, hy_2, hy_3, hy_4, hy_5, hy_6, h_7, (nle h_7), hy_115, hy_116, hy_117, hy_118, h_119, h_121, (nle h_121), hy_145, hy_146, hy_147, hy_148, h_149, h_151, (nle h_151), hy_154, hy_155, hy_156, hy_157, if_true, if_false])⟩ dX12_spelt_122
        · skip
          have r_158 := lt_r (lo := 1) (nle h_149) rc_0 ra5 (by decide)
          refine g_ldc2 C kl_128 dX12_spelt_83 ?_
          refine g_lload C 0 dX12_spelt_86 rfl ?_
          refine g_lmulE C dX12_spelt_88 (fun y_159 hy_159 => ?_)
          refine g_iload C 6 dX12_spelt_89 rfl ?_
          obtain ⟨y_160, hy_160⟩ : ∃ z, Int32.toInt64 a5 = z := ⟨_, rfl⟩
          refine g_i2l C (v := y_160) dX12_spelt_91 hy_160 ?_
          refine g_laddE C dX12_spelt_92 (fun y_161 hy_161 => ?_)
          refine g_ldc2 C kl_130 dX12_spelt_93 ?_
          refine g_lsubE C dX12_spelt_96 (fun y_162 hy_162 => ?_)
          refine g_lstore C dX12_spelt_97 (by decide) (lo2 := [(7, .long y_162), (0, .int a0), (1, .int a1), (2, .int a2), (3, .int a3), (4, .int a4), (5, .int a5), (6, .int a6)]) rfl ?_
          refine g_iload C 7 dX12_spelt_99 rfl ?_
          refine g_if_le C (tgt := 120) dX12_spelt_101 (by decide) (fun h_163 => ?_) (fun h_163 => ?_)
          · skip
            have r_164 := le_l (h_163) ra6 rc_0
            refine g_lload C 0 dX12_spelt_120 rfl ?_
            exact g_lret (r := y_162) B K rfl ⟨rfl, rfl, (by simp only [spl, hy_1, hy_2, hy_3, hy_4, hy_5, hy_6, h_7, (nle h_7), hy_115, hy_116, hy_117, hy_118, h_119, h_121, (nle h_121), hy_145, hy_146, hy_147, hy_148, h_149, (nle h_149), hy_159, hy_160, hy_161, hy_162, h_163, if_true, if_false])⟩ dX12_spelt_122
          · skip
            have r_165 := lt_r (lo := 1) (nle h_163) rc_0 ra6 (by decide)
            refine g_ldc2 C kl_128 dX12_spelt_104 ?_
            refine g_lload C 0 dX12_spelt_107 rfl ?_
            refine g_lmulE C dX12_spelt_109 (fun y_166 hy_166 => ?_)
            refine g_iload C 7 dX12_spelt_110 rfl ?_
            obtain ⟨y_167, hy_167⟩ : ∃ z, Int32.toInt64 a6 = z := ⟨_, rfl⟩
            refine g_i2l C (v := y_167) dX12_spelt_112 hy_167 ?_
            refine g_laddE C dX12_spelt_113 (fun y_168 hy_168 => ?_)
            refine g_ldc2 C kl_130 dX12_spelt_114 ?_
            refine g_lsubE C dX12_spelt_117 (fun y_169 hy_169 => ?_)
            refine g_lstore C dX12_spelt_118 (by decide) (lo2 := [(7, .long y_169), (0, .int a0), (1, .int a1), (2, .int a2), (3, .int a3), (4, .int a4), (5, .int a5), (6, .int a6)]) rfl ?_
            refine g_lload C 0 dX12_spelt_120 rfl ?_
            exact g_lret (r := y_169) B K rfl ⟨rfl, rfl, (by simp only [spl, hy_1, hy_2, hy_3, hy_4, hy_5, hy_6, h_7, (nle h_7), hy_115, hy_116, hy_117, hy_118, h_119, h_121, (nle h_121), hy_145, hy_146, hy_147, hy_148, h_149, (nle h_149), hy_159, hy_160, hy_161, hy_162, h_163, (nle h_163), hy_166, hy_167, hy_168, hy_169, if_true, if_false])⟩ dX12_spelt_122
    · skip
      have r_170 := lt_r (lo := 1) (nle h_119) rc_0 ra3 (by decide)
      refine g_ldc2 C kl_128 dX12_spelt_42 ?_
      refine g_lload C 0 dX12_spelt_45 rfl ?_
      refine g_lmulE C dX12_spelt_47 (fun y_171 hy_171 => ?_)
      refine g_iload_n C 4 dX12_spelt_48 rfl rfl ?_
      obtain ⟨y_172, hy_172⟩ : ∃ z, Int32.toInt64 a3 = z := ⟨_, rfl⟩
      refine g_i2l C (v := y_172) dX12_spelt_49 hy_172 ?_
      refine g_laddE C dX12_spelt_50 (fun y_173 hy_173 => ?_)
      refine g_ldc2 C kl_130 dX12_spelt_51 ?_
      refine g_lsubE C dX12_spelt_54 (fun y_174 hy_174 => ?_)
      refine g_lstore C dX12_spelt_55 (by decide) (lo2 := [(7, .long y_174), (0, .int a0), (1, .int a1), (2, .int a2), (3, .int a3), (4, .int a4), (5, .int a5), (6, .int a6)]) rfl ?_
      refine g_iload C 5 dX12_spelt_57 rfl ?_
      refine g_if_le C (tgt := 78) dX12_spelt_59 (by decide) (fun h_175 => ?_) (fun h_175 => ?_)
      · skip
        have r_176 := le_l (h_175) ra4 rc_0
        refine g_iload C 6 dX12_spelt_78 rfl ?_
        refine g_if_le C (tgt := 99) dX12_spelt_80 (by decide) (fun h_177 => ?_) (fun h_177 => ?_)
        · skip
          have r_178 := le_l (h_177) ra5 rc_0
          refine g_iload C 7 dX12_spelt_99 rfl ?_
          refine g_if_le C (tgt := 120) dX12_spelt_101 (by decide) (fun h_179 => ?_) (fun h_179 => ?_)
          · skip
            have r_180 := le_l (h_179) ra6 rc_0
            refine g_lload C 0 dX12_spelt_120 rfl ?_
            exact g_lret (r := y_174) B K rfl ⟨rfl, rfl, (by simp only [spl, hy_1, hy_2, hy_3, hy_4, hy_5, hy_6, h_7, (nle h_7), hy_115, hy_116, hy_117, hy_118, h_119, (nle h_119), hy_171, hy_172, hy_173, hy_174, h_175, h_177, h_179, if_true, if_false])⟩ dX12_spelt_122
          · skip
            have r_181 := lt_r (lo := 1) (nle h_179) rc_0 ra6 (by decide)
            refine g_ldc2 C kl_128 dX12_spelt_104 ?_
            refine g_lload C 0 dX12_spelt_107 rfl ?_
            refine g_lmulE C dX12_spelt_109 (fun y_182 hy_182 => ?_)
            refine g_iload C 7 dX12_spelt_110 rfl ?_
            obtain ⟨y_183, hy_183⟩ : ∃ z, Int32.toInt64 a6 = z := ⟨_, rfl⟩
            refine g_i2l C (v := y_183) dX12_spelt_112 hy_183 ?_
            refine g_laddE C dX12_spelt_113 (fun y_184 hy_184 => ?_)
            refine g_ldc2 C kl_130 dX12_spelt_114 ?_
            refine g_lsubE C dX12_spelt_117 (fun y_185 hy_185 => ?_)
            refine g_lstore C dX12_spelt_118 (by decide) (lo2 := [(7, .long y_185), (0, .int a0), (1, .int a1), (2, .int a2), (3, .int a3), (4, .int a4), (5, .int a5), (6, .int a6)]) rfl ?_
            refine g_lload C 0 dX12_spelt_120 rfl ?_
            exact g_lret (r := y_185) B K rfl ⟨rfl, rfl, (by simp only [spl, hy_1, hy_2, hy_3, hy_4, hy_5, hy_6, h_7, (nle h_7), hy_115, hy_116, hy_117, hy_118, h_119, (nle h_119), hy_171, hy_172, hy_173, hy_174, h_175, h_177, h_179, (nle h_179), hy_182, hy_183, hy_184, hy_185, if_true, if_false])⟩ dX12_spelt_122
        · skip
          have r_186 := lt_r (lo := 1) (nle h_177) rc_0 ra5 (by decide)
          refine g_ldc2 C kl_128 dX12_spelt_83 ?_
          refine g_lload C 0 dX12_spelt_86 rfl ?_
          refine g_lmulE C dX12_spelt_88 (fun y_187 hy_187 => ?_)
          refine g_iload C 6 dX12_spelt_89 rfl ?_
          obtain ⟨y_188, hy_188⟩ : ∃ z, Int32.toInt64 a5 = z := ⟨_, rfl⟩
          refine g_i2l C (v := y_188) dX12_spelt_91 hy_188 ?_
          refine g_laddE C dX12_spelt_92 (fun y_189 hy_189 => ?_)
          refine g_ldc2 C kl_130 dX12_spelt_93 ?_
          refine g_lsubE C dX12_spelt_96 (fun y_190 hy_190 => ?_)
          refine g_lstore C dX12_spelt_97 (by decide) (lo2 := [(7, .long y_190), (0, .int a0), (1, .int a1), (2, .int a2), (3, .int a3), (4, .int a4), (5, .int a5), (6, .int a6)]) rfl ?_
          refine g_iload C 7 dX12_spelt_99 rfl ?_
          refine g_if_le C (tgt := 120) dX12_spelt_101 (by decide) (fun h_191 => ?_) (fun h_191 => ?_)
          · skip
            have r_192 := le_l (h_191) ra6 rc_0
            refine g_lload C 0 dX12_spelt_120 rfl ?_
            exact g_lret (r := y_190) B K rfl ⟨rfl, rfl, (by simp only [spl, hy_1, hy_2, hy_3, hy_4, hy_5, hy_6, h_7, (nle h_7), hy_115, hy_116, hy_117, hy_118, h_119, (nle h_119), hy_171, hy_172, hy_173, hy_174, h_175, h_177, (nle h_177), hy_187, hy_188, hy_189, hy_190, h_191, if_true, if_false])⟩ dX12_spelt_122
          · skip
            have r_193 := lt_r (lo := 1) (nle h_191) rc_0 ra6 (by decide)
            refine g_ldc2 C kl_128 dX12_spelt_104 ?_
            refine g_lload C 0 dX12_spelt_107 rfl ?_
            refine g_lmulE C dX12_spelt_109 (fun y_194 hy_194 => ?_)
            refine g_iload C 7 dX12_spelt_110 rfl ?_
            obtain ⟨y_195, hy_195⟩ : ∃ z, Int32.toInt64 a6 = z := ⟨_, rfl⟩
            refine g_i2l C (v := y_195) dX12_spelt_112 hy_195 ?_
            refine g_laddE C dX12_spelt_113 (fun y_196 hy_196 => ?_)
            refine g_ldc2 C kl_130 dX12_spelt_114 ?_
            refine g_lsubE C dX12_spelt_117 (fun y_197 hy_197 => ?_)
            refine g_lstore C dX12_spelt_118 (by decide) (lo2 := [(7, .long y_197), (0, .int a0), (1, .int a1), (2, .int a2), (3, .int a3), (4, .int a4), (5, .int a5), (6, .int a6)]) rfl ?_
            refine g_lload C 0 dX12_spelt_120 rfl ?_
            exact g_lret (r := y_197) B K rfl ⟨rfl, rfl, (by simp only [spl, hy_1, hy_2, hy_3, hy_4, hy_5, hy_6, h_7, (nle h_7), hy_115, hy_116, hy_117, hy_118, h_119, (nle h_119), hy_171, hy_172, hy_173, hy_174, h_175, h_177, (nle h_177), hy_187, hy_188, hy_189, hy_190, h_191, (nle h_191), hy_194, hy_195, hy_196, hy_197, if_true, if_false])⟩ dX12_spelt_122
      · skip
        have r_198 := lt_r (lo := 1) (nle h_175) rc_0 ra4 (by decide)
        refine g_ldc2 C kl_128 dX12_spelt_62 ?_
        refine g_lload C 0 dX12_spelt_65 rfl ?_
        refine g_lmulE C dX12_spelt_67 (fun y_199 hy_199 => ?_)
        refine g_iload C 5 dX12_spelt_68 rfl ?_
        obtain ⟨y_200, hy_200⟩ : ∃ z, Int32.toInt64 a4 = z := ⟨_, rfl⟩
        refine g_i2l C (v := y_200) dX12_spelt_70 hy_200 ?_
        refine g_laddE C dX12_spelt_71 (fun y_201 hy_201 => ?_)
        refine g_ldc2 C kl_130 dX12_spelt_72 ?_
        refine g_lsubE C dX12_spelt_75 (fun y_202 hy_202 => ?_)
        refine g_lstore C dX12_spelt_76 (by decide) (lo2 := [(7, .long y_202), (0, .int a0), (1, .int a1), (2, .int a2), (3, .int a3), (4, .int a4), (5, .int a5), (6, .int a6)]) rfl ?_
        refine g_iload C 6 dX12_spelt_78 rfl ?_
        refine g_if_le C (tgt := 99) dX12_spelt_80 (by decide) (fun h_203 => ?_) (fun h_203 => ?_)
        · skip
          have r_204 := le_l (h_203) ra5 rc_0
          refine g_iload C 7 dX12_spelt_99 rfl ?_
          refine g_if_le C (tgt := 120) dX12_spelt_101 (by decide) (fun h_205 => ?_) (fun h_205 => ?_)
          · skip
            have r_206 := le_l (h_205) ra6 rc_0
            refine g_lload C 0 dX12_spelt_120 rfl ?_
            exact g_lret (r := y_202) B K rfl ⟨rfl, rfl, (by simp only [spl, hy_1, hy_2, hy_3, hy_4, hy_5, hy_6, h_7, (nle h_7), hy_115, hy_116, hy_117, hy_118, h_119, (nle h_119), hy_171, hy_172, hy_173, hy_174, h_175, (nle h_175), hy_199, hy_200, hy_201, hy_202, h_203, h_205, if_true, if_false])⟩ dX12_spelt_122
          · skip
            have r_207 := lt_r (lo := 1) (nle h_205) rc_0 ra6 (by decide)
            refine g_ldc2 C kl_128 dX12_spelt_104 ?_
            refine g_lload C 0 dX12_spelt_107 rfl ?_
            refine g_lmulE C dX12_spelt_109 (fun y_208 hy_208 => ?_)
            refine g_iload C 7 dX12_spelt_110 rfl ?_
            obtain ⟨y_209, hy_209⟩ : ∃ z, Int32.toInt64 a6 = z := ⟨_, rfl⟩
            refine g_i2l C (v := y_209) dX12_spelt_112 hy_209 ?_
            refine g_laddE C dX12_spelt_113 (fun y_210 hy_210 => ?_)
            refine g_ldc2 C kl_130 dX12_spelt_114 ?_
            refine g_lsubE C dX12_spelt_117 (fun y_211 hy_211 => ?_)
            refine g_lstore C dX12_spelt_118 (by decide) (lo2 := [(7, .long y_211), (0, .int a0), (1, .int a1), (2, .int a2), (3, .int a3), (4, .int a4), (5, .int a5), (6, .int a6)]) rfl ?_
            refine g_lload C 0 dX12_spelt_120 rfl ?_
            exact g_lret (r := y_211) B K rfl ⟨rfl, rfl, (by simp only [spl, hy_1, hy_2, hy_3, hy_4, hy_5, hy_6, h_7, (nle h_7), hy_115, hy_116, hy_117, hy_118, h_119, (nle h_119), hy_171, hy_172, hy_173, hy_174, h_175, (nle h_175), hy_199, hy_200, hy_201, hy_202, h_203, h_205, (nle h_205), hy_208, hy_209, hy_210, hy_211, if_true, if_false])⟩ dX12_spelt_122
        · skip
          have r_212 := lt_r (lo := 1) (nle h_203) rc_0 ra5 (by decide)
          refine g_ldc2 C kl_128 dX12_spelt_83 ?_
          refine g_lload C 0 dX12_spelt_86 rfl ?_
          refine g_lmulE C dX12_spelt_88 (fun y_213 hy_213 => ?_)
          refine g_iload C 6 dX12_spelt_89 rfl ?_
          obtain ⟨y_214, hy_214⟩ : ∃ z, Int32.toInt64 a5 = z := ⟨_, rfl⟩
          refine g_i2l C (v := y_214) dX12_spelt_91 hy_214 ?_
          refine g_laddE C dX12_spelt_92 (fun y_215 hy_215 => ?_)
          refine g_ldc2 C kl_130 dX12_spelt_93 ?_
          refine g_lsubE C dX12_spelt_96 (fun y_216 hy_216 => ?_)
          refine g_lstore C dX12_spelt_97 (by decide) (lo2 := [(7, .long y_216), (0, .int a0), (1, .int a1), (2, .int a2), (3, .int a3), (4, .int a4), (5, .int a5), (6, .int a6)]) rfl ?_
          refine g_iload C 7 dX12_spelt_99 rfl ?_
          refine g_if_le C (tgt := 120) dX12_spelt_101 (by decide) (fun h_217 => ?_) (fun h_217 => ?_)
          · skip
            have r_218 := le_l (h_217) ra6 rc_0
            refine g_lload C 0 dX12_spelt_120 rfl ?_
            exact g_lret (r := y_216) B K rfl ⟨rfl, rfl, (by simp only [spl, hy_1, hy_2, hy_3, hy_4, hy_5, hy_6, h_7, (nle h_7), hy_115, hy_116, hy_117, hy_118, h_119, (nle h_119), hy_171, hy_172, hy_173, hy_174, h_175, (nle h_175), hy_199, hy_200, hy_201, hy_202, h_203, (nle h_203), hy_213, hy_214, hy_215, hy_216, h_217, if_true, if_false])⟩ dX12_spelt_122
          · skip
            have r_219 := lt_r (lo := 1) (nle h_217) rc_0 ra6 (by decide)
            refine g_ldc2 C kl_128 dX12_spelt_104 ?_
            refine g_lload C 0 dX12_spelt_107 rfl ?_
            refine g_lmulE C dX12_spelt_109 (fun y_220 hy_220 => ?_)
            refine g_iload C 7 dX12_spelt_110 rfl ?_
            obtain ⟨y_221, hy_221⟩ : ∃ z, Int32.toInt64 a6 = z := ⟨_, rfl⟩
            refine g_i2l C (v := y_221) dX12_spelt_112 hy_221 ?_
            refine g_laddE C dX12_spelt_113 (fun y_222 hy_222 => ?_)
            refine g_ldc2 C kl_130 dX12_spelt_114 ?_
            refine g_lsubE C dX12_spelt_117 (fun y_223 hy_223 => ?_)
            refine g_lstore C dX12_spelt_118 (by decide) (lo2 := [(7, .long y_223), (0, .int a0), (1, .int a1), (2, .int a2), (3, .int a3), (4, .int a4), (5, .int a5), (6, .int a6)]) rfl ?_
            refine g_lload C 0 dX12_spelt_120 rfl ?_
            exact g_lret (r := y_223) B K rfl ⟨rfl, rfl, (by simp only [spl, hy_1, hy_2, hy_3, hy_4, hy_5, hy_6, h_7, (nle h_7), hy_115, hy_116, hy_117, hy_118, h_119, (nle h_119), hy_171, hy_172, hy_173, hy_174, h_175, (nle h_175), hy_199, hy_200, hy_201, hy_202, h_203, (nle h_203), hy_213, hy_214, hy_215, hy_216, h_217, (nle h_217), hy_220, hy_221, hy_222, hy_223, if_true, if_false])⟩ dX12_spelt_122
set_option maxRecDepth 100000 in
set_option maxHeartbeats 8000000 in
theorem c_X12_wordOf {l : Launch} {D : va_G} {cy : Nat → ClassId} {L : List Nat} {κ ln : Nat → Nat} {R : Nat → Nat → Option Nat} {I : Nat → Nat → Int32} {J : Nat → Nat → Int64} {ow : Nat → Nat × Nat} (W9 : ∀ a ∈ L, Shp L κ ln R ow a) (a0 : Int32) (ra0 : Rg 0 27 a0) (hU : Iw L κ R ow I) : CtL l yX12_wordOf cX12_wordOf 1 (some .long) { frames := 1, cells := 0, slots := 0, locals := 28 } D cy L κ ln R I J [.int a0] (fun r I2 J2 => I = I2 ∧ J = J2 ∧ (r = wof a0)) := by
  refine CtL.of (by decide +kernel) (Nat.le_of_ble_eq_true rfl) ?_
  intro p e s m below meth c B K
  have C := B.1
  refine g_lo (is := [0]) (lo2 := [(0, .int a0)]) rfl ?_
  refine g_iload_n C 0 dX12_wordOf_0 rfl rfl ?_
  by_cases c_1 : a0.toInt = 0
  · skip
    have r_2 := rg_of (a := 0) (b := 0) 0 c_1 (by decide) (by decide)
    refine g_tableIn C (tgt := 124) dX12_wordOf_1 (by omega) (by omega) (off := 123) (by rw [c_1]; rfl) (by decide) ?_
    refine g_bipush C (v := 112) dX12_wordOf_124 (by decide) ?_
    refine g_bipush C (v := 101) dX12_wordOf_126 (by decide) ?_
    refine g_bipush C (v := 114) dX12_wordOf_128 (by decide) ?_
    refine g_bipush C (v := 115) dX12_wordOf_130 (by decide) ?_
    refine g_bipush C (v := 111) dX12_wordOf_132 (by decide) ?_
    refine g_bipush C (v := 110) dX12_wordOf_134 (by decide) ?_
    refine g_iconst C (v := 0) dX12_wordOf_136 (by decide) ?_
    refine g_callSL C K (c_X12_spelt W9 112 101 114 115 111 110 0 (rg_w rc_112 (by decide) (by decide)) (rg_w rc_101 (by decide) (by decide)) (rg_w rc_114 (by decide) (by decide)) (rg_w rc_115 (by decide) (by decide)) (rg_w rc_111 (by decide) (by decide)) (rg_w rc_110 (by decide) (by decide)) (rg_w rc_0 (by decide) (by decide)) hU) s_12_132 rfl ⟨rfl, rfl⟩ ⟨Nat.le_of_ble_eq_true rfl, Nat.le_of_ble_eq_true rfl⟩ (Nat.le_of_ble_eq_true rfl) ⟨Nat.le_of_ble_eq_true rfl, Nat.le_of_ble_eq_true rfl⟩ dX12_wordOf_137 rfl (st := []) (fun x_3 I_4 J_5 h_6 => ?_)
    obtain ⟨rfl, rfl, fx_3⟩ := h_6
    exact g_lret (r := x_3) B K rfl ⟨rfl, rfl, (by simp only [wof, (eq_true c_1), if_true, if_false])⟩ dX12_wordOf_140
  by_cases c_7 : a0.toInt = 1
  · skip
    have r_8 := rg_of (a := 1) (b := 1) 1 c_7 (by decide) (by decide)
    refine g_tableIn C (tgt := 141) dX12_wordOf_1 (by omega) (by omega) (off := 140) (by rw [c_7]; rfl) (by decide) ?_
    refine g_bipush C (v := 100) dX12_wordOf_141 (by decide) ?_
    refine g_bipush C (v := 105) dX12_wordOf_143 (by decide) ?_
    refine g_bipush C (v := 115) dX12_wordOf_145 (by decide) ?_
    refine g_bipush C (v := 104) dX12_wordOf_147 (by decide) ?_
    refine g_iconst C (v := 0) dX12_wordOf_149 (by decide) ?_
    refine g_iconst C (v := 0) dX12_wordOf_150 (by decide) ?_
    refine g_iconst C (v := 0) dX12_wordOf_151 (by decide) ?_
    refine g_callSL C K (c_X12_spelt W9 100 105 115 104 0 0 0 (rg_w rc_100 (by decide) (by decide)) (rg_w rc_105 (by decide) (by decide)) (rg_w rc_115 (by decide) (by decide)) (rg_w rc_104 (by decide) (by decide)) (rg_w rc_0 (by decide) (by decide)) (rg_w rc_0 (by decide) (by decide)) (rg_w rc_0 (by decide) (by decide)) hU) s_12_132 rfl ⟨rfl, rfl⟩ ⟨Nat.le_of_ble_eq_true rfl, Nat.le_of_ble_eq_true rfl⟩ (Nat.le_of_ble_eq_true rfl) ⟨Nat.le_of_ble_eq_true rfl, Nat.le_of_ble_eq_true rfl⟩ dX12_wordOf_152 rfl (st := []) (fun x_9 I_10 J_11 h_12 => ?_)
    obtain ⟨rfl, rfl, fx_9⟩ := h_12
    exact g_lret (r := x_9) B K rfl ⟨rfl, rfl, (by simp only [wof, c_1, (eq_true c_7), if_true, if_false])⟩ dX12_wordOf_155
  by_cases c_13 : a0.toInt = 2
  · skip
    have r_14 := rg_of (a := 2) (b := 2) 2 c_13 (by decide) (by decide)
    refine g_tableIn C (tgt := 156) dX12_wordOf_1 (by omega) (by omega) (off := 155) (by rw [c_13]; rfl) (by decide) ?_
    refine g_bipush C (v := 115) dX12_wordOf_156 (by decide) ?_
    refine g_bipush C (v := 112) dX12_wordOf_158 (by decide) ?_
    refine g_bipush C (v := 111) dX12_wordOf_160 (by decide) ?_
    refine g_bipush C (v := 105) dX12_wordOf_162 (by decide) ?_
    refine g_bipush C (v := 108) dX12_wordOf_164 (by decide) ?_
    refine g_bipush C (v := 115) dX12_wordOf_166 (by decide) ?_
    refine g_iconst C (v := 0) dX12_wordOf_168 (by decide) ?_
    refine g_callSL C K (c_X12_spelt W9 115 112 111 105 108 115 0 (rg_w rc_115 (by decide) (by decide)) (rg_w rc_112 (by decide) (by decide)) (rg_w rc_111 (by decide) (by decide)) (rg_w rc_105 (by decide) (by decide)) (rg_w rc_108 (by decide) (by decide)) (rg_w rc_115 (by decide) (by decide)) (rg_w rc_0 (by decide) (by decide)) hU) s_12_132 rfl ⟨rfl, rfl⟩ ⟨Nat.le_of_ble_eq_true rfl, Nat.le_of_ble_eq_true rfl⟩ (Nat.le_of_ble_eq_true rfl) ⟨Nat.le_of_ble_eq_true rfl, Nat.le_of_ble_eq_true rfl⟩ dX12_wordOf_169 rfl (st := []) (fun x_15 I_16 J_17 h_18 => ?_)
    obtain ⟨rfl, rfl, fx_15⟩ := h_18
    exact g_lret (r := x_15) B K rfl ⟨rfl, rfl, (by simp only [wof, c_1, c_7, (eq_true c_13), if_true, if_false])⟩ dX12_wordOf_172
  by_cases c_19 : a0.toInt = 3
  · skip
    have r_20 := rg_of (a := 3) (b := 3) 3 c_19 (by decide) (by decide)
    refine g_tableIn C (tgt := 173) dX12_wordOf_1 (by omega) (by omega) (off := 172) (by rw [c_19]; rfl) (by decide) ?_
    refine g_bipush C (v := 112) dX12_wordOf_173 (by decide) ?_
    refine g_bipush C (v := 108) dX12_wordOf_175 (by decide) ?_
    refine g_bipush C (v := 97) dX12_wordOf_177 (by decide) ?_
    refine g_bipush C (v := 116) dX12_wordOf_179 (by decide) ?_
    refine g_bipush C (v := 101) dX12_wordOf_181 (by decide) ?_
    refine g_iconst C (v := 0) dX12_wordOf_183 (by decide) ?_
    refine g_iconst C (v := 0) dX12_wordOf_184 (by decide) ?_
    refine g_callSL C K (c_X12_spelt W9 112 108 97 116 101 0 0 (rg_w rc_112 (by decide) (by decide)) (rg_w rc_108 (by decide) (by decide)) (rg_w rc_97 (by decide) (by decide)) (rg_w rc_116 (by decide) (by decide)) (rg_w rc_101 (by decide) (by decide)) (rg_w rc_0 (by decide) (by decide)) (rg_w rc_0 (by decide) (by decide)) hU) s_12_132 rfl ⟨rfl, rfl⟩ ⟨Nat.le_of_ble_eq_true rfl, Nat.le_of_ble_eq_true rfl⟩ (Nat.le_of_ble_eq_true rfl) ⟨Nat.le_of_ble_eq_true rfl, Nat.le_of_ble_eq_true rfl⟩ dX12_wordOf_185 rfl (st := []) (fun x_21 I_22 J_23 h_24 => ?_)
    obtain ⟨rfl, rfl, fx_21⟩ := h_24
    exact g_lret (r := x_21) B K rfl ⟨rfl, rfl, (by simp only [wof, c_1, c_7, c_13, (eq_true c_19), if_true, if_false])⟩ dX12_wordOf_188
  by_cases c_25 : a0.toInt = 4
  · skip
    have r_26 := rg_of (a := 4) (b := 4) 4 c_25 (by decide) (by decide)
    refine g_tableIn C (tgt := 189) dX12_wordOf_1 (by omega) (by omega) (off := 188) (by rw [c_25]; rfl) (by decide) ?_
    refine g_bipush C (v := 108) dX12_wordOf_189 (by decide) ?_
    refine g_bipush C (v := 97) dX12_wordOf_191 (by decide) ?_
    refine g_bipush C (v := 119) dX12_wordOf_193 (by decide) ?_
    refine g_iconst C (v := 0) dX12_wordOf_195 (by decide) ?_
    refine g_iconst C (v := 0) dX12_wordOf_196 (by decide) ?_
    refine g_iconst C (v := 0) dX12_wordOf_197 (by decide) ?_
    refine g_iconst C (v := 0) dX12_wordOf_198 (by decide) ?_
    refine g_callSL C K (c_X12_spelt W9 108 97 119 0 0 0 0 (rg_w rc_108 (by decide) (by decide)) (rg_w rc_97 (by decide) (by decide)) (rg_w rc_119 (by decide) (by decide)) (rg_w rc_0 (by decide) (by decide)) (rg_w rc_0 (by decide) (by decide)) (rg_w rc_0 (by decide) (by decide)) (rg_w rc_0 (by decide) (by decide)) hU) s_12_132 rfl ⟨rfl, rfl⟩ ⟨Nat.le_of_ble_eq_true rfl, Nat.le_of_ble_eq_true rfl⟩ (Nat.le_of_ble_eq_true rfl) ⟨Nat.le_of_ble_eq_true rfl, Nat.le_of_ble_eq_true rfl⟩ dX12_wordOf_199 rfl (st := []) (fun x_27 I_28 J_29 h_30 => ?_)
    obtain ⟨rfl, rfl, fx_27⟩ := h_30
    exact g_lret (r := x_27) B K rfl ⟨rfl, rfl, (by simp only [wof, c_1, c_7, c_13, c_19, (eq_true c_25), if_true, if_false])⟩ dX12_wordOf_202
  by_cases c_31 : a0.toInt = 5
  · skip
    have r_32 := rg_of (a := 5) (b := 5) 5 c_31 (by decide) (by decide)
    refine g_tableIn C (tgt := 203) dX12_wordOf_1 (by omega) (by omega) (off := 202) (by rw [c_31]; rfl) (by decide) ?_
    refine g_bipush C (v := 110) dX12_wordOf_203 (by decide) ?_
    refine g_bipush C (v := 101) dX12_wordOf_205 (by decide) ?_
    refine g_bipush C (v := 120) dX12_wordOf_207 (by decide) ?_
    refine g_bipush C (v := 116) dX12_wordOf_209 (by decide) ?_
    refine g_iconst C (v := 0) dX12_wordOf_211 (by decide) ?_
    refine g_iconst C (v := 0) dX12_wordOf_212 (by decide) ?_
    refine g_iconst C (v := 0) dX12_wordOf_213 (by decide) ?_
    refine g_callSL C K (c_X12_spelt W9 110 101 120 116 0 0 0 (rg_w rc_110 (by decide) (by decide)) (rg_w rc_101 (by decide) (by decide)) (rg_w rc_120 (by decide) (by decide)) (rg_w rc_116 (by decide) (by decide)) (rg_w rc_0 (by decide) (by decide)) (rg_w rc_0 (by decide) (by decide)) (rg_w rc_0 (by decide) (by decide)) hU) s_12_132 rfl ⟨rfl, rfl⟩ ⟨Nat.le_of_ble_eq_true rfl, Nat.le_of_ble_eq_true rfl⟩ (Nat.le_of_ble_eq_true rfl) ⟨Nat.le_of_ble_eq_true rfl, Nat.le_of_ble_eq_true rfl⟩ dX12_wordOf_214 rfl (st := []) (fun x_33 I_34 J_35 h_36 => ?_)
    obtain ⟨rfl, rfl, fx_33⟩ := h_36
    exact g_lret (r := x_33) B K rfl ⟨rfl, rfl, (by simp only [wof, c_1, c_7, c_13, c_19, c_25, (eq_true c_31), if_true, if_false])⟩ dX12_wordOf_217
  by_cases c_37 : a0.toInt = 6
  · skip
    have r_38 := rg_of (a := 6) (b := 6) 6 c_37 (by decide) (by decide)
    refine g_tableIn C (tgt := 218) dX12_wordOf_1 (by omega) (by omega) (off := 217) (by rw [c_37]; rfl) (by decide) ?_
    refine g_bipush C (v := 99) dX12_wordOf_218 (by decide) ?_
    refine g_bipush C (v := 104) dX12_wordOf_220 (by decide) ?_
    refine g_bipush C (v := 105) dX12_wordOf_222 (by decide) ?_
    refine g_bipush C (v := 108) dX12_wordOf_224 (by decide) ?_
    refine g_bipush C (v := 100) dX12_wordOf_226 (by decide) ?_
    refine g_iconst C (v := 0) dX12_wordOf_228 (by decide) ?_
    refine g_iconst C (v := 0) dX12_wordOf_229 (by decide) ?_
    refine g_callSL C K (c_X12_spelt W9 99 104 105 108 100 0 0 (rg_w rc_99 (by decide) (by decide)) (rg_w rc_104 (by decide) (by decide)) (rg_w rc_105 (by decide) (by decide)) (rg_w rc_108 (by decide) (by decide)) (rg_w rc_100 (by decide) (by decide)) (rg_w rc_0 (by decide) (by decide)) (rg_w rc_0 (by decide) (by decide)) hU) s_12_132 rfl ⟨rfl, rfl⟩ ⟨Nat.le_of_ble_eq_true rfl, Nat.le_of_ble_eq_true rfl⟩ (Nat.le_of_ble_eq_true rfl) ⟨Nat.le_of_ble_eq_true rfl, Nat.le_of_ble_eq_true rfl⟩ dX12_wordOf_230 rfl (st := []) (fun x_39 I_40 J_41 h_42 => ?_)
    obtain ⟨rfl, rfl, fx_39⟩ := h_42
    exact g_lret (r := x_39) B K rfl ⟨rfl, rfl, (by simp only [wof, c_1, c_7, c_13, c_19, c_25, c_31, (eq_true c_37), if_true, if_false])⟩ dX12_wordOf_233
  by_cases c_43 : a0.toInt = 7
  · skip
    have r_44 := rg_of (a := 7) (b := 7) 7 c_43 (by decide) (by decide)
    refine g_tableIn C (tgt := 234) dX12_wordOf_1 (by omega) (by omega) (off := 233) (by rw [c_43]; rfl) (by decide) ?_
    refine g_bipush C (v := 108) dX12_wordOf_234 (by decide) ?_
    refine g_bipush C (v := 101) dX12_wordOf_236 (by decide) ?_
    refine g_bipush C (v := 97) dX12_wordOf_238 (by decide) ?_
    refine g_bipush C (v := 115) dX12_wordOf_240 (by decide) ?_
    refine g_bipush C (v := 116) dX12_wordOf_242 (by decide) ?_
    refine g_iconst C (v := 0) dX12_wordOf_244 (by decide) ?_
    refine g_iconst C (v := 0) dX12_wordOf_245 (by decide) ?_
    refine g_callSL C K (c_X12_spelt W9 108 101 97 115 116 0 0 (rg_w rc_108 (by decide) (by decide)) (rg_w rc_101 (by decide) (by decide)) (rg_w rc_97 (by decide) (by decide)) (rg_w rc_115 (by decide) (by decide)) (rg_w rc_116 (by decide) (by decide)) (rg_w rc_0 (by decide) (by decide)) (rg_w rc_0 (by decide) (by decide)) hU) s_12_132 rfl ⟨rfl, rfl⟩ ⟨Nat.le_of_ble_eq_true rfl, Nat.le_of_ble_eq_true rfl⟩ (Nat.le_of_ble_eq_true rfl) ⟨Nat.le_of_ble_eq_true rfl, Nat.le_of_ble_eq_true rfl⟩ dX12_wordOf_246 rfl (st := []) (fun x_45 I_46 J_47 h_48 => ?_)
    obtain ⟨rfl, rfl, fx_45⟩ := h_48
    exact g_lret (r := x_45) B K rfl ⟨rfl, rfl, (by simp only [wof, c_1, c_7, c_13, c_19, c_25, c_31, c_37, (eq_true c_43), if_true, if_false])⟩ dX12_wordOf_249
  by_cases c_49 : a0.toInt = 8
  · skip
    have r_50 := rg_of (a := 8) (b := 8) 8 c_49 (by decide) (by decide)
    refine g_tableIn C (tgt := 250) dX12_wordOf_1 (by omega) (by omega) (off := 249) (by rw [c_49]; rfl) (by decide) ?_
    refine g_bipush C (v := 100) dX12_wordOf_250 (by decide) ?_
    refine g_bipush C (v := 111) dX12_wordOf_252 (by decide) ?_
    refine g_bipush C (v := 103) dX12_wordOf_254 (by decide) ?_
    refine g_bipush C (v := 115) dX12_wordOf_256 (by decide) ?_
    refine g_iconst C (v := 0) dX12_wordOf_258 (by decide) ?_
    refine g_iconst C (v := 0) dX12_wordOf_259 (by decide) ?_
    refine g_iconst C (v := 0) dX12_wordOf_260 (by decide) ?_
    refine g_callSL C K (c_X12_spelt W9 100 111 103 115 0 0 0 (rg_w rc_100 (by decide) (by decide)) (rg_w rc_111 (by decide) (by decide)) (rg_w rc_103 (by decide) (by decide)) (rg_w rc_115 (by decide) (by decide)) (rg_w rc_0 (by decide) (by decide)) (rg_w rc_0 (by decide) (by decide)) (rg_w rc_0 (by decide) (by decide)) hU) s_12_132 rfl ⟨rfl, rfl⟩ ⟨Nat.le_of_ble_eq_true rfl, Nat.le_of_ble_eq_true rfl⟩ (Nat.le_of_ble_eq_true rfl) ⟨Nat.le_of_ble_eq_true rfl, Nat.le_of_ble_eq_true rfl⟩ dX12_wordOf_261 rfl (st := []) (fun x_51 I_52 J_53 h_54 => ?_)
    obtain ⟨rfl, rfl, fx_51⟩ := h_54
    exact g_lret (r := x_51) B K rfl ⟨rfl, rfl, (by simp only [wof, c_1, c_7, c_13, c_19, c_25, c_31, c_37, c_43, (eq_true c_49), if_true, if_false])⟩ dX12_wordOf_264
  by_cases c_55 : a0.toInt = 9
  · skip
    have r_56 := rg_of (a := 9) (b := 9) 9 c_55 (by decide) (by decide)
    refine g_tableIn C (tgt := 265) dX12_wordOf_1 (by omega) (by omega) (off := 264) (by rw [c_55]; rfl) (by decide) ?_
    refine g_bipush C (v := 101) dX12_wordOf_265 (by decide) ?_
    refine g_bipush C (v := 97) dX12_wordOf_267 (by decide) ?_
    refine g_bipush C (v := 116) dX12_wordOf_269 (by decide) ?_
    refine g_bipush C (v := 115) dX12_wordOf_271 (by decide) ?_
    refine g_iconst C (v := 0) dX12_wordOf_273 (by decide) ?_
    refine g_iconst C (v := 0) dX12_wordOf_274 (by decide) ?_
    refine g_iconst C (v := 0) dX12_wordOf_275 (by decide) ?_
    refine g_callSL C K (c_X12_spelt W9 101 97 116 115 0 0 0 (rg_w rc_101 (by decide) (by decide)) (rg_w rc_97 (by decide) (by decide)) (rg_w rc_116 (by decide) (by decide)) (rg_w rc_115 (by decide) (by decide)) (rg_w rc_0 (by decide) (by decide)) (rg_w rc_0 (by decide) (by decide)) (rg_w rc_0 (by decide) (by decide)) hU) s_12_132 rfl ⟨rfl, rfl⟩ ⟨Nat.le_of_ble_eq_true rfl, Nat.le_of_ble_eq_true rfl⟩ (Nat.le_of_ble_eq_true rfl) ⟨Nat.le_of_ble_eq_true rfl, Nat.le_of_ble_eq_true rfl⟩ dX12_wordOf_276 rfl (st := []) (fun x_57 I_58 J_59 h_60 => ?_)
    obtain ⟨rfl, rfl, fx_57⟩ := h_60
    exact g_lret (r := x_57) B K rfl ⟨rfl, rfl, (by simp only [wof, c_1, c_7, c_13, c_19, c_25, c_31, c_37, c_43, c_49, (eq_true c_55), if_true, if_false])⟩ dX12_wordOf_279
  by_cases c_61 : a0.toInt = 10
  · skip
    have r_62 := rg_of (a := 10) (b := 10) 10 c_61 (by decide) (by decide)
    refine g_tableIn C (tgt := 280) dX12_wordOf_1 (by omega) (by omega) (off := 279) (by rw [c_61]; rfl) (by decide) ?_
    refine g_bipush C (v := 115) dX12_wordOf_280 (by decide) ?_
    refine g_bipush C (v := 101) dX12_wordOf_282 (by decide) ?_
    refine g_bipush C (v := 114) dX12_wordOf_284 (by decide) ?_
    refine g_bipush C (v := 118) dX12_wordOf_286 (by decide) ?_
    refine g_bipush C (v := 101) dX12_wordOf_288 (by decide) ?_
    refine g_bipush C (v := 100) dX12_wordOf_290 (by decide) ?_
    refine g_iconst C (v := 0) dX12_wordOf_292 (by decide) ?_
    refine g_callSL C K (c_X12_spelt W9 115 101 114 118 101 100 0 (rg_w rc_115 (by decide) (by decide)) (rg_w rc_101 (by decide) (by decide)) (rg_w rc_114 (by decide) (by decide)) (rg_w rc_118 (by decide) (by decide)) (rg_w rc_101 (by decide) (by decide)) (rg_w rc_100 (by decide) (by decide)) (rg_w rc_0 (by decide) (by decide)) hU) s_12_132 rfl ⟨rfl, rfl⟩ ⟨Nat.le_of_ble_eq_true rfl, Nat.le_of_ble_eq_true rfl⟩ (Nat.le_of_ble_eq_true rfl) ⟨Nat.le_of_ble_eq_true rfl, Nat.le_of_ble_eq_true rfl⟩ dX12_wordOf_293 rfl (st := []) (fun x_63 I_64 J_65 h_66 => ?_)
    obtain ⟨rfl, rfl, fx_63⟩ := h_66
    exact g_lret (r := x_63) B K rfl ⟨rfl, rfl, (by simp only [wof, c_1, c_7, c_13, c_19, c_25, c_31, c_37, c_43, c_49, c_55, (eq_true c_61), if_true, if_false])⟩ dX12_wordOf_296
  by_cases c_67 : a0.toInt = 11
  · skip
    have r_68 := rg_of (a := 11) (b := 11) 11 c_67 (by decide) (by decide)
    refine g_tableIn C (tgt := 297) dX12_wordOf_1 (by omega) (by omega) (off := 296) (by rw [c_67]; rfl) (by decide) ?_
    refine g_bipush C (v := 114) dX12_wordOf_297 (by decide) ?_
    refine g_bipush C (v := 105) dX12_wordOf_299 (by decide) ?_
    refine g_bipush C (v := 115) dX12_wordOf_301 (by decide) ?_
    refine g_bipush C (v := 101) dX12_wordOf_303 (by decide) ?_
    refine g_bipush C (v := 115) dX12_wordOf_305 (by decide) ?_
    refine g_iconst C (v := 0) dX12_wordOf_307 (by decide) ?_
    refine g_iconst C (v := 0) dX12_wordOf_308 (by decide) ?_
    refine g_callSL C K (c_X12_spelt W9 114 105 115 101 115 0 0 (rg_w rc_114 (by decide) (by decide)) (rg_w rc_105 (by decide) (by decide)) (rg_w rc_115 (by decide) (by decide)) (rg_w rc_101 (by decide) (by decide)) (rg_w rc_115 (by decide) (by decide)) (rg_w rc_0 (by decide) (by decide)) (rg_w rc_0 (by decide) (by decide)) hU) s_12_132 rfl ⟨rfl, rfl⟩ ⟨Nat.le_of_ble_eq_true rfl, Nat.le_of_ble_eq_true rfl⟩ (Nat.le_of_ble_eq_true rfl) ⟨Nat.le_of_ble_eq_true rfl, Nat.le_of_ble_eq_true rfl⟩ dX12_wordOf_309 rfl (st := []) (fun x_69 I_70 J_71 h_72 => ?_)
    obtain ⟨rfl, rfl, fx_69⟩ := h_72
    exact g_lret (r := x_69) B K rfl ⟨rfl, rfl, (by simp only [wof, c_1, c_7, c_13, c_19, c_25, c_31, c_37, c_43, c_49, c_55, c_61, (eq_true c_67), if_true, if_false])⟩ dX12_wordOf_312
  by_cases c_73 : a0.toInt = 12
  · skip
    have r_74 := rg_of (a := 12) (b := 12) 12 c_73 (by decide) (by decide)
    refine g_tableIn C (tgt := 313) dX12_wordOf_1 (by omega) (by omega) (off := 312) (by rw [c_73]; rfl) (by decide) ?_
    refine g_bipush C (v := 114) dX12_wordOf_313 (by decide) ?_
    refine g_bipush C (v := 101) dX12_wordOf_315 (by decide) ?_
    refine g_bipush C (v := 102) dX12_wordOf_317 (by decide) ?_
    refine g_bipush C (v := 117) dX12_wordOf_319 (by decide) ?_
    refine g_bipush C (v := 115) dX12_wordOf_321 (by decide) ?_
    refine g_bipush C (v := 101) dX12_wordOf_323 (by decide) ?_
    refine g_bipush C (v := 115) dX12_wordOf_325 (by decide) ?_
    refine g_callSL C K (c_X12_spelt W9 114 101 102 117 115 101 115 (rg_w rc_114 (by decide) (by decide)) (rg_w rc_101 (by decide) (by decide)) (rg_w rc_102 (by decide) (by decide)) (rg_w rc_117 (by decide) (by decide)) (rg_w rc_115 (by decide) (by decide)) (rg_w rc_101 (by decide) (by decide)) (rg_w rc_115 (by decide) (by decide)) hU) s_12_132 rfl ⟨rfl, rfl⟩ ⟨Nat.le_of_ble_eq_true rfl, Nat.le_of_ble_eq_true rfl⟩ (Nat.le_of_ble_eq_true rfl) ⟨Nat.le_of_ble_eq_true rfl, Nat.le_of_ble_eq_true rfl⟩ dX12_wordOf_327 rfl (st := []) (fun x_75 I_76 J_77 h_78 => ?_)
    obtain ⟨rfl, rfl, fx_75⟩ := h_78
    exact g_lret (r := x_75) B K rfl ⟨rfl, rfl, (by simp only [wof, c_1, c_7, c_13, c_19, c_25, c_31, c_37, c_43, c_49, c_55, c_61, c_67, (eq_true c_73), if_true, if_false])⟩ dX12_wordOf_330
  by_cases c_79 : a0.toInt = 13
  · skip
    have r_80 := rg_of (a := 13) (b := 13) 13 c_79 (by decide) (by decide)
    refine g_tableIn C (tgt := 331) dX12_wordOf_1 (by omega) (by omega) (off := 330) (by rw [c_79]; rfl) (by decide) ?_
    refine g_bipush C (v := 97) dX12_wordOf_331 (by decide) ?_
    refine g_bipush C (v := 99) dX12_wordOf_333 (by decide) ?_
    refine g_bipush C (v := 99) dX12_wordOf_335 (by decide) ?_
    refine g_bipush C (v := 101) dX12_wordOf_337 (by decide) ?_
    refine g_bipush C (v := 112) dX12_wordOf_339 (by decide) ?_
    refine g_bipush C (v := 116) dX12_wordOf_341 (by decide) ?_
    refine g_bipush C (v := 115) dX12_wordOf_343 (by decide) ?_
    refine g_callSL C K (c_X12_spelt W9 97 99 99 101 112 116 115 (rg_w rc_97 (by decide) (by decide)) (rg_w rc_99 (by decide) (by decide)) (rg_w rc_99 (by decide) (by decide)) (rg_w rc_101 (by decide) (by decide)) (rg_w rc_112 (by decide) (by decide)) (rg_w rc_116 (by decide) (by decide)) (rg_w rc_115 (by decide) (by decide)) hU) s_12_132 rfl ⟨rfl, rfl⟩ ⟨Nat.le_of_ble_eq_true rfl, Nat.le_of_ble_eq_true rfl⟩ (Nat.le_of_ble_eq_true rfl) ⟨Nat.le_of_ble_eq_true rfl, Nat.le_of_ble_eq_true rfl⟩ dX12_wordOf_345 rfl (st := []) (fun x_81 I_82 J_83 h_84 => ?_)
    obtain ⟨rfl, rfl, fx_81⟩ := h_84
    exact g_lret (r := x_81) B K rfl ⟨rfl, rfl, (by simp only [wof, c_1, c_7, c_13, c_19, c_25, c_31, c_37, c_43, c_49, c_55, c_61, c_67, c_73, (eq_true c_79), if_true, if_false])⟩ dX12_wordOf_348
  by_cases c_85 : a0.toInt = 14
  · skip
    have r_86 := rg_of (a := 14) (b := 14) 14 c_85 (by decide) (by decide)
    refine g_tableIn C (tgt := 349) dX12_wordOf_1 (by omega) (by omega) (off := 348) (by rw [c_85]; rfl) (by decide) ?_
    refine g_bipush C (v := 100) dX12_wordOf_349 (by decide) ?_
    refine g_bipush C (v := 105) dX12_wordOf_351 (by decide) ?_
    refine g_bipush C (v := 101) dX12_wordOf_353 (by decide) ?_
    refine g_bipush C (v := 115) dX12_wordOf_355 (by decide) ?_
    refine g_iconst C (v := 0) dX12_wordOf_357 (by decide) ?_
    refine g_iconst C (v := 0) dX12_wordOf_358 (by decide) ?_
    refine g_iconst C (v := 0) dX12_wordOf_359 (by decide) ?_
    refine g_callSL C K (c_X12_spelt W9 100 105 101 115 0 0 0 (rg_w rc_100 (by decide) (by decide)) (rg_w rc_105 (by decide) (by decide)) (rg_w rc_101 (by decide) (by decide)) (rg_w rc_115 (by decide) (by decide)) (rg_w rc_0 (by decide) (by decide)) (rg_w rc_0 (by decide) (by decide)) (rg_w rc_0 (by decide) (by decide)) hU) s_12_132 rfl ⟨rfl, rfl⟩ ⟨Nat.le_of_ble_eq_true rfl, Nat.le_of_ble_eq_true rfl⟩ (Nat.le_of_ble_eq_true rfl) ⟨Nat.le_of_ble_eq_true rfl, Nat.le_of_ble_eq_true rfl⟩ dX12_wordOf_360 rfl (st := []) (fun x_87 I_88 J_89 h_90 => ?_)
    obtain ⟨rfl, rfl, fx_87⟩ := h_90
    exact g_lret (r := x_87) B K rfl ⟨rfl, rfl, (by simp only [wof, c_1, c_7, c_13, c_19, c_25, c_31, c_37, c_43, c_49, c_55, c_61, c_67, c_73, c_79, (eq_true c_85), if_true, if_false])⟩ dX12_wordOf_363
  by_cases c_91 : a0.toInt = 15
  · skip
    have r_92 := rg_of (a := 15) (b := 15) 15 c_91 (by decide) (by decide)
    refine g_tableIn C (tgt := 364) dX12_wordOf_1 (by omega) (by omega) (off := 363) (by rw [c_91]; rfl) (by decide) ?_
    refine g_bipush C (v := 109) dX12_wordOf_364 (by decide) ?_
    refine g_bipush C (v := 101) dX12_wordOf_366 (by decide) ?_
    refine g_bipush C (v := 97) dX12_wordOf_368 (by decide) ?_
    refine g_bipush C (v := 108) dX12_wordOf_370 (by decide) ?_
    refine g_iconst C (v := 0) dX12_wordOf_372 (by decide) ?_
    refine g_iconst C (v := 0) dX12_wordOf_373 (by decide) ?_
    refine g_iconst C (v := 0) dX12_wordOf_374 (by decide) ?_
    refine g_callSL C K (c_X12_spelt W9 109 101 97 108 0 0 0 (rg_w rc_109 (by decide) (by decide)) (rg_w rc_101 (by decide) (by decide)) (rg_w rc_97 (by decide) (by decide)) (rg_w rc_108 (by decide) (by decide)) (rg_w rc_0 (by decide) (by decide)) (rg_w rc_0 (by decide) (by decide)) (rg_w rc_0 (by decide) (by decide)) hU) s_12_132 rfl ⟨rfl, rfl⟩ ⟨Nat.le_of_ble_eq_true rfl, Nat.le_of_ble_eq_true rfl⟩ (Nat.le_of_ble_eq_true rfl) ⟨Nat.le_of_ble_eq_true rfl, Nat.le_of_ble_eq_true rfl⟩ dX12_wordOf_375 rfl (st := []) (fun x_93 I_94 J_95 h_96 => ?_)
    obtain ⟨rfl, rfl, fx_93⟩ := h_96
    exact g_lret (r := x_93) B K rfl ⟨rfl, rfl, (by simp only [wof, c_1, c_7, c_13, c_19, c_25, c_31, c_37, c_43, c_49, c_55, c_61, c_67, c_73, c_79, c_85, (eq_true c_91), if_true, if_false])⟩ dX12_wordOf_378
  by_cases c_97 : a0.toInt = 16
  · skip
    have r_98 := rg_of (a := 16) (b := 16) 16 c_97 (by decide) (by decide)
    refine g_tableIn C (tgt := 379) dX12_wordOf_1 (by omega) (by omega) (off := 378) (by rw [c_97]; rfl) (by decide) ?_
    refine g_bipush C (v := 111) dX12_wordOf_379 (by decide) ?_
    refine g_bipush C (v := 114) dX12_wordOf_381 (by decide) ?_
    refine g_iconst C (v := 0) dX12_wordOf_383 (by decide) ?_
    refine g_iconst C (v := 0) dX12_wordOf_384 (by decide) ?_
    refine g_iconst C (v := 0) dX12_wordOf_385 (by decide) ?_
    refine g_iconst C (v := 0) dX12_wordOf_386 (by decide) ?_
    refine g_iconst C (v := 0) dX12_wordOf_387 (by decide) ?_
    refine g_callSL C K (c_X12_spelt W9 111 114 0 0 0 0 0 (rg_w rc_111 (by decide) (by decide)) (rg_w rc_114 (by decide) (by decide)) (rg_w rc_0 (by decide) (by decide)) (rg_w rc_0 (by decide) (by decide)) (rg_w rc_0 (by decide) (by decide)) (rg_w rc_0 (by decide) (by decide)) (rg_w rc_0 (by decide) (by decide)) hU) s_12_132 rfl ⟨rfl, rfl⟩ ⟨Nat.le_of_ble_eq_true rfl, Nat.le_of_ble_eq_true rfl⟩ (Nat.le_of_ble_eq_true rfl) ⟨Nat.le_of_ble_eq_true rfl, Nat.le_of_ble_eq_true rfl⟩ dX12_wordOf_388 rfl (st := []) (fun x_99 I_100 J_101 h_102 => ?_)
    obtain ⟨rfl, rfl, fx_99⟩ := h_102
    exact g_lret (r := x_99) B K rfl ⟨rfl, rfl, (by simp only [wof, c_1, c_7, c_13, c_19, c_25, c_31, c_37, c_43, c_49, c_55, c_61, c_67, c_73, c_79, c_85, c_91, (eq_true c_97), if_true, if_false])⟩ dX12_wordOf_391
  by_cases c_103 : a0.toInt = 17
  · skip
    have r_104 := rg_of (a := 17) (b := 17) 17 c_103 (by decide) (by decide)
    refine g_tableIn C (tgt := 392) dX12_wordOf_1 (by omega) (by omega) (off := 391) (by rw [c_103]; rfl) (by decide) ?_
    refine g_bipush C (v := 97) dX12_wordOf_392 (by decide) ?_
    refine g_bipush C (v := 110) dX12_wordOf_394 (by decide) ?_
    refine g_bipush C (v := 100) dX12_wordOf_396 (by decide) ?_
    refine g_iconst C (v := 0) dX12_wordOf_398 (by decide) ?_
    refine g_iconst C (v := 0) dX12_wordOf_399 (by decide) ?_
    refine g_iconst C (v := 0) dX12_wordOf_400 (by decide) ?_
    refine g_iconst C (v := 0) dX12_wordOf_401 (by decide) ?_
    refine g_callSL C K (c_X12_spelt W9 97 110 100 0 0 0 0 (rg_w rc_97 (by decide) (by decide)) (rg_w rc_110 (by decide) (by decide)) (rg_w rc_100 (by decide) (by decide)) (rg_w rc_0 (by decide) (by decide)) (rg_w rc_0 (by decide) (by decide)) (rg_w rc_0 (by decide) (by decide)) (rg_w rc_0 (by decide) (by decide)) hU) s_12_132 rfl ⟨rfl, rfl⟩ ⟨Nat.le_of_ble_eq_true rfl, Nat.le_of_ble_eq_true rfl⟩ (Nat.le_of_ble_eq_true rfl) ⟨Nat.le_of_ble_eq_true rfl, Nat.le_of_ble_eq_true rfl⟩ dX12_wordOf_402 rfl (st := []) (fun x_105 I_106 J_107 h_108 => ?_)
    obtain ⟨rfl, rfl, fx_105⟩ := h_108
    exact g_lret (r := x_105) B K rfl ⟨rfl, rfl, (by simp only [wof, c_1, c_7, c_13, c_19, c_25, c_31, c_37, c_43, c_49, c_55, c_61, c_67, c_73, c_79, c_85, c_91, c_97, (eq_true c_103), if_true, if_false])⟩ dX12_wordOf_405
  by_cases c_109 : a0.toInt = 18
  · skip
    have r_110 := rg_of (a := 18) (b := 18) 18 c_109 (by decide) (by decide)
    refine g_tableIn C (tgt := 406) dX12_wordOf_1 (by omega) (by omega) (off := 405) (by rw [c_109]; rfl) (by decide) ?_
    refine g_bipush C (v := 110) dX12_wordOf_406 (by decide) ?_
    refine g_bipush C (v := 111) dX12_wordOf_408 (by decide) ?_
    refine g_bipush C (v := 116) dX12_wordOf_410 (by decide) ?_
    refine g_iconst C (v := 0) dX12_wordOf_412 (by decide) ?_
    refine g_iconst C (v := 0) dX12_wordOf_413 (by decide) ?_
    refine g_iconst C (v := 0) dX12_wordOf_414 (by decide) ?_
    refine g_iconst C (v := 0) dX12_wordOf_415 (by decide) ?_
    refine g_callSL C K (c_X12_spelt W9 110 111 116 0 0 0 0 (rg_w rc_110 (by decide) (by decide)) (rg_w rc_111 (by decide) (by decide)) (rg_w rc_116 (by decide) (by decide)) (rg_w rc_0 (by decide) (by decide)) (rg_w rc_0 (by decide) (by decide)) (rg_w rc_0 (by decide) (by decide)) (rg_w rc_0 (by decide) (by decide)) hU) s_12_132 rfl ⟨rfl, rfl⟩ ⟨Nat.le_of_ble_eq_true rfl, Nat.le_of_ble_eq_true rfl⟩ (Nat.le_of_ble_eq_true rfl) ⟨Nat.le_of_ble_eq_true rfl, Nat.le_of_ble_eq_true rfl⟩ dX12_wordOf_416 rfl (st := []) (fun x_111 I_112 J_113 h_114 => ?_)
    obtain ⟨rfl, rfl, fx_111⟩ := h_114
    exact g_lret (r := x_111) B K rfl ⟨rfl, rfl, (by simp only [wof, c_1, c_7, c_13, c_19, c_25, c_31, c_37, c_43, c_49, c_55, c_61, c_67, c_73, c_79, c_85, c_91, c_97, c_103, (eq_true c_109), if_true, if_false])⟩ dX12_wordOf_419
  by_cases c_115 : a0.toInt = 19
  · skip
    have r_116 := rg_of (a := 19) (b := 19) 19 c_115 (by decide) (by decide)
    refine g_tableIn C (tgt := 420) dX12_wordOf_1 (by omega) (by omega) (off := 419) (by rw [c_115]; rfl) (by decide) ?_
    refine g_bipush C (v := 100) dX12_wordOf_420 (by decide) ?_
    refine g_bipush C (v := 101) dX12_wordOf_422 (by decide) ?_
    refine g_bipush C (v := 97) dX12_wordOf_424 (by decide) ?_
    refine g_bipush C (v := 100) dX12_wordOf_426 (by decide) ?_
    refine g_iconst C (v := 0) dX12_wordOf_428 (by decide) ?_
    refine g_iconst C (v := 0) dX12_wordOf_429 (by decide) ?_
    refine g_iconst C (v := 0) dX12_wordOf_430 (by decide) ?_
    refine g_callSL C K (c_X12_spelt W9 100 101 97 100 0 0 0 (rg_w rc_100 (by decide) (by decide)) (rg_w rc_101 (by decide) (by decide)) (rg_w rc_97 (by decide) (by decide)) (rg_w rc_100 (by decide) (by decide)) (rg_w rc_0 (by decide) (by decide)) (rg_w rc_0 (by decide) (by decide)) (rg_w rc_0 (by decide) (by decide)) hU) s_12_132 rfl ⟨rfl, rfl⟩ ⟨Nat.le_of_ble_eq_true rfl, Nat.le_of_ble_eq_true rfl⟩ (Nat.le_of_ble_eq_true rfl) ⟨Nat.le_of_ble_eq_true rfl, Nat.le_of_ble_eq_true rfl⟩ dX12_wordOf_431 rfl (st := []) (fun x_117 I_118 J_119 h_120 => ?_)
    obtain ⟨rfl, rfl, fx_117⟩ := h_120
    exact g_lret (r := x_117) B K rfl ⟨rfl, rfl, (by simp only [wof, c_1, c_7, c_13, c_19, c_25, c_31, c_37, c_43, c_49, c_55, c_61, c_67, c_73, c_79, c_85, c_91, c_97, c_103, c_109, (eq_true c_115), if_true, if_false])⟩ dX12_wordOf_434
  by_cases c_121 : a0.toInt = 20
  · skip
    have r_122 := rg_of (a := 20) (b := 20) 20 c_121 (by decide) (by decide)
    refine g_tableIn C (tgt := 435) dX12_wordOf_1 (by omega) (by omega) (off := 434) (by rw [c_121]; rfl) (by decide) ?_
    refine g_bipush C (v := 114) dX12_wordOf_435 (by decide) ?_
    refine g_bipush C (v := 101) dX12_wordOf_437 (by decide) ?_
    refine g_bipush C (v := 102) dX12_wordOf_439 (by decide) ?_
    refine g_bipush C (v := 117) dX12_wordOf_441 (by decide) ?_
    refine g_bipush C (v := 115) dX12_wordOf_443 (by decide) ?_
    refine g_bipush C (v := 101) dX12_wordOf_445 (by decide) ?_
    refine g_bipush C (v := 100) dX12_wordOf_447 (by decide) ?_
    refine g_callSL C K (c_X12_spelt W9 114 101 102 117 115 101 100 (rg_w rc_114 (by decide) (by decide)) (rg_w rc_101 (by decide) (by decide)) (rg_w rc_102 (by decide) (by decide)) (rg_w rc_117 (by decide) (by decide)) (rg_w rc_115 (by decide) (by decide)) (rg_w rc_101 (by decide) (by decide)) (rg_w rc_100 (by decide) (by decide)) hU) s_12_132 rfl ⟨rfl, rfl⟩ ⟨Nat.le_of_ble_eq_true rfl, Nat.le_of_ble_eq_true rfl⟩ (Nat.le_of_ble_eq_true rfl) ⟨Nat.le_of_ble_eq_true rfl, Nat.le_of_ble_eq_true rfl⟩ dX12_wordOf_449 rfl (st := []) (fun x_123 I_124 J_125 h_126 => ?_)
    obtain ⟨rfl, rfl, fx_123⟩ := h_126
    exact g_lret (r := x_123) B K rfl ⟨rfl, rfl, (by simp only [wof, c_1, c_7, c_13, c_19, c_25, c_31, c_37, c_43, c_49, c_55, c_61, c_67, c_73, c_79, c_85, c_91, c_97, c_103, c_109, c_115, (eq_true c_121), if_true, if_false])⟩ dX12_wordOf_452
  by_cases c_127 : a0.toInt = 21
  · skip
    have r_128 := rg_of (a := 21) (b := 21) 21 c_127 (by decide) (by decide)
    refine g_tableIn C (tgt := 453) dX12_wordOf_1 (by omega) (by omega) (off := 452) (by rw [c_127]; rfl) (by decide) ?_
    refine g_bipush C (v := 99) dX12_wordOf_453 (by decide) ?_
    refine g_bipush C (v := 108) dX12_wordOf_455 (by decide) ?_
    refine g_bipush C (v := 101) dX12_wordOf_457 (by decide) ?_
    refine g_bipush C (v := 97) dX12_wordOf_459 (by decide) ?_
    refine g_bipush C (v := 110) dX12_wordOf_461 (by decide) ?_
    refine g_iconst C (v := 0) dX12_wordOf_463 (by decide) ?_
    refine g_iconst C (v := 0) dX12_wordOf_464 (by decide) ?_
    refine g_callSL C K (c_X12_spelt W9 99 108 101 97 110 0 0 (rg_w rc_99 (by decide) (by decide)) (rg_w rc_108 (by decide) (by decide)) (rg_w rc_101 (by decide) (by decide)) (rg_w rc_97 (by decide) (by decide)) (rg_w rc_110 (by decide) (by decide)) (rg_w rc_0 (by decide) (by decide)) (rg_w rc_0 (by decide) (by decide)) hU) s_12_132 rfl ⟨rfl, rfl⟩ ⟨Nat.le_of_ble_eq_true rfl, Nat.le_of_ble_eq_true rfl⟩ (Nat.le_of_ble_eq_true rfl) ⟨Nat.le_of_ble_eq_true rfl, Nat.le_of_ble_eq_true rfl⟩ dX12_wordOf_465 rfl (st := []) (fun x_129 I_130 J_131 h_132 => ?_)
    obtain ⟨rfl, rfl, fx_129⟩ := h_132
    exact g_lret (r := x_129) B K rfl ⟨rfl, rfl, (by simp only [wof, c_1, c_7, c_13, c_19, c_25, c_31, c_37, c_43, c_49, c_55, c_61, c_67, c_73, c_79, c_85, c_91, c_97, c_103, c_109, c_115, c_121, (eq_true c_127), if_true, if_false])⟩ dX12_wordOf_468
  by_cases c_133 : a0.toInt = 22
  · skip
    have r_134 := rg_of (a := 22) (b := 22) 22 c_133 (by decide) (by decide)
    refine g_tableIn C (tgt := 469) dX12_wordOf_1 (by omega) (by omega) (off := 468) (by rw [c_133]; rfl) (by decide) ?_
    refine g_bipush C (v := 111) dX12_wordOf_469 (by decide) ?_
    refine g_bipush C (v := 102) dX12_wordOf_471 (by decide) ?_
    refine g_iconst C (v := 0) dX12_wordOf_473 (by decide) ?_
    refine g_iconst C (v := 0) dX12_wordOf_474 (by decide) ?_
    refine g_iconst C (v := 0) dX12_wordOf_475 (by decide) ?_
    refine g_iconst C (v := 0) dX12_wordOf_476 (by decide) ?_
    refine g_iconst C (v := 0) dX12_wordOf_477 (by decide) ?_
    refine g_callSL C K (c_X12_spelt W9 111 102 0 0 0 0 0 (rg_w rc_111 (by decide) (by decide)) (rg_w rc_102 (by decide) (by decide)) (rg_w rc_0 (by decide) (by decide)) (rg_w rc_0 (by decide) (by decide)) (rg_w rc_0 (by decide) (by decide)) (rg_w rc_0 (by decide) (by decide)) (rg_w rc_0 (by decide) (by decide)) hU) s_12_132 rfl ⟨rfl, rfl⟩ ⟨Nat.le_of_ble_eq_true rfl, Nat.le_of_ble_eq_true rfl⟩ (Nat.le_of_ble_eq_true rfl) ⟨Nat.le_of_ble_eq_true rfl, Nat.le_of_ble_eq_true rfl⟩ dX12_wordOf_478 rfl (st := []) (fun x_135 I_136 J_137 h_138 => ?_)
    obtain ⟨rfl, rfl, fx_135⟩ := h_138
    exact g_lret (r := x_135) B K rfl ⟨rfl, rfl, (by simp only [wof, c_1, c_7, c_13, c_19, c_25, c_31, c_37, c_43, c_49, c_55, c_61, c_67, c_73, c_79, c_85, c_91, c_97, c_103, c_109, c_115, c_121, c_127, (eq_true c_133), if_true, if_false])⟩ dX12_wordOf_481
  by_cases c_139 : a0.toInt = 23
  · skip
    have r_140 := rg_of (a := 23) (b := 23) 23 c_139 (by decide) (by decide)
    refine g_tableIn C (tgt := 482) dX12_wordOf_1 (by omega) (by omega) (off := 481) (by rw [c_139]; rfl) (by decide) ?_
    refine g_bipush C (v := 104) dX12_wordOf_482 (by decide) ?_
    refine g_bipush C (v := 97) dX12_wordOf_484 (by decide) ?_
    refine g_bipush C (v := 115) dX12_wordOf_486 (by decide) ?_
    refine g_iconst C (v := 0) dX12_wordOf_488 (by decide) ?_
    refine g_iconst C (v := 0) dX12_wordOf_489 (by decide) ?_
    refine g_iconst C (v := 0) dX12_wordOf_490 (by decide) ?_
    refine g_iconst C (v := 0) dX12_wordOf_491 (by decide) ?_
    refine g_callSL C K (c_X12_spelt W9 104 97 115 0 0 0 0 (rg_w rc_104 (by decide) (by decide)) (rg_w rc_97 (by decide) (by decide)) (rg_w rc_115 (by decide) (by decide)) (rg_w rc_0 (by decide) (by decide)) (rg_w rc_0 (by decide) (by decide)) (rg_w rc_0 (by decide) (by decide)) (rg_w rc_0 (by decide) (by decide)) hU) s_12_132 rfl ⟨rfl, rfl⟩ ⟨Nat.le_of_ble_eq_true rfl, Nat.le_of_ble_eq_true rfl⟩ (Nat.le_of_ble_eq_true rfl) ⟨Nat.le_of_ble_eq_true rfl, Nat.le_of_ble_eq_true rfl⟩ dX12_wordOf_492 rfl (st := []) (fun x_141 I_142 J_143 h_144 => ?_)
    obtain ⟨rfl, rfl, fx_141⟩ := h_144
    exact g_lret (r := x_141) B K rfl ⟨rfl, rfl, (by simp only [wof, c_1, c_7, c_13, c_19, c_25, c_31, c_37, c_43, c_49, c_55, c_61, c_67, c_73, c_79, c_85, c_91, c_97, c_103, c_109, c_115, c_121, c_127, c_133, (eq_true c_139), if_true, if_false])⟩ dX12_wordOf_495
  by_cases c_145 : a0.toInt = 24
  · skip
    have r_146 := rg_of (a := 24) (b := 24) 24 c_145 (by decide) (by decide)
    refine g_tableIn C (tgt := 496) dX12_wordOf_1 (by omega) (by omega) (off := 495) (by rw [c_145]; rfl) (by decide) ?_
    refine g_bipush C (v := 119) dX12_wordOf_496 (by decide) ?_
    refine g_bipush C (v := 97) dX12_wordOf_498 (by decide) ?_
    refine g_bipush C (v := 110) dX12_wordOf_500 (by decide) ?_
    refine g_bipush C (v := 116) dX12_wordOf_502 (by decide) ?_
    refine g_bipush C (v := 115) dX12_wordOf_504 (by decide) ?_
    refine g_iconst C (v := 0) dX12_wordOf_506 (by decide) ?_
    refine g_iconst C (v := 0) dX12_wordOf_507 (by decide) ?_
    refine g_callSL C K (c_X12_spelt W9 119 97 110 116 115 0 0 (rg_w rc_119 (by decide) (by decide)) (rg_w rc_97 (by decide) (by decide)) (rg_w rc_110 (by decide) (by decide)) (rg_w rc_116 (by decide) (by decide)) (rg_w rc_115 (by decide) (by decide)) (rg_w rc_0 (by decide) (by decide)) (rg_w rc_0 (by decide) (by decide)) hU) s_12_132 rfl ⟨rfl, rfl⟩ ⟨Nat.le_of_ble_eq_true rfl, Nat.le_of_ble_eq_true rfl⟩ (Nat.le_of_ble_eq_true rfl) ⟨Nat.le_of_ble_eq_true rfl, Nat.le_of_ble_eq_true rfl⟩ dX12_wordOf_508 rfl (st := []) (fun x_147 I_148 J_149 h_150 => ?_)
    obtain ⟨rfl, rfl, fx_147⟩ := h_150
    exact g_lret (r := x_147) B K rfl ⟨rfl, rfl, (by simp only [wof, c_1, c_7, c_13, c_19, c_25, c_31, c_37, c_43, c_49, c_55, c_61, c_67, c_73, c_79, c_85, c_91, c_97, c_103, c_109, c_115, c_121, c_127, c_133, c_139, (eq_true c_145), if_true, if_false])⟩ dX12_wordOf_511
  by_cases c_151 : a0.toInt = 25
  · skip
    have r_152 := rg_of (a := 25) (b := 25) 25 c_151 (by decide) (by decide)
    refine g_tableIn C (tgt := 512) dX12_wordOf_1 (by omega) (by omega) (off := 511) (by rw [c_151]; rfl) (by decide) ?_
    refine g_bipush C (v := 101) dX12_wordOf_512 (by decide) ?_
    refine g_bipush C (v := 97) dX12_wordOf_514 (by decide) ?_
    refine g_bipush C (v := 116) dX12_wordOf_516 (by decide) ?_
    refine g_bipush C (v := 101) dX12_wordOf_518 (by decide) ?_
    refine g_bipush C (v := 110) dX12_wordOf_520 (by decide) ?_
    refine g_iconst C (v := 0) dX12_wordOf_522 (by decide) ?_
    refine g_iconst C (v := 0) dX12_wordOf_523 (by decide) ?_
    refine g_callSL C K (c_X12_spelt W9 101 97 116 101 110 0 0 (rg_w rc_101 (by decide) (by decide)) (rg_w rc_97 (by decide) (by decide)) (rg_w rc_116 (by decide) (by decide)) (rg_w rc_101 (by decide) (by decide)) (rg_w rc_110 (by decide) (by decide)) (rg_w rc_0 (by decide) (by decide)) (rg_w rc_0 (by decide) (by decide)) hU) s_12_132 rfl ⟨rfl, rfl⟩ ⟨Nat.le_of_ble_eq_true rfl, Nat.le_of_ble_eq_true rfl⟩ (Nat.le_of_ble_eq_true rfl) ⟨Nat.le_of_ble_eq_true rfl, Nat.le_of_ble_eq_true rfl⟩ dX12_wordOf_524 rfl (st := []) (fun x_153 I_154 J_155 h_156 => ?_)
    obtain ⟨rfl, rfl, fx_153⟩ := h_156
    exact g_lret (r := x_153) B K rfl ⟨rfl, rfl, (by simp only [wof, c_1, c_7, c_13, c_19, c_25, c_31, c_37, c_43, c_49, c_55, c_61, c_67, c_73, c_79, c_85, c_91, c_97, c_103, c_109, c_115, c_121, c_127, c_133, c_139, c_145, (eq_true c_151), if_true, if_false])⟩ dX12_wordOf_527
  by_cases c_157 : a0.toInt = 26
  · skip
    have r_158 := rg_of (a := 26) (b := 26) 26 c_157 (by decide) (by decide)
    refine g_tableIn C (tgt := 528) dX12_wordOf_1 (by omega) (by omega) (off := 527) (by rw [c_157]; rfl) (by decide) ?_
    refine g_bipush C (v := 104) dX12_wordOf_528 (by decide) ?_
    refine g_bipush C (v := 117) dX12_wordOf_530 (by decide) ?_
    refine g_bipush C (v := 110) dX12_wordOf_532 (by decide) ?_
    refine g_bipush C (v := 103) dX12_wordOf_534 (by decide) ?_
    refine g_bipush C (v := 101) dX12_wordOf_536 (by decide) ?_
    refine g_bipush C (v := 114) dX12_wordOf_538 (by decide) ?_
    refine g_iconst C (v := 0) dX12_wordOf_540 (by decide) ?_
    refine g_callSL C K (c_X12_spelt W9 104 117 110 103 101 114 0 (rg_w rc_104 (by decide) (by decide)) (rg_w rc_117 (by decide) (by decide)) (rg_w rc_110 (by decide) (by decide)) (rg_w rc_103 (by decide) (by decide)) (rg_w rc_101 (by decide) (by decide)) (rg_w rc_114 (by decide) (by decide)) (rg_w rc_0 (by decide) (by decide)) hU) s_12_132 rfl ⟨rfl, rfl⟩ ⟨Nat.le_of_ble_eq_true rfl, Nat.le_of_ble_eq_true rfl⟩ (Nat.le_of_ble_eq_true rfl) ⟨Nat.le_of_ble_eq_true rfl, Nat.le_of_ble_eq_true rfl⟩ dX12_wordOf_541 rfl (st := []) (fun x_159 I_160 J_161 h_162 => ?_)
    obtain ⟨rfl, rfl, fx_159⟩ := h_162
    exact g_lret (r := x_159) B K rfl ⟨rfl, rfl, (by simp only [wof, c_1, c_7, c_13, c_19, c_25, c_31, c_37, c_43, c_49, c_55, c_61, c_67, c_73, c_79, c_85, c_91, c_97, c_103, c_109, c_115, c_121, c_127, c_133, c_139, c_145, c_151, (eq_true c_157), if_true, if_false])⟩ dX12_wordOf_544
  have n_164 : ¬ a0 = 0 := (fun q => c_1 (by rw [q]; decide))
  have r_165 := ne_lo (lo := 1) n_164 ra0 rc_0 rfl (by decide)
  have n_166 : ¬ a0 = 1 := (fun q => c_7 (by rw [q]; decide))
  have r_167 := ne_lo (lo := 2) n_166 r_165 rc_1 rfl (by decide)
  have n_168 : ¬ a0 = 2 := (fun q => c_13 (by rw [q]; decide))
  have r_169 := ne_lo (lo := 3) n_168 r_167 rc_2 rfl (by decide)
  have n_170 : ¬ a0 = 3 := (fun q => c_19 (by rw [q]; decide))
  have r_171 := ne_lo (lo := 4) n_170 r_169 rc_3 rfl (by decide)
  have n_172 : ¬ a0 = 4 := (fun q => c_25 (by rw [q]; decide))
  have r_173 := ne_lo (lo := 5) n_172 r_171 rc_4 rfl (by decide)
  have n_174 : ¬ a0 = 5 := (fun q => c_31 (by rw [q]; decide))
  have r_175 := ne_lo (lo := 6) n_174 r_173 rc_5 rfl (by decide)
  have n_176 : ¬ a0 = 6 := (fun q => c_37 (by rw [q]; decide))
  have r_177 := ne_lo (lo := 7) n_176 r_175 rc_6 rfl (by decide)
  have n_178 : ¬ a0 = 7 := (fun q => c_43 (by rw [q]; decide))
  have r_179 := ne_lo (lo := 8) n_178 r_177 rc_7 rfl (by decide)
  have n_180 : ¬ a0 = 8 := (fun q => c_49 (by rw [q]; decide))
  have r_181 := ne_lo (lo := 9) n_180 r_179 rc_8 rfl (by decide)
  have n_182 : ¬ a0 = 9 := (fun q => c_55 (by rw [q]; decide))
  have r_183 := ne_lo (lo := 10) n_182 r_181 rc_9 rfl (by decide)
  have n_184 : ¬ a0 = 10 := (fun q => c_61 (by rw [q]; decide))
  have r_185 := ne_lo (lo := 11) n_184 r_183 rc_10 rfl (by decide)
  have n_186 : ¬ a0 = 11 := (fun q => c_67 (by rw [q]; decide))
  have r_187 := ne_lo (lo := 12) n_186 r_185 rc_11 rfl (by decide)
  have n_188 : ¬ a0 = 12 := (fun q => c_73 (by rw [q]; decide))
  have r_189 := ne_lo (lo := 13) n_188 r_187 rc_12 rfl (by decide)
  have n_190 : ¬ a0 = 13 := (fun q => c_79 (by rw [q]; decide))
  have r_191 := ne_lo (lo := 14) n_190 r_189 rc_13 rfl (by decide)
  have n_192 : ¬ a0 = 14 := (fun q => c_85 (by rw [q]; decide))
  have r_193 := ne_lo (lo := 15) n_192 r_191 rc_14 rfl (by decide)
  have n_194 : ¬ a0 = 15 := (fun q => c_91 (by rw [q]; decide))
  have r_195 := ne_lo (lo := 16) n_194 r_193 rc_15 rfl (by decide)
  have n_196 : ¬ a0 = 16 := (fun q => c_97 (by rw [q]; decide))
  have r_197 := ne_lo (lo := 17) n_196 r_195 rc_16 rfl (by decide)
  have n_198 : ¬ a0 = 17 := (fun q => c_103 (by rw [q]; decide))
  have r_199 := ne_lo (lo := 18) n_198 r_197 rc_17 rfl (by decide)
  have n_200 : ¬ a0 = 18 := (fun q => c_109 (by rw [q]; decide))
  have r_201 := ne_lo (lo := 19) n_200 r_199 rc_18 rfl (by decide)
  have n_202 : ¬ a0 = 19 := (fun q => c_115 (by rw [q]; decide))
  have r_203 := ne_lo (lo := 20) n_202 r_201 rc_19 rfl (by decide)
  have n_204 : ¬ a0 = 20 := (fun q => c_121 (by rw [q]; decide))
  have r_205 := ne_lo (lo := 21) n_204 r_203 rc_20 rfl (by decide)
  have n_206 : ¬ a0 = 21 := (fun q => c_127 (by rw [q]; decide))
  have r_207 := ne_lo (lo := 22) n_206 r_205 rc_21 rfl (by decide)
  have n_208 : ¬ a0 = 22 := (fun q => c_133 (by rw [q]; decide))
  have r_209 := ne_lo (lo := 23) n_208 r_207 rc_22 rfl (by decide)
  have n_210 : ¬ a0 = 23 := (fun q => c_139 (by rw [q]; decide))
  have r_211 := ne_lo (lo := 24) n_210 r_209 rc_23 rfl (by decide)
  have n_212 : ¬ a0 = 24 := (fun q => c_145 (by rw [q]; decide))
  have r_213 := ne_lo (lo := 25) n_212 r_211 rc_24 rfl (by decide)
  have n_214 : ¬ a0 = 25 := (fun q => c_151 (by rw [q]; decide))
  have r_215 := ne_lo (lo := 26) n_214 r_213 rc_25 rfl (by decide)
  have n_216 : ¬ a0 = 26 := (fun q => c_157 (by rw [q]; decide))
  have r_217 := ne_lo (lo := 27) n_216 r_215 rc_26 rfl (by decide)
  obtain ⟨q_1631, q_1632⟩ := id (r_217)
  refine g_tableOut C (tgt := 545) dX12_wordOf_1 (by omega) (by decide) ?_
  refine g_bipush C (v := 110) dX12_wordOf_545 (by decide) ?_
  refine g_bipush C (v := 117) dX12_wordOf_547 (by decide) ?_
  refine g_bipush C (v := 109) dX12_wordOf_549 (by decide) ?_
  refine g_bipush C (v := 98) dX12_wordOf_551 (by decide) ?_
  refine g_bipush C (v := 101) dX12_wordOf_553 (by decide) ?_
  refine g_bipush C (v := 114) dX12_wordOf_555 (by decide) ?_
  refine g_iconst C (v := 0) dX12_wordOf_557 (by decide) ?_
  refine g_callSL C K (c_X12_spelt W9 110 117 109 98 101 114 0 (rg_w rc_110 (by decide) (by decide)) (rg_w rc_117 (by decide) (by decide)) (rg_w rc_109 (by decide) (by decide)) (rg_w rc_98 (by decide) (by decide)) (rg_w rc_101 (by decide) (by decide)) (rg_w rc_114 (by decide) (by decide)) (rg_w rc_0 (by decide) (by decide)) hU) s_12_132 rfl ⟨rfl, rfl⟩ ⟨Nat.le_of_ble_eq_true rfl, Nat.le_of_ble_eq_true rfl⟩ (Nat.le_of_ble_eq_true rfl) ⟨Nat.le_of_ble_eq_true rfl, Nat.le_of_ble_eq_true rfl⟩ dX12_wordOf_558 rfl (st := []) (fun x_218 I_219 J_220 h_221 => ?_)
  obtain ⟨rfl, rfl, fx_218⟩ := h_221
  exact g_lret (r := x_218) B K rfl ⟨rfl, rfl, (by simp only [wof, c_1, c_7, c_13, c_19, c_25, c_31, c_37, c_43, c_49, c_55, c_61, c_67, c_73, c_79, c_85, c_91, c_97, c_103, c_109, c_115, c_121, c_127, c_133, c_139, c_145, c_151, c_157, if_true, if_false])⟩ dX12_wordOf_561
