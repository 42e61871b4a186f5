theorem dX12_bad_0 : decode cX12_bad 0 = .ok (.aload_n 0, 1) := by decide +kernel
theorem dX12_bad_1 : decode cX12_bad 1 = .ok (.aload_n 0, 1) := by decide +kernel
theorem dX12_bad_2 : decode cX12_bad 2 = .ok (.getfield 104, 3) := by decide +kernel
theorem dX12_bad_5 : decode cX12_bad 5 = .ok (.iconst 1, 1) := by decide +kernel
theorem dX12_bad_6 : decode cX12_bad 6 = .ok (.if_icmp .ne 7, 3) := by decide +kernel
theorem dX12_bad_9 : decode cX12_bad 9 = .ok (.iconst 1, 1) := by decide +kernel
theorem dX12_bad_10 : decode cX12_bad 10 = .ok (.goto 4, 3) := by decide +kernel
theorem dX12_bad_13 : decode cX12_bad 13 = .ok (.iload_n 1, 1) := by decide +kernel
theorem dX12_bad_14 : decode cX12_bad 14 = .ok (.putfield 140, 3) := by decide +kernel
theorem dX12_bad_17 : decode cX12_bad 17 = .ok (.aload_n 0, 1) := by decide +kernel
theorem dX12_bad_18 : decode cX12_bad 18 = .ok (.aload_n 0, 1) := by decide +kernel
theorem dX12_bad_19 : decode cX12_bad 19 = .ok (.getfield 98, 3) := by decide +kernel
theorem dX12_bad_22 : decode cX12_bad 22 = .ok (.putfield 143, 3) := by decide +kernel
theorem dX12_bad_25 : decode cX12_bad 25 = .ok (.iconst 0, 1) := by decide +kernel
theorem dX12_bad_26 : decode cX12_bad 26 = .ok (.ireturn, 1) := by decide +kernel
theorem dX12_begin_0 : decode cX12_begin 0 = .ok (.aload_n 0, 1) := by decide +kernel
theorem dX12_begin_1 : decode cX12_begin 1 = .ok (.iconst 0, 1) := by decide +kernel
theorem dX12_begin_2 : decode cX12_begin 2 = .ok (.putfield 82, 3) := by decide +kernel
theorem dX12_begin_5 : decode cX12_begin 5 = .ok (.aload_n 0, 1) := by decide +kernel
theorem dX12_begin_6 : decode cX12_begin 6 = .ok (.aload_n 0, 1) := by decide +kernel
theorem dX12_begin_7 : decode cX12_begin 7 = .ok (.invokevirtual 162, 3) := by decide +kernel
theorem dX12_begin_10 : decode cX12_begin 10 = .ok (.putfield 92, 3) := by decide +kernel
theorem dX12_begin_13 : decode cX12_begin 13 = .ok (.aload_n 0, 1) := by decide +kernel
theorem dX12_begin_14 : decode cX12_begin 14 = .ok (.iload_n 1, 1) := by decide +kernel
theorem dX12_begin_15 : decode cX12_begin 15 = .ok (.putfield 101, 3) := by decide +kernel
theorem dX12_begin_18 : decode cX12_begin 18 = .ok (.aload_n 0, 1) := by decide +kernel
theorem dX12_begin_19 : decode cX12_begin 19 = .ok (.iconst 0, 1) := by decide +kernel
theorem dX12_begin_20 : decode cX12_begin 20 = .ok (.putfield 140, 3) := by decide +kernel
theorem dX12_begin_23 : decode cX12_begin 23 = .ok (.aload_n 0, 1) := by decide +kernel
theorem dX12_begin_24 : decode cX12_begin 24 = .ok (.iconst 0, 1) := by decide +kernel
theorem dX12_begin_25 : decode cX12_begin 25 = .ok (.putfield 95, 3) := by decide +kernel
theorem dX12_begin_28 : decode cX12_begin 28 = .ok (.aload_n 0, 1) := by decide +kernel
theorem dX12_begin_29 : decode cX12_begin 29 = .ok (.invokevirtual 156, 3) := by decide +kernel
theorem dX12_begin_32 : decode cX12_begin 32 = .ok (.return_, 1) := by decide +kernel
theorem dX12_come_0 : decode cX12_come 0 = .ok (.bipush 24, 2) := by decide +kernel
theorem dX12_come_2 : decode cX12_come 2 = .ok (.istore_n 2, 1) := by decide +kernel
theorem dX12_come_3 : decode cX12_come 3 = .ok (.iload_n 2, 1) := by decide +kernel
theorem dX12_come_4 : decode cX12_come 4 = .ok (.ifCond .lt 35, 3) := by decide +kernel
theorem dX12_come_7 : decode cX12_come 7 = .ok (.aload_n 0, 1) := by decide +kernel
theorem dX12_come_8 : decode cX12_come 8 = .ok (.getfield 7, 3) := by decide +kernel
theorem dX12_come_11 : decode cX12_come 11 = .ok (.aload_n 0, 1) := by decide +kernel
theorem dX12_come_12 : decode cX12_come 12 = .ok (.getfield 85, 3) := by decide +kernel
theorem dX12_come_15 : decode cX12_come 15 = .ok (.iload_n 1, 1) := by decide +kernel
theorem dX12_come_16 : decode cX12_come 16 = .ok (.iload_n 2, 1) := by decide +kernel
theorem dX12_come_17 : decode cX12_come 17 = .ok (.iushr, 1) := by decide +kernel
theorem dX12_come_18 : decode cX12_come 18 = .ok (.sipush 255, 3) := by decide +kernel
theorem dX12_come_21 : decode cX12_come 21 = .ok (.iand, 1) := by decide +kernel
theorem dX12_come_22 : decode cX12_come 22 = .ok (.iastore, 1) := by decide +kernel
theorem dX12_come_23 : decode cX12_come 23 = .ok (.aload_n 0, 1) := by decide +kernel
theorem dX12_come_24 : decode cX12_come 24 = .ok (.dup, 1) := by decide +kernel
theorem dX12_come_25 : decode cX12_come 25 = .ok (.getfield 85, 3) := by decide +kernel
theorem dX12_come_28 : decode cX12_come 28 = .ok (.iconst 1, 1) := by decide +kernel
theorem dX12_come_29 : decode cX12_come 29 = .ok (.iadd, 1) := by decide +kernel
theorem dX12_come_30 : decode cX12_come 30 = .ok (.putfield 85, 3) := by decide +kernel
theorem dX12_come_33 : decode cX12_come 33 = .ok (.iinc 2 (-8), 3) := by decide +kernel
theorem dX12_come_36 : decode cX12_come 36 = .ok (.goto (-33), 3) := by decide +kernel
theorem dX12_come_39 : decode cX12_come 39 = .ok (.return_, 1) := by decide +kernel
theorem dX12_end_0 : decode cX12_end 0 = .ok (.aload_n 0, 1) := by decide +kernel
theorem dX12_end_1 : decode cX12_end 1 = .ok (.iconst 0, 1) := by decide +kernel
theorem dX12_end_2 : decode cX12_end 2 = .ok (.putfield 82, 3) := by decide +kernel
theorem dX12_end_5 : decode cX12_end 5 = .ok (.iload_n 1, 1) := by decide +kernel
theorem dX12_end_6 : decode cX12_end 6 = .ok (.ifCond .lt 11, 3) := by decide +kernel
theorem dX12_end_9 : decode cX12_end 9 = .ok (.iload_n 1, 1) := by decide +kernel
theorem dX12_end_10 : decode cX12_end 10 = .ok (.aload_n 0, 1) := by decide +kernel
theorem dX12_end_11 : decode cX12_end 11 = .ok (.getfield 85, 3) := by decide +kernel
theorem dX12_end_14 : decode cX12_end 14 = .ok (.if_icmp .le 5, 3) := by decide +kernel
theorem dX12_end_17 : decode cX12_end 17 = .ok (.iconst 0, 1) := by decide +kernel
theorem dX12_end_18 : decode cX12_end 18 = .ok (.ireturn, 1) := by decide +kernel
theorem dX12_end_19 : decode cX12_end 19 = .ok (.aload_n 0, 1) := by decide +kernel
theorem dX12_end_20 : decode cX12_end 20 = .ok (.iload_n 1, 1) := by decide +kernel
theorem dX12_end_21 : decode cX12_end 21 = .ok (.putfield 85, 3) := by decide +kernel
theorem dX12_end_24 : decode cX12_end 24 = .ok (.iconst 1, 1) := by decide +kernel
theorem dX12_end_25 : decode cX12_end 25 = .ok (.ireturn, 1) := by decide +kernel
theorem dX12_feed_0 : decode cX12_feed 0 = .ok (.aload_n 0, 1) := by decide +kernel
theorem dX12_feed_1 : decode cX12_feed 1 = .ok (.iconst 0, 1) := by decide +kernel
theorem dX12_feed_2 : decode cX12_feed 2 = .ok (.putfield 82, 3) := by decide +kernel
theorem dX12_feed_5 : decode cX12_feed 5 = .ok (.aload_n 0, 1) := by decide +kernel
theorem dX12_feed_6 : decode cX12_feed 6 = .ok (.getfield 85, 3) := by decide +kernel
theorem dX12_feed_9 : decode cX12_feed 9 = .ok (.bipush 20, 2) := by decide +kernel
theorem dX12_feed_11 : decode cX12_feed 11 = .ok (.iadd, 1) := by decide +kernel
theorem dX12_feed_12 : decode cX12_feed 12 = .ok (.sipush 940, 3) := by decide +kernel
theorem dX12_feed_15 : decode cX12_feed 15 = .ok (.if_icmp .le 5, 3) := by decide +kernel
theorem dX12_feed_18 : decode cX12_feed 18 = .ok (.iconst (-1), 1) := by decide +kernel
theorem dX12_feed_19 : decode cX12_feed 19 = .ok (.ireturn, 1) := by decide +kernel
theorem dX12_feed_20 : decode cX12_feed 20 = .ok (.aload_n 0, 1) := by decide +kernel
theorem dX12_feed_21 : decode cX12_feed 21 = .ok (.iload_n 1, 1) := by decide +kernel
theorem dX12_feed_22 : decode cX12_feed 22 = .ok (.invokevirtual 88, 3) := by decide +kernel
theorem dX12_feed_25 : decode cX12_feed 25 = .ok (.aload_n 0, 1) := by decide +kernel
theorem dX12_feed_26 : decode cX12_feed 26 = .ok (.iload_n 2, 1) := by decide +kernel
theorem dX12_feed_27 : decode cX12_feed 27 = .ok (.invokevirtual 88, 3) := by decide +kernel
theorem dX12_feed_30 : decode cX12_feed 30 = .ok (.aload_n 0, 1) := by decide +kernel
theorem dX12_feed_31 : decode cX12_feed 31 = .ok (.iload_n 3, 1) := by decide +kernel
theorem dX12_feed_32 : decode cX12_feed 32 = .ok (.invokevirtual 88, 3) := by decide +kernel
theorem dX12_feed_35 : decode cX12_feed 35 = .ok (.aload_n 0, 1) := by decide +kernel
theorem dX12_feed_36 : decode cX12_feed 36 = .ok (.iload 4, 2) := by decide +kernel
theorem dX12_feed_38 : decode cX12_feed 38 = .ok (.invokevirtual 88, 3) := by decide +kernel
theorem dX12_feed_41 : decode cX12_feed 41 = .ok (.aload_n 0, 1) := by decide +kernel
theorem dX12_feed_42 : decode cX12_feed 42 = .ok (.iload 5, 2) := by decide +kernel
theorem dX12_feed_44 : decode cX12_feed 44 = .ok (.invokevirtual 88, 3) := by decide +kernel
theorem dX12_feed_47 : decode cX12_feed 47 = .ok (.aload_n 0, 1) := by decide +kernel
theorem dX12_feed_48 : decode cX12_feed 48 = .ok (.getfield 85, 3) := by decide +kernel
theorem dX12_feed_51 : decode cX12_feed 51 = .ok (.ireturn, 1) := by decide +kernel
theorem dX12_go_0 : decode cX12_go 0 = .ok (.aload_n 0, 1) := by decide +kernel
theorem dX12_go_1 : decode cX12_go 1 = .ok (.getfield 95, 3) := by decide +kernel
theorem dX12_go_4 : decode cX12_go 4 = .ok (.aload_n 0, 1) := by decide +kernel
theorem dX12_go_5 : decode cX12_go 5 = .ok (.getfield 92, 3) := by decide +kernel
theorem dX12_go_8 : decode cX12_go 8 = .ok (.if_icmp .ge 44, 3) := by decide +kernel
theorem dX12_go_11 : decode cX12_go 11 = .ok (.aload_n 0, 1) := by decide +kernel
theorem dX12_go_12 : decode cX12_go 12 = .ok (.getfield 7, 3) := by decide +kernel
theorem dX12_go_15 : decode cX12_go 15 = .ok (.aload_n 0, 1) := by decide +kernel
theorem dX12_go_16 : decode cX12_go 16 = .ok (.getfield 95, 3) := by decide +kernel
theorem dX12_go_19 : decode cX12_go 19 = .ok (.iaload, 1) := by decide +kernel
theorem dX12_go_20 : decode cX12_go 20 = .ok (.bipush 32, 2) := by decide +kernel
theorem dX12_go_22 : decode cX12_go 22 = .ok (.if_icmp .eq 17, 3) := by decide +kernel
theorem dX12_go_25 : decode cX12_go 25 = .ok (.aload_n 0, 1) := by decide +kernel
theorem dX12_go_26 : decode cX12_go 26 = .ok (.getfield 7, 3) := by decide +kernel
theorem dX12_go_29 : decode cX12_go 29 = .ok (.aload_n 0, 1) := by decide +kernel
theorem dX12_go_30 : decode cX12_go 30 = .ok (.getfield 95, 3) := by decide +kernel
theorem dX12_go_33 : decode cX12_go 33 = .ok (.iaload, 1) := by decide +kernel
theorem dX12_go_34 : decode cX12_go 34 = .ok (.bipush 10, 2) := by decide +kernel
theorem dX12_go_36 : decode cX12_go 36 = .ok (.if_icmp .ne 16, 3) := by decide +kernel
theorem dX12_go_39 : decode cX12_go 39 = .ok (.aload_n 0, 1) := by decide +kernel
theorem dX12_go_40 : decode cX12_go 40 = .ok (.dup, 1) := by decide +kernel
theorem dX12_go_41 : decode cX12_go 41 = .ok (.getfield 95, 3) := by decide +kernel
theorem dX12_go_44 : decode cX12_go 44 = .ok (.iconst 1, 1) := by decide +kernel
theorem dX12_go_45 : decode cX12_go 45 = .ok (.iadd, 1) := by decide +kernel
theorem dX12_go_46 : decode cX12_go 46 = .ok (.putfield 95, 3) := by decide +kernel
theorem dX12_go_49 : decode cX12_go 49 = .ok (.goto (-49), 3) := by decide +kernel
theorem dX12_go_52 : decode cX12_go 52 = .ok (.aload_n 0, 1) := by decide +kernel
theorem dX12_go_53 : decode cX12_go 53 = .ok (.aload_n 0, 1) := by decide +kernel
theorem dX12_go_54 : decode cX12_go 54 = .ok (.getfield 95, 3) := by decide +kernel
theorem dX12_go_57 : decode cX12_go 57 = .ok (.putfield 98, 3) := by decide +kernel
theorem dX12_go_60 : decode cX12_go 60 = .ok (.aload_n 0, 1) := by decide +kernel
theorem dX12_go_61 : decode cX12_go 61 = .ok (.getfield 92, 3) := by decide +kernel
theorem dX12_go_64 : decode cX12_go 64 = .ok (.aload_n 0, 1) := by decide +kernel
theorem dX12_go_65 : decode cX12_go 65 = .ok (.getfield 101, 3) := by decide +kernel
theorem dX12_go_68 : decode cX12_go 68 = .ok (.if_icmp .le 28, 3) := by decide +kernel
theorem dX12_go_71 : decode cX12_go 71 = .ok (.aload_n 0, 1) := by decide +kernel
theorem dX12_go_72 : decode cX12_go 72 = .ok (.getfield 98, 3) := by decide +kernel
theorem dX12_go_75 : decode cX12_go 75 = .ok (.aload_n 0, 1) := by decide +kernel
theorem dX12_go_76 : decode cX12_go 76 = .ok (.getfield 101, 3) := by decide +kernel
theorem dX12_go_79 : decode cX12_go 79 = .ok (.if_icmp .lt 17, 3) := by decide +kernel
theorem dX12_go_82 : decode cX12_go 82 = .ok (.aload_n 0, 1) := by decide +kernel
theorem dX12_go_83 : decode cX12_go 83 = .ok (.aload_n 0, 1) := by decide +kernel
theorem dX12_go_84 : decode cX12_go 84 = .ok (.getfield 101, 3) := by decide +kernel
theorem dX12_go_87 : decode cX12_go 87 = .ok (.putfield 98, 3) := by decide +kernel
theorem dX12_go_90 : decode cX12_go 90 = .ok (.aload_n 0, 1) := by decide +kernel
theorem dX12_go_91 : decode cX12_go 91 = .ok (.iconst 1, 1) := by decide +kernel
theorem dX12_go_92 : decode cX12_go 92 = .ok (.putfield 104, 3) := by decide +kernel
theorem dX12_go_95 : decode cX12_go 95 = .ok (.return_, 1) := by decide +kernel
theorem dX12_go_96 : decode cX12_go 96 = .ok (.aload_n 0, 1) := by decide +kernel
theorem dX12_go_97 : decode cX12_go 97 = .ok (.getfield 95, 3) := by decide +kernel
theorem dX12_go_100 : decode cX12_go 100 = .ok (.aload_n 0, 1) := by decide +kernel
theorem dX12_go_101 : decode cX12_go 101 = .ok (.getfield 92, 3) := by decide +kernel
theorem dX12_go_104 : decode cX12_go 104 = .ok (.if_icmp .lt 9, 3) := by decide +kernel
theorem dX12_go_107 : decode cX12_go 107 = .ok (.aload_n 0, 1) := by decide +kernel
theorem dX12_go_108 : decode cX12_go 108 = .ok (.iconst 0, 1) := by decide +kernel
theorem dX12_go_109 : decode cX12_go 109 = .ok (.putfield 104, 3) := by decide +kernel
theorem dX12_go_112 : decode cX12_go 112 = .ok (.return_, 1) := by decide +kernel
theorem dX12_go_113 : decode cX12_go 113 = .ok (.aload_n 0, 1) := by decide +kernel
theorem dX12_go_114 : decode cX12_go 114 = .ok (.getfield 7, 3) := by decide +kernel
theorem dX12_go_117 : decode cX12_go 117 = .ok (.aload_n 0, 1) := by decide +kernel
theorem dX12_go_118 : decode cX12_go 118 = .ok (.getfield 95, 3) := by decide +kernel
theorem dX12_go_121 : decode cX12_go 121 = .ok (.iaload, 1) := by decide +kernel
theorem dX12_go_122 : decode cX12_go 122 = .ok (.istore_n 1, 1) := by decide +kernel
theorem dX12_go_123 : decode cX12_go 123 = .ok (.iload_n 1, 1) := by decide +kernel
theorem dX12_go_124 : decode cX12_go 124 = .ok (.invokestatic 107, 3) := by decide +kernel
theorem dX12_go_127 : decode cX12_go 127 = .ok (.ifCond .ne 71, 3) := by decide +kernel
theorem dX12_go_130 : decode cX12_go 130 = .ok (.iload_n 1, 1) := by decide +kernel
theorem dX12_go_131 : decode cX12_go 131 = .ok (.invokestatic 111, 3) := by decide +kernel
theorem dX12_go_134 : decode cX12_go 134 = .ok (.ifCond .ne 64, 3) := by decide +kernel
theorem dX12_go_137 : decode cX12_go 137 = .ok (.aload_n 0, 1) := by decide +kernel
theorem dX12_go_138 : decode cX12_go 138 = .ok (.iload_n 1, 1) := by decide +kernel
theorem dX12_go_139 : decode cX12_go 139 = .ok (.bipush 59, 2) := by decide +kernel
theorem dX12_go_141 : decode cX12_go 141 = .ok (.if_icmp .eq 33, 3) := by decide +kernel
theorem dX12_go_144 : decode cX12_go 144 = .ok (.iload_n 1, 1) := by decide +kernel
theorem dX12_go_145 : decode cX12_go 145 = .ok (.bipush 60, 2) := by decide +kernel
theorem dX12_go_147 : decode cX12_go 147 = .ok (.if_icmp .eq 27, 3) := by decide +kernel
theorem dX12_go_150 : decode cX12_go 150 = .ok (.iload_n 1, 1) := by decide +kernel
theorem dX12_go_151 : decode cX12_go 151 = .ok (.bipush 61, 2) := by decide +kernel
theorem dX12_go_153 : decode cX12_go 153 = .ok (.if_icmp .eq 21, 3) := by decide +kernel
theorem dX12_go_156 : decode cX12_go 156 = .ok (.iload_n 1, 1) := by decide +kernel
theorem dX12_go_157 : decode cX12_go 157 = .ok (.bipush 62, 2) := by decide +kernel
theorem dX12_go_159 : decode cX12_go 159 = .ok (.if_icmp .eq 15, 3) := by decide +kernel
theorem dX12_go_162 : decode cX12_go 162 = .ok (.iload_n 1, 1) := by decide +kernel
theorem dX12_go_163 : decode cX12_go 163 = .ok (.bipush 40, 2) := by decide +kernel
theorem dX12_go_165 : decode cX12_go 165 = .ok (.if_icmp .eq 9, 3) := by decide +kernel
theorem dX12_go_168 : decode cX12_go 168 = .ok (.iload_n 1, 1) := by decide +kernel
theorem dX12_go_169 : decode cX12_go 169 = .ok (.bipush 41, 2) := by decide +kernel
theorem dX12_go_171 : decode cX12_go 171 = .ok (.if_icmp .ne 7, 3) := by decide +kernel
theorem dX12_go_174 : decode cX12_go 174 = .ok (.iconst 4, 1) := by decide +kernel
theorem dX12_go_175 : decode cX12_go 175 = .ok (.goto 4, 3) := by decide +kernel
theorem dX12_go_178 : decode cX12_go 178 = .ok (.iconst 1, 1) := by decide +kernel
theorem dX12_go_179 : decode cX12_go 179 = .ok (.putfield 104, 3) := by decide +kernel
theorem dX12_go_182 : decode cX12_go 182 = .ok (.aload_n 0, 1) := by decide +kernel
theorem dX12_go_183 : decode cX12_go 183 = .ok (.iload_n 1, 1) := by decide +kernel
theorem dX12_go_184 : decode cX12_go 184 = .ok (.putfield 114, 3) := by decide +kernel
theorem dX12_go_187 : decode cX12_go 187 = .ok (.aload_n 0, 1) := by decide +kernel
theorem dX12_go_188 : decode cX12_go 188 = .ok (.dup, 1) := by decide +kernel
theorem dX12_go_189 : decode cX12_go 189 = .ok (.getfield 95, 3) := by decide +kernel
theorem dX12_go_192 : decode cX12_go 192 = .ok (.iconst 1, 1) := by decide +kernel
theorem dX12_go_193 : decode cX12_go 193 = .ok (.iadd, 1) := by decide +kernel
theorem dX12_go_194 : decode cX12_go 194 = .ok (.putfield 95, 3) := by decide +kernel
theorem dX12_go_197 : decode cX12_go 197 = .ok (.return_, 1) := by decide +kernel
theorem dX12_go_198 : decode cX12_go 198 = .ok (.iload_n 1, 1) := by decide +kernel
theorem dX12_go_199 : decode cX12_go 199 = .ok (.invokestatic 107, 3) := by decide +kernel
theorem dX12_go_202 : decode cX12_go 202 = .ok (.istore_n 2, 1) := by decide +kernel
theorem dX12_go_203 : decode cX12_go 203 = .ok (.iconst 1, 1) := by decide +kernel
theorem dX12_go_204 : decode cX12_go 204 = .ok (.istore_n 3, 1) := by decide +kernel
theorem dX12_go_205 : decode cX12_go 205 = .ok (.aload_n 0, 1) := by decide +kernel
theorem dX12_go_206 : decode cX12_go 206 = .ok (.lconst 0, 1) := by decide +kernel
theorem dX12_go_207 : decode cX12_go 207 = .ok (.putfield 117, 3) := by decide +kernel
theorem dX12_go_210 : decode cX12_go 210 = .ok (.aload_n 0, 1) := by decide +kernel
theorem dX12_go_211 : decode cX12_go 211 = .ok (.iconst 0, 1) := by decide +kernel
theorem dX12_go_212 : decode cX12_go 212 = .ok (.putfield 121, 3) := by decide +kernel
theorem dX12_go_215 : decode cX12_go 215 = .ok (.aload_n 0, 1) := by decide +kernel
theorem dX12_go_216 : decode cX12_go 216 = .ok (.aload_n 0, 1) := by decide +kernel
theorem dX12_go_217 : decode cX12_go 217 = .ok (.getfield 95, 3) := by decide +kernel
theorem dX12_go_220 : decode cX12_go 220 = .ok (.invokevirtual 124, 3) := by decide +kernel
theorem dX12_go_223 : decode cX12_go 223 = .ok (.invokestatic 107, 3) := by decide +kernel
theorem dX12_go_226 : decode cX12_go 226 = .ok (.ifCond .ne 17, 3) := by decide +kernel
theorem dX12_go_229 : decode cX12_go 229 = .ok (.aload_n 0, 1) := by decide +kernel
theorem dX12_go_230 : decode cX12_go 230 = .ok (.aload_n 0, 1) := by decide +kernel
theorem dX12_go_231 : decode cX12_go 231 = .ok (.getfield 95, 3) := by decide +kernel
theorem dX12_go_234 : decode cX12_go 234 = .ok (.invokevirtual 124, 3) := by decide +kernel
theorem dX12_go_237 : decode cX12_go 237 = .ok (.invokestatic 111, 3) := by decide +kernel
theorem dX12_go_240 : decode cX12_go 240 = .ok (.ifCond .eq 110, 3) := by decide +kernel
theorem dX12_go_243 : decode cX12_go 243 = .ok (.aload_n 0, 1) := by decide +kernel
theorem dX12_go_244 : decode cX12_go 244 = .ok (.getfield 7, 3) := by decide +kernel
theorem dX12_go_247 : decode cX12_go 247 = .ok (.aload_n 0, 1) := by decide +kernel
theorem dX12_go_248 : decode cX12_go 248 = .ok (.getfield 95, 3) := by decide +kernel
theorem dX12_go_251 : decode cX12_go 251 = .ok (.iaload, 1) := by decide +kernel
theorem dX12_go_252 : decode cX12_go 252 = .ok (.istore 4, 2) := by decide +kernel
theorem dX12_go_254 : decode cX12_go 254 = .ok (.iload_n 3, 1) := by decide +kernel
theorem dX12_go_255 : decode cX12_go 255 = .ok (.ifCond .eq 16, 3) := by decide +kernel
theorem dX12_go_258 : decode cX12_go 258 = .ok (.iload 4, 2) := by decide +kernel
theorem dX12_go_260 : decode cX12_go 260 = .ok (.invokestatic 107, 3) := by decide +kernel
theorem dX12_go_263 : decode cX12_go 263 = .ok (.iload_n 2, 1) := by decide +kernel
theorem dX12_go_264 : decode cX12_go 264 = .ok (.if_icmp .ne 7, 3) := by decide +kernel
theorem dX12_go_267 : decode cX12_go 267 = .ok (.iconst 1, 1) := by decide +kernel
theorem dX12_go_268 : decode cX12_go 268 = .ok (.goto 4, 3) := by decide +kernel
theorem dX12_go_271 : decode cX12_go 271 = .ok (.iconst 0, 1) := by decide +kernel
theorem dX12_go_272 : decode cX12_go 272 = .ok (.istore_n 3, 1) := by decide +kernel
theorem dX12_go_273 : decode cX12_go 273 = .ok (.aload_n 0, 1) := by decide +kernel
theorem dX12_go_274 : decode cX12_go 274 = .ok (.getfield 95, 3) := by decide +kernel
theorem dX12_go_277 : decode cX12_go 277 = .ok (.aload_n 0, 1) := by decide +kernel
theorem dX12_go_278 : decode cX12_go 278 = .ok (.getfield 98, 3) := by decide +kernel
theorem dX12_go_281 : decode cX12_go 281 = .ok (.isub, 1) := by decide +kernel
theorem dX12_go_282 : decode cX12_go 282 = .ok (.bipush 7, 2) := by decide +kernel
theorem dX12_go_284 : decode cX12_go 284 = .ok (.if_icmp .ge 23, 3) := by decide +kernel
theorem dX12_go_287 : decode cX12_go 287 = .ok (.aload_n 0, 1) := by decide +kernel
theorem dX12_go_288 : decode cX12_go 288 = .ok (.ldc2_w 128, 3) := by decide +kernel
theorem dX12_go_291 : decode cX12_go 291 = .ok (.aload_n 0, 1) := by decide +kernel
theorem dX12_go_292 : decode cX12_go 292 = .ok (.getfield 117, 3) := by decide +kernel
theorem dX12_go_295 : decode cX12_go 295 = .ok (.lmul, 1) := by decide +kernel
theorem dX12_go_296 : decode cX12_go 296 = .ok (.iload 4, 2) := by decide +kernel
theorem dX12_go_298 : decode cX12_go 298 = .ok (.i2l, 1) := by decide +kernel
theorem dX12_go_299 : decode cX12_go 299 = .ok (.ladd, 1) := by decide +kernel
theorem dX12_go_300 : decode cX12_go 300 = .ok (.ldc2_w 130, 3) := by decide +kernel
theorem dX12_go_303 : decode cX12_go 303 = .ok (.lsub, 1) := by decide +kernel
theorem dX12_go_304 : decode cX12_go 304 = .ok (.putfield 117, 3) := by decide +kernel
theorem dX12_go_307 : decode cX12_go 307 = .ok (.aload_n 0, 1) := by decide +kernel
theorem dX12_go_308 : decode cX12_go 308 = .ok (.getfield 95, 3) := by decide +kernel
theorem dX12_go_311 : decode cX12_go 311 = .ok (.aload_n 0, 1) := by decide +kernel
theorem dX12_go_312 : decode cX12_go 312 = .ok (.getfield 98, 3) := by decide +kernel
theorem dX12_go_315 : decode cX12_go 315 = .ok (.isub, 1) := by decide +kernel
theorem dX12_go_316 : decode cX12_go 316 = .ok (.iconst 3, 1) := by decide +kernel
theorem dX12_go_317 : decode cX12_go 317 = .ok (.if_icmp .ge 20, 3) := by decide +kernel
theorem dX12_go_320 : decode cX12_go 320 = .ok (.aload_n 0, 1) := by decide +kernel
theorem dX12_go_321 : decode cX12_go 321 = .ok (.bipush 10, 2) := by decide +kernel
theorem dX12_go_323 : decode cX12_go 323 = .ok (.aload_n 0, 1) := by decide +kernel
theorem dX12_go_324 : decode cX12_go 324 = .ok (.getfield 121, 3) := by decide +kernel
theorem dX12_go_327 : decode cX12_go 327 = .ok (.imul, 1) := by decide +kernel
theorem dX12_go_328 : decode cX12_go 328 = .ok (.iload 4, 2) := by decide +kernel
theorem dX12_go_330 : decode cX12_go 330 = .ok (.iadd, 1) := by decide +kernel
theorem dX12_go_331 : decode cX12_go 331 = .ok (.bipush 48, 2) := by decide +kernel
theorem dX12_go_333 : decode cX12_go 333 = .ok (.isub, 1) := by decide +kernel
theorem dX12_go_334 : decode cX12_go 334 = .ok (.putfield 121, 3) := by decide +kernel
theorem dX12_go_337 : decode cX12_go 337 = .ok (.aload_n 0, 1) := by decide +kernel
theorem dX12_go_338 : decode cX12_go 338 = .ok (.dup, 1) := by decide +kernel
theorem dX12_go_339 : decode cX12_go 339 = .ok (.getfield 95, 3) := by decide +kernel
theorem dX12_go_342 : decode cX12_go 342 = .ok (.iconst 1, 1) := by decide +kernel
theorem dX12_go_343 : decode cX12_go 343 = .ok (.iadd, 1) := by decide +kernel
theorem dX12_go_344 : decode cX12_go 344 = .ok (.putfield 95, 3) := by decide +kernel
theorem dX12_go_347 : decode cX12_go 347 = .ok (.goto (-132), 3) := by decide +kernel
theorem dX12_go_350 : decode cX12_go 350 = .ok (.aload_n 0, 1) := by decide +kernel
theorem dX12_go_351 : decode cX12_go 351 = .ok (.iload_n 3, 1) := by decide +kernel
theorem dX12_go_352 : decode cX12_go 352 = .ok (.ifCond .eq 25, 3) := by decide +kernel
theorem dX12_go_355 : decode cX12_go 355 = .ok (.aload_n 0, 1) := by decide +kernel
theorem dX12_go_356 : decode cX12_go 356 = .ok (.getfield 95, 3) := by decide +kernel
theorem dX12_go_359 : decode cX12_go 359 = .ok (.aload_n 0, 1) := by decide +kernel
theorem dX12_go_360 : decode cX12_go 360 = .ok (.getfield 98, 3) := by decide +kernel
theorem dX12_go_363 : decode cX12_go 363 = .ok (.isub, 1) := by decide +kernel
theorem dX12_go_364 : decode cX12_go 364 = .ok (.iload_n 2, 1) := by decide +kernel
theorem dX12_go_365 : decode cX12_go 365 = .ok (.ifCond .eq 8, 3) := by decide +kernel
theorem dX12_go_368 : decode cX12_go 368 = .ok (.bipush 7, 2) := by decide +kernel
theorem dX12_go_370 : decode cX12_go 370 = .ok (.goto 4, 3) := by decide +kernel
theorem dX12_go_373 : decode cX12_go 373 = .ok (.iconst 3, 1) := by decide +kernel
theorem dX12_go_374 : decode cX12_go 374 = .ok (.if_icmp .le 7, 3) := by decide +kernel
theorem dX12_go_377 : decode cX12_go 377 = .ok (.iconst 1, 1) := by decide +kernel
theorem dX12_go_378 : decode cX12_go 378 = .ok (.goto 12, 3) := by decide +kernel
theorem dX12_go_381 : decode cX12_go 381 = .ok (.iload_n 2, 1) := by decide +kernel
theorem dX12_go_382 : decode cX12_go 382 = .ok (.ifCond .eq 7, 3) := by decide +kernel
theorem dX12_go_385 : decode cX12_go 385 = .ok (.iconst 2, 1) := by decide +kernel
theorem dX12_go_386 : decode cX12_go 386 = .ok (.goto 4, 3) := by decide +kernel
theorem dX12_go_389 : decode cX12_go 389 = .ok (.iconst 3, 1) := by decide +kernel
theorem dX12_go_390 : decode cX12_go 390 = .ok (.putfield 104, 3) := by decide +kernel
theorem dX12_go_393 : decode cX12_go 393 = .ok (.return_, 1) := by decide +kernel
theorem dX12_isDigit_0 : decode cX12_isDigit 0 = .ok (.iload_n 0, 1) := by decide +kernel
theorem dX12_isDigit_1 : decode cX12_isDigit 1 = .ok (.bipush 48, 2) := by decide +kernel
theorem dX12_isDigit_3 : decode cX12_isDigit 3 = .ok (.if_icmp .lt 13, 3) := by decide +kernel
theorem dX12_isDigit_6 : decode cX12_isDigit 6 = .ok (.iload_n 0, 1) := by decide +kernel
theorem dX12_isDigit_7 : decode cX12_isDigit 7 = .ok (.bipush 57, 2) := by decide +kernel
theorem dX12_isDigit_9 : decode cX12_isDigit 9 = .ok (.if_icmp .gt 7, 3) := by decide +kernel
theorem dX12_isDigit_12 : decode cX12_isDigit 12 = .ok (.iconst 1, 1) := by decide +kernel
theorem dX12_isDigit_13 : decode cX12_isDigit 13 = .ok (.goto 4, 3) := by decide +kernel
theorem dX12_isDigit_16 : decode cX12_isDigit 16 = .ok (.iconst 0, 1) := by decide +kernel
theorem dX12_isDigit_17 : decode cX12_isDigit 17 = .ok (.ireturn, 1) := by decide +kernel
theorem dX12_isLetter_0 : decode cX12_isLetter 0 = .ok (.iload_n 0, 1) := by decide +kernel
theorem dX12_isLetter_1 : decode cX12_isLetter 1 = .ok (.bipush 97, 2) := by decide +kernel
theorem dX12_isLetter_3 : decode cX12_isLetter 3 = .ok (.if_icmp .lt 13, 3) := by decide +kernel
theorem dX12_isLetter_6 : decode cX12_isLetter 6 = .ok (.iload_n 0, 1) := by decide +kernel
theorem dX12_isLetter_7 : decode cX12_isLetter 7 = .ok (.bipush 122, 2) := by decide +kernel
theorem dX12_isLetter_9 : decode cX12_isLetter 9 = .ok (.if_icmp .gt 7, 3) := by decide +kernel
theorem dX12_isLetter_12 : decode cX12_isLetter 12 = .ok (.iconst 1, 1) := by decide +kernel
theorem dX12_isLetter_13 : decode cX12_isLetter 13 = .ok (.goto 4, 3) := by decide +kernel
theorem dX12_isLetter_16 : decode cX12_isLetter 16 = .ok (.iconst 0, 1) := by decide +kernel
theorem dX12_isLetter_17 : decode cX12_isLetter 17 = .ok (.ireturn, 1) := by decide +kernel
theorem dX12_isSign_0 : decode cX12_isSign 0 = .ok (.aload_n 0, 1) := by decide +kernel
theorem dX12_isSign_1 : decode cX12_isSign 1 = .ok (.getfield 104, 3) := by decide +kernel
theorem dX12_isSign_4 : decode cX12_isSign 4 = .ok (.iconst 4, 1) := by decide +kernel
theorem dX12_isSign_5 : decode cX12_isSign 5 = .ok (.if_icmp .ne 15, 3) := by decide +kernel
theorem dX12_isSign_8 : decode cX12_isSign 8 = .ok (.aload_n 0, 1) := by decide +kernel
theorem dX12_isSign_9 : decode cX12_isSign 9 = .ok (.getfield 114, 3) := by decide +kernel
theorem dX12_isSign_12 : decode cX12_isSign 12 = .ok (.iload_n 1, 1) := by decide +kernel
theorem dX12_isSign_13 : decode cX12_isSign 13 = .ok (.if_icmp .ne 7, 3) := by decide +kernel
theorem dX12_isSign_16 : decode cX12_isSign 16 = .ok (.iconst 1, 1) := by decide +kernel
theorem dX12_isSign_17 : decode cX12_isSign 17 = .ok (.goto 4, 3) := by decide +kernel
theorem dX12_isSign_20 : decode cX12_isSign 20 = .ok (.iconst 0, 1) := by decide +kernel
theorem dX12_isSign_21 : decode cX12_isSign 21 = .ok (.ireturn, 1) := by decide +kernel
theorem dX12_readEnd_0 : decode cX12_readEnd 0 = .ok (.aload_n 0, 1) := by decide +kernel
theorem dX12_readEnd_1 : decode cX12_readEnd 1 = .ok (.bipush 59, 2) := by decide +kernel
theorem dX12_readEnd_3 : decode cX12_readEnd 3 = .ok (.invokevirtual 159, 3) := by decide +kernel
theorem dX12_readEnd_6 : decode cX12_readEnd 6 = .ok (.ifCond .ne 9, 3) := by decide +kernel
theorem dX12_readEnd_9 : decode cX12_readEnd 9 = .ok (.aload_n 0, 1) := by decide +kernel
theorem dX12_readEnd_10 : decode cX12_readEnd 10 = .ok (.iconst 1, 1) := by decide +kernel
theorem dX12_readEnd_11 : decode cX12_readEnd 11 = .ok (.invokevirtual 146, 3) := by decide +kernel
theorem dX12_readEnd_14 : decode cX12_readEnd 14 = .ok (.ireturn, 1) := by decide +kernel
theorem dX12_readEnd_15 : decode cX12_readEnd 15 = .ok (.aload_n 0, 1) := by decide +kernel
theorem dX12_readEnd_16 : decode cX12_readEnd 16 = .ok (.invokevirtual 156, 3) := by decide +kernel
theorem dX12_readEnd_19 : decode cX12_readEnd 19 = .ok (.iconst 1, 1) := by decide +kernel
theorem dX12_readEnd_20 : decode cX12_readEnd 20 = .ok (.ireturn, 1) := by decide +kernel
theorem dX12_spelt_0 : decode cX12_spelt 0 = .ok (.ldc2_w 128, 3) := by decide +kernel
theorem dX12_spelt_3 : decode cX12_spelt 3 = .ok (.iload_n 0, 1) := by decide +kernel
theorem dX12_spelt_4 : decode cX12_spelt 4 = .ok (.i2l, 1) := by decide +kernel
theorem dX12_spelt_5 : decode cX12_spelt 5 = .ok (.ldc2_w 130, 3) := by decide +kernel
theorem dX12_spelt_8 : decode cX12_spelt 8 = .ok (.lsub, 1) := by decide +kernel
theorem dX12_spelt_9 : decode cX12_spelt 9 = .ok (.lmul, 1) := by decide +kernel
theorem dX12_spelt_10 : decode cX12_spelt 10 = .ok (.iload_n 1, 1) := by decide +kernel
theorem dX12_spelt_11 : decode cX12_spelt 11 = .ok (.i2l, 1) := by decide +kernel
theorem dX12_spelt_12 : decode cX12_spelt 12 = .ok (.ladd, 1) := by decide +kernel
theorem dX12_spelt_13 : decode cX12_spelt 13 = .ok (.ldc2_w 130, 3) := by decide +kernel
theorem dX12_spelt_16 : decode cX12_spelt 16 = .ok (.lsub, 1) := by decide +kernel
theorem dX12_spelt_17 : decode cX12_spelt 17 = .ok (.lstore 7, 2) := by decide +kernel
theorem dX12_spelt_19 : decode cX12_spelt 19 = .ok (.iload_n 2, 1) := by decide +kernel
theorem dX12_spelt_20 : decode cX12_spelt 20 = .ok (.ifCond .le 18, 3) := by decide +kernel
theorem dX12_spelt_23 : decode cX12_spelt 23 = .ok (.ldc2_w 128, 3) := by decide +kernel
theorem dX12_spelt_26 : decode cX12_spelt 26 = .ok (.lload 7, 2) := by decide +kernel
theorem dX12_spelt_28 : decode cX12_spelt 28 = .ok (.lmul, 1) := by decide +kernel
theorem dX12_spelt_29 : decode cX12_spelt 29 = .ok (.iload_n 2, 1) := by decide +kernel
theorem dX12_spelt_30 : decode cX12_spelt 30 = .ok (.i2l, 1) := by decide +kernel
theorem dX12_spelt_31 : decode cX12_spelt 31 = .ok (.ladd, 1) := by decide +kernel
theorem dX12_spelt_32 : decode cX12_spelt 32 = .ok (.ldc2_w 130, 3) := by decide +kernel
theorem dX12_spelt_35 : decode cX12_spelt 35 = .ok (.lsub, 1) := by decide +kernel
theorem dX12_spelt_36 : decode cX12_spelt 36 = .ok (.lstore 7, 2) := by decide +kernel
theorem dX12_spelt_38 : decode cX12_spelt 38 = .ok (.iload_n 3, 1) := by decide +kernel
theorem dX12_spelt_39 : decode cX12_spelt 39 = .ok (.ifCond .le 18, 3) := by decide +kernel
theorem dX12_spelt_42 : decode cX12_spelt 42 = .ok (.ldc2_w 128, 3) := by decide +kernel
theorem dX12_spelt_45 : decode cX12_spelt 45 = .ok (.lload 7, 2) := by decide +kernel
theorem dX12_spelt_47 : decode cX12_spelt 47 = .ok (.lmul, 1) := by decide +kernel
theorem dX12_spelt_48 : decode cX12_spelt 48 = .ok (.iload_n 3, 1) := by decide +kernel
theorem dX12_spelt_49 : decode cX12_spelt 49 = .ok (.i2l, 1) := by decide +kernel
theorem dX12_spelt_50 : decode cX12_spelt 50 = .ok (.ladd, 1) := by decide +kernel
theorem dX12_spelt_51 : decode cX12_spelt 51 = .ok (.ldc2_w 130, 3) := by decide +kernel
theorem dX12_spelt_54 : decode cX12_spelt 54 = .ok (.lsub, 1) := by decide +kernel
theorem dX12_spelt_55 : decode cX12_spelt 55 = .ok (.lstore 7, 2) := by decide +kernel
theorem dX12_spelt_57 : decode cX12_spelt 57 = .ok (.iload 4, 2) := by decide +kernel
theorem dX12_spelt_59 : decode cX12_spelt 59 = .ok (.ifCond .le 19, 3) := by decide +kernel
theorem dX12_spelt_62 : decode cX12_spelt 62 = .ok (.ldc2_w 128, 3) := by decide +kernel
theorem dX12_spelt_65 : decode cX12_spelt 65 = .ok (.lload 7, 2) := by decide +kernel
theorem dX12_spelt_67 : decode cX12_spelt 67 = .ok (.lmul, 1) := by decide +kernel
theorem dX12_spelt_68 : decode cX12_spelt 68 = .ok (.iload 4, 2) := by decide +kernel
theorem dX12_spelt_70 : decode cX12_spelt 70 = .ok (.i2l, 1) := by decide +kernel
theorem dX12_spelt_71 : decode cX12_spelt 71 = .ok (.ladd, 1) := by decide +kernel
theorem dX12_spelt_72 : decode cX12_spelt 72 = .ok (.ldc2_w 130, 3) := by decide +kernel
theorem dX12_spelt_75 : decode cX12_spelt 75 = .ok (.lsub, 1) := by decide +kernel
theorem dX12_spelt_76 : decode cX12_spelt 76 = .ok (.lstore 7, 2) := by decide +kernel
theorem dX12_spelt_78 : decode cX12_spelt 78 = .ok (.iload 5, 2) := by decide +kernel
theorem dX12_spelt_80 : decode cX12_spelt 80 = .ok (.ifCond .le 19, 3) := by decide +kernel
theorem dX12_spelt_83 : decode cX12_spelt 83 = .ok (.ldc2_w 128, 3) := by decide +kernel
theorem dX12_spelt_86 : decode cX12_spelt 86 = .ok (.lload 7, 2) := by decide +kernel
theorem dX12_spelt_88 : decode cX12_spelt 88 = .ok (.lmul, 1) := by decide +kernel
theorem dX12_spelt_89 : decode cX12_spelt 89 = .ok (.iload 5, 2) := by decide +kernel
theorem dX12_spelt_91 : decode cX12_spelt 91 = .ok (.i2l, 1) := by decide +kernel
theorem dX12_spelt_92 : decode cX12_spelt 92 = .ok (.ladd, 1) := by decide +kernel
theorem dX12_spelt_93 : decode cX12_spelt 93 = .ok (.ldc2_w 130, 3) := by decide +kernel
theorem dX12_spelt_96 : decode cX12_spelt 96 = .ok (.lsub, 1) := by decide +kernel
theorem dX12_spelt_97 : decode cX12_spelt 97 = .ok (.lstore 7, 2) := by decide +kernel
theorem dX12_spelt_99 : decode cX12_spelt 99 = .ok (.iload 6, 2) := by decide +kernel
theorem dX12_spelt_101 : decode cX12_spelt 101 = .ok (.ifCond .le 19, 3) := by decide +kernel
theorem dX12_spelt_104 : decode cX12_spelt 104 = .ok (.ldc2_w 128, 3) := by decide +kernel
theorem dX12_spelt_107 : decode cX12_spelt 107 = .ok (.lload 7, 2) := by decide +kernel
theorem dX12_spelt_109 : decode cX12_spelt 109 = .ok (.lmul, 1) := by decide +kernel
theorem dX12_spelt_110 : decode cX12_spelt 110 = .ok (.iload 6, 2) := by decide +kernel
theorem dX12_spelt_112 : decode cX12_spelt 112 = .ok (.i2l, 1) := by decide +kernel
theorem dX12_spelt_113 : decode cX12_spelt 113 = .ok (.ladd, 1) := by decide +kernel
theorem dX12_spelt_114 : decode cX12_spelt 114 = .ok (.ldc2_w 130, 3) := by decide +kernel
theorem dX12_spelt_117 : decode cX12_spelt 117 = .ok (.lsub, 1) := by decide +kernel
theorem dX12_spelt_118 : decode cX12_spelt 118 = .ok (.lstore 7, 2) := by decide +kernel
theorem dX12_spelt_120 : decode cX12_spelt 120 = .ok (.lload 7, 2) := by decide +kernel
theorem dX12_spelt_122 : decode cX12_spelt 122 = .ok (.lreturn, 1) := by decide +kernel
theorem dX12_take_0 : decode cX12_take 0 = .ok (.aload_n 0, 1) := by decide +kernel
theorem dX12_take_1 : decode cX12_take 1 = .ok (.getfield 85, 3) := by decide +kernel
theorem dX12_take_4 : decode cX12_take 4 = .ok (.istore_n 1, 1) := by decide +kernel
theorem dX12_take_5 : decode cX12_take 5 = .ok (.aload_n 0, 1) := by decide +kernel
theorem dX12_take_6 : decode cX12_take 6 = .ok (.iconst 0, 1) := by decide +kernel
theorem dX12_take_7 : decode cX12_take 7 = .ok (.putfield 85, 3) := by decide +kernel
theorem dX12_take_10 : decode cX12_take 10 = .ok (.iload_n 1, 1) := by decide +kernel
theorem dX12_take_11 : decode cX12_take 11 = .ok (.ireturn, 1) := by decide +kernel
theorem dX12_tapeAt_0 : decode cX12_tapeAt 0 = .ok (.iload_n 1, 1) := by decide +kernel
theorem dX12_tapeAt_1 : decode cX12_tapeAt 1 = .ok (.aload_n 0, 1) := by decide +kernel
theorem dX12_tapeAt_2 : decode cX12_tapeAt 2 = .ok (.getfield 92, 3) := by decide +kernel
theorem dX12_tapeAt_5 : decode cX12_tapeAt 5 = .ok (.if_icmp .ge 12, 3) := by decide +kernel
theorem dX12_tapeAt_8 : decode cX12_tapeAt 8 = .ok (.aload_n 0, 1) := by decide +kernel
theorem dX12_tapeAt_9 : decode cX12_tapeAt 9 = .ok (.getfield 7, 3) := by decide +kernel
theorem dX12_tapeAt_12 : decode cX12_tapeAt 12 = .ok (.iload_n 1, 1) := by decide +kernel
theorem dX12_tapeAt_13 : decode cX12_tapeAt 13 = .ok (.iaload, 1) := by decide +kernel
theorem dX12_tapeAt_14 : decode cX12_tapeAt 14 = .ok (.goto 4, 3) := by decide +kernel
theorem dX12_tapeAt_17 : decode cX12_tapeAt 17 = .ok (.iconst 0, 1) := by decide +kernel
theorem dX12_tapeAt_18 : decode cX12_tapeAt 18 = .ok (.ireturn, 1) := by decide +kernel
theorem dX12_wordOf_0 : decode cX12_wordOf 0 = .ok (.iload_n 0, 1) := by decide +kernel
theorem dX12_wordOf_1 : decode cX12_wordOf 1 = .ok (.tableswitch 544 0 26 #[123, 140, 155, 172, 188, 202, 217, 233, 249, 264, 279, 296, 312, 330, 348, 363, 378, 391, 405, 419, 434, 452, 468, 481, 495, 511, 527], 123) := by decide +kernel
theorem dX12_wordOf_124 : decode cX12_wordOf 124 = .ok (.bipush 112, 2) := by decide +kernel
theorem dX12_wordOf_126 : decode cX12_wordOf 126 = .ok (.bipush 101, 2) := by decide +kernel
theorem dX12_wordOf_128 : decode cX12_wordOf 128 = .ok (.bipush 114, 2) := by decide +kernel
theorem dX12_wordOf_130 : decode cX12_wordOf 130 = .ok (.bipush 115, 2) := by decide +kernel
theorem dX12_wordOf_132 : decode cX12_wordOf 132 = .ok (.bipush 111, 2) := by decide +kernel
theorem dX12_wordOf_134 : decode cX12_wordOf 134 = .ok (.bipush 110, 2) := by decide +kernel
theorem dX12_wordOf_136 : decode cX12_wordOf 136 = .ok (.iconst 0, 1) := by decide +kernel
theorem dX12_wordOf_137 : decode cX12_wordOf 137 = .ok (.invokestatic 132, 3) := by decide +kernel
theorem dX12_wordOf_140 : decode cX12_wordOf 140 = .ok (.lreturn, 1) := by decide +kernel
theorem dX12_wordOf_141 : decode cX12_wordOf 141 = .ok (.bipush 100, 2) := by decide +kernel
theorem dX12_wordOf_143 : decode cX12_wordOf 143 = .ok (.bipush 105, 2) := by decide +kernel
theorem dX12_wordOf_145 : decode cX12_wordOf 145 = .ok (.bipush 115, 2) := by decide +kernel
theorem dX12_wordOf_147 : decode cX12_wordOf 147 = .ok (.bipush 104, 2) := by decide +kernel
theorem dX12_wordOf_149 : decode cX12_wordOf 149 = .ok (.iconst 0, 1) := by decide +kernel
theorem dX12_wordOf_150 : decode cX12_wordOf 150 = .ok (.iconst 0, 1) := by decide +kernel
theorem dX12_wordOf_151 : decode cX12_wordOf 151 = .ok (.iconst 0, 1) := by decide +kernel
theorem dX12_wordOf_152 : decode cX12_wordOf 152 = .ok (.invokestatic 132, 3) := by decide +kernel
theorem dX12_wordOf_155 : decode cX12_wordOf 155 = .ok (.lreturn, 1) := by decide +kernel
theorem dX12_wordOf_156 : decode cX12_wordOf 156 = .ok (.bipush 115, 2) := by decide +kernel
theorem dX12_wordOf_158 : decode cX12_wordOf 158 = .ok (.bipush 112, 2) := by decide +kernel
theorem dX12_wordOf_160 : decode cX12_wordOf 160 = .ok (.bipush 111, 2) := by decide +kernel
theorem dX12_wordOf_162 : decode cX12_wordOf 162 = .ok (.bipush 105, 2) := by decide +kernel
theorem dX12_wordOf_164 : decode cX12_wordOf 164 = .ok (.bipush 108, 2) := by decide +kernel
theorem dX12_wordOf_166 : decode cX12_wordOf 166 = .ok (.bipush 115, 2) := by decide +kernel
theorem dX12_wordOf_168 : decode cX12_wordOf 168 = .ok (.iconst 0, 1) := by decide +kernel
theorem dX12_wordOf_169 : decode cX12_wordOf 169 = .ok (.invokestatic 132, 3) := by decide +kernel
theorem dX12_wordOf_172 : decode cX12_wordOf 172 = .ok (.lreturn, 1) := by decide +kernel
theorem dX12_wordOf_173 : decode cX12_wordOf 173 = .ok (.bipush 112, 2) := by decide +kernel
theorem dX12_wordOf_175 : decode cX12_wordOf 175 = .ok (.bipush 108, 2) := by decide +kernel
theorem dX12_wordOf_177 : decode cX12_wordOf 177 = .ok (.bipush 97, 2) := by decide +kernel
theorem dX12_wordOf_179 : decode cX12_wordOf 179 = .ok (.bipush 116, 2) := by decide +kernel
theorem dX12_wordOf_181 : decode cX12_wordOf 181 = .ok (.bipush 101, 2) := by decide +kernel
theorem dX12_wordOf_183 : decode cX12_wordOf 183 = .ok (.iconst 0, 1) := by decide +kernel
theorem dX12_wordOf_184 : decode cX12_wordOf 184 = .ok (.iconst 0, 1) := by decide +kernel
theorem dX12_wordOf_185 : decode cX12_wordOf 185 = .ok (.invokestatic 132, 3) := by decide +kernel
theorem dX12_wordOf_188 : decode cX12_wordOf 188 = .ok (.lreturn, 1) := by decide +kernel
theorem dX12_wordOf_189 : decode cX12_wordOf 189 = .ok (.bipush 108, 2) := by decide +kernel
theorem dX12_wordOf_191 : decode cX12_wordOf 191 = .ok (.bipush 97, 2) := by decide +kernel
theorem dX12_wordOf_193 : decode cX12_wordOf 193 = .ok (.bipush 119, 2) := by decide +kernel
theorem dX12_wordOf_195 : decode cX12_wordOf 195 = .ok (.iconst 0, 1) := by decide +kernel
theorem dX12_wordOf_196 : decode cX12_wordOf 196 = .ok (.iconst 0, 1) := by decide +kernel
theorem dX12_wordOf_197 : decode cX12_wordOf 197 = .ok (.iconst 0, 1) := by decide +kernel
theorem dX12_wordOf_198 : decode cX12_wordOf 198 = .ok (.iconst 0, 1) := by decide +kernel
theorem dX12_wordOf_199 : decode cX12_wordOf 199 = .ok (.invokestatic 132, 3) := by decide +kernel
theorem dX12_wordOf_202 : decode cX12_wordOf 202 = .ok (.lreturn, 1) := by decide +kernel
theorem dX12_wordOf_203 : decode cX12_wordOf 203 = .ok (.bipush 110, 2) := by decide +kernel
theorem dX12_wordOf_205 : decode cX12_wordOf 205 = .ok (.bipush 101, 2) := by decide +kernel
theorem dX12_wordOf_207 : decode cX12_wordOf 207 = .ok (.bipush 120, 2) := by decide +kernel
theorem dX12_wordOf_209 : decode cX12_wordOf 209 = .ok (.bipush 116, 2) := by decide +kernel
theorem dX12_wordOf_211 : decode cX12_wordOf 211 = .ok (.iconst 0, 1) := by decide +kernel
theorem dX12_wordOf_212 : decode cX12_wordOf 212 = .ok (.iconst 0, 1) := by decide +kernel
theorem dX12_wordOf_213 : decode cX12_wordOf 213 = .ok (.iconst 0, 1) := by decide +kernel
theorem dX12_wordOf_214 : decode cX12_wordOf 214 = .ok (.invokestatic 132, 3) := by decide +kernel
theorem dX12_wordOf_217 : decode cX12_wordOf 217 = .ok (.lreturn, 1) := by decide +kernel
theorem dX12_wordOf_218 : decode cX12_wordOf 218 = .ok (.bipush 99, 2) := by decide +kernel
theorem dX12_wordOf_220 : decode cX12_wordOf 220 = .ok (.bipush 104, 2) := by decide +kernel
theorem dX12_wordOf_222 : decode cX12_wordOf 222 = .ok (.bipush 105, 2) := by decide +kernel
theorem dX12_wordOf_224 : decode cX12_wordOf 224 = .ok (.bipush 108, 2) := by decide +kernel
theorem dX12_wordOf_226 : decode cX12_wordOf 226 = .ok (.bipush 100, 2) := by decide +kernel
theorem dX12_wordOf_228 : decode cX12_wordOf 228 = .ok (.iconst 0, 1) := by decide +kernel
theorem dX12_wordOf_229 : decode cX12_wordOf 229 = .ok (.iconst 0, 1) := by decide +kernel
theorem dX12_wordOf_230 : decode cX12_wordOf 230 = .ok (.invokestatic 132, 3) := by decide +kernel
theorem dX12_wordOf_233 : decode cX12_wordOf 233 = .ok (.lreturn, 1) := by decide +kernel
theorem dX12_wordOf_234 : decode cX12_wordOf 234 = .ok (.bipush 108, 2) := by decide +kernel
theorem dX12_wordOf_236 : decode cX12_wordOf 236 = .ok (.bipush 101, 2) := by decide +kernel
theorem dX12_wordOf_238 : decode cX12_wordOf 238 = .ok (.bipush 97, 2) := by decide +kernel
theorem dX12_wordOf_240 : decode cX12_wordOf 240 = .ok (.bipush 115, 2) := by decide +kernel
theorem dX12_wordOf_242 : decode cX12_wordOf 242 = .ok (.bipush 116, 2) := by decide +kernel
theorem dX12_wordOf_244 : decode cX12_wordOf 244 = .ok (.iconst 0, 1) := by decide +kernel
theorem dX12_wordOf_245 : decode cX12_wordOf 245 = .ok (.iconst 0, 1) := by decide +kernel
theorem dX12_wordOf_246 : decode cX12_wordOf 246 = .ok (.invokestatic 132, 3) := by decide +kernel
theorem dX12_wordOf_249 : decode cX12_wordOf 249 = .ok (.lreturn, 1) := by decide +kernel
theorem dX12_wordOf_250 : decode cX12_wordOf 250 = .ok (.bipush 100, 2) := by decide +kernel
theorem dX12_wordOf_252 : decode cX12_wordOf 252 = .ok (.bipush 111, 2) := by decide +kernel
theorem dX12_wordOf_254 : decode cX12_wordOf 254 = .ok (.bipush 103, 2) := by decide +kernel
theorem dX12_wordOf_256 : decode cX12_wordOf 256 = .ok (.bipush 115, 2) := by decide +kernel
theorem dX12_wordOf_258 : decode cX12_wordOf 258 = .ok (.iconst 0, 1) := by decide +kernel
theorem dX12_wordOf_259 : decode cX12_wordOf 259 = .ok (.iconst 0, 1) := by decide +kernel
theorem dX12_wordOf_260 : decode cX12_wordOf 260 = .ok (.iconst 0, 1) := by decide +kernel
theorem dX12_wordOf_261 : decode cX12_wordOf 261 = .ok (.invokestatic 132, 3) := by decide +kernel
theorem dX12_wordOf_264 : decode cX12_wordOf 264 = .ok (.lreturn, 1) := by decide +kernel
theorem dX12_wordOf_265 : decode cX12_wordOf 265 = .ok (.bipush 101, 2) := by decide +kernel
theorem dX12_wordOf_267 : decode cX12_wordOf 267 = .ok (.bipush 97, 2) := by decide +kernel
theorem dX12_wordOf_269 : decode cX12_wordOf 269 = .ok (.bipush 116, 2) := by decide +kernel
theorem dX12_wordOf_271 : decode cX12_wordOf 271 = .ok (.bipush 115, 2) := by decide +kernel
theorem dX12_wordOf_273 : decode cX12_wordOf 273 = .ok (.iconst 0, 1) := by decide +kernel
theorem dX12_wordOf_274 : decode cX12_wordOf 274 = .ok (.iconst 0, 1) := by decide +kernel
theorem dX12_wordOf_275 : decode cX12_wordOf 275 = .ok (.iconst 0, 1) := by decide +kernel
theorem dX12_wordOf_276 : decode cX12_wordOf 276 = .ok (.invokestatic 132, 3) := by decide +kernel
theorem dX12_wordOf_279 : decode cX12_wordOf 279 = .ok (.lreturn, 1) := by decide +kernel
theorem dX12_wordOf_280 : decode cX12_wordOf 280 = .ok (.bipush 115, 2) := by decide +kernel
theorem dX12_wordOf_282 : decode cX12_wordOf 282 = .ok (.bipush 101, 2) := by decide +kernel
theorem dX12_wordOf_284 : decode cX12_wordOf 284 = .ok (.bipush 114, 2) := by decide +kernel
theorem dX12_wordOf_286 : decode cX12_wordOf 286 = .ok (.bipush 118, 2) := by decide +kernel
theorem dX12_wordOf_288 : decode cX12_wordOf 288 = .ok (.bipush 101, 2) := by decide +kernel
theorem dX12_wordOf_290 : decode cX12_wordOf 290 = .ok (.bipush 100, 2) := by decide +kernel
theorem dX12_wordOf_292 : decode cX12_wordOf 292 = .ok (.iconst 0, 1) := by decide +kernel
theorem dX12_wordOf_293 : decode cX12_wordOf 293 = .ok (.invokestatic 132, 3) := by decide +kernel
theorem dX12_wordOf_296 : decode cX12_wordOf 296 = .ok (.lreturn, 1) := by decide +kernel
theorem dX12_wordOf_297 : decode cX12_wordOf 297 = .ok (.bipush 114, 2) := by decide +kernel
theorem dX12_wordOf_299 : decode cX12_wordOf 299 = .ok (.bipush 105, 2) := by decide +kernel
theorem dX12_wordOf_301 : decode cX12_wordOf 301 = .ok (.bipush 115, 2) := by decide +kernel
theorem dX12_wordOf_303 : decode cX12_wordOf 303 = .ok (.bipush 101, 2) := by decide +kernel
theorem dX12_wordOf_305 : decode cX12_wordOf 305 = .ok (.bipush 115, 2) := by decide +kernel
theorem dX12_wordOf_307 : decode cX12_wordOf 307 = .ok (.iconst 0, 1) := by decide +kernel
theorem dX12_wordOf_308 : decode cX12_wordOf 308 = .ok (.iconst 0, 1) := by decide +kernel
theorem dX12_wordOf_309 : decode cX12_wordOf 309 = .ok (.invokestatic 132, 3) := by decide +kernel
theorem dX12_wordOf_312 : decode cX12_wordOf 312 = .ok (.lreturn, 1) := by decide +kernel
theorem dX12_wordOf_313 : decode cX12_wordOf 313 = .ok (.bipush 114, 2) := by decide +kernel
theorem dX12_wordOf_315 : decode cX12_wordOf 315 = .ok (.bipush 101, 2) := by decide +kernel
theorem dX12_wordOf_317 : decode cX12_wordOf 317 = .ok (.bipush 102, 2) := by decide +kernel
theorem dX12_wordOf_319 : decode cX12_wordOf 319 = .ok (.bipush 117, 2) := by decide +kernel
theorem dX12_wordOf_321 : decode cX12_wordOf 321 = .ok (.bipush 115, 2) := by decide +kernel
theorem dX12_wordOf_323 : decode cX12_wordOf 323 = .ok (.bipush 101, 2) := by decide +kernel
theorem dX12_wordOf_325 : decode cX12_wordOf 325 = .ok (.bipush 115, 2) := by decide +kernel
theorem dX12_wordOf_327 : decode cX12_wordOf 327 = .ok (.invokestatic 132, 3) := by decide +kernel
theorem dX12_wordOf_330 : decode cX12_wordOf 330 = .ok (.lreturn, 1) := by decide +kernel
theorem dX12_wordOf_331 : decode cX12_wordOf 331 = .ok (.bipush 97, 2) := by decide +kernel
theorem dX12_wordOf_333 : decode cX12_wordOf 333 = .ok (.bipush 99, 2) := by decide +kernel
theorem dX12_wordOf_335 : decode cX12_wordOf 335 = .ok (.bipush 99, 2) := by decide +kernel
theorem dX12_wordOf_337 : decode cX12_wordOf 337 = .ok (.bipush 101, 2) := by decide +kernel
theorem dX12_wordOf_339 : decode cX12_wordOf 339 = .ok (.bipush 112, 2) := by decide +kernel
theorem dX12_wordOf_341 : decode cX12_wordOf 341 = .ok (.bipush 116, 2) := by decide +kernel
theorem dX12_wordOf_343 : decode cX12_wordOf 343 = .ok (.bipush 115, 2) := by decide +kernel
theorem dX12_wordOf_345 : decode cX12_wordOf 345 = .ok (.invokestatic 132, 3) := by decide +kernel
theorem dX12_wordOf_348 : decode cX12_wordOf 348 = .ok (.lreturn, 1) := by decide +kernel
theorem dX12_wordOf_349 : decode cX12_wordOf 349 = .ok (.bipush 100, 2) := by decide +kernel
theorem dX12_wordOf_351 : decode cX12_wordOf 351 = .ok (.bipush 105, 2) := by decide +kernel
theorem dX12_wordOf_353 : decode cX12_wordOf 353 = .ok (.bipush 101, 2) := by decide +kernel
theorem dX12_wordOf_355 : decode cX12_wordOf 355 = .ok (.bipush 115, 2) := by decide +kernel
theorem dX12_wordOf_357 : decode cX12_wordOf 357 = .ok (.iconst 0, 1) := by decide +kernel
theorem dX12_wordOf_358 : decode cX12_wordOf 358 = .ok (.iconst 0, 1) := by decide +kernel
theorem dX12_wordOf_359 : decode cX12_wordOf 359 = .ok (.iconst 0, 1) := by decide +kernel
theorem dX12_wordOf_360 : decode cX12_wordOf 360 = .ok (.invokestatic 132, 3) := by decide +kernel
theorem dX12_wordOf_363 : decode cX12_wordOf 363 = .ok (.lreturn, 1) := by decide +kernel
theorem dX12_wordOf_364 : decode cX12_wordOf 364 = .ok (.bipush 109, 2) := by decide +kernel
theorem dX12_wordOf_366 : decode cX12_wordOf 366 = .ok (.bipush 101, 2) := by decide +kernel
theorem dX12_wordOf_368 : decode cX12_wordOf 368 = .ok (.bipush 97, 2) := by decide +kernel
theorem dX12_wordOf_370 : decode cX12_wordOf 370 = .ok (.bipush 108, 2) := by decide +kernel
theorem dX12_wordOf_372 : decode cX12_wordOf 372 = .ok (.iconst 0, 1) := by decide +kernel
theorem dX12_wordOf_373 : decode cX12_wordOf 373 = .ok (.iconst 0, 1) := by decide +kernel
theorem dX12_wordOf_374 : decode cX12_wordOf 374 = .ok (.iconst 0, 1) := by decide +kernel
theorem dX12_wordOf_375 : decode cX12_wordOf 375 = .ok (.invokestatic 132, 3) := by decide +kernel
theorem dX12_wordOf_378 : decode cX12_wordOf 378 = .ok (.lreturn, 1) := by decide +kernel
theorem dX12_wordOf_379 : decode cX12_wordOf 379 = .ok (.bipush 111, 2) := by decide +kernel
theorem dX12_wordOf_381 : decode cX12_wordOf 381 = .ok (.bipush 114, 2) := by decide +kernel
theorem dX12_wordOf_383 : decode cX12_wordOf 383 = .ok (.iconst 0, 1) := by decide +kernel
theorem dX12_wordOf_384 : decode cX12_wordOf 384 = .ok (.iconst 0, 1) := by decide +kernel
theorem dX12_wordOf_385 : decode cX12_wordOf 385 = .ok (.iconst 0, 1) := by decide +kernel
theorem dX12_wordOf_386 : decode cX12_wordOf 386 = .ok (.iconst 0, 1) := by decide +kernel
theorem dX12_wordOf_387 : decode cX12_wordOf 387 = .ok (.iconst 0, 1) := by decide +kernel
theorem dX12_wordOf_388 : decode cX12_wordOf 388 = .ok (.invokestatic 132, 3) := by decide +kernel
theorem dX12_wordOf_391 : decode cX12_wordOf 391 = .ok (.lreturn, 1) := by decide +kernel
theorem dX12_wordOf_392 : decode cX12_wordOf 392 = .ok (.bipush 97, 2) := by decide +kernel
theorem dX12_wordOf_394 : decode cX12_wordOf 394 = .ok (.bipush 110, 2) := by decide +kernel
theorem dX12_wordOf_396 : decode cX12_wordOf 396 = .ok (.bipush 100, 2) := by decide +kernel
theorem dX12_wordOf_398 : decode cX12_wordOf 398 = .ok (.iconst 0, 1) := by decide +kernel
theorem dX12_wordOf_399 : decode cX12_wordOf 399 = .ok (.iconst 0, 1) := by decide +kernel
theorem dX12_wordOf_400 : decode cX12_wordOf 400 = .ok (.iconst 0, 1) := by decide +kernel
theorem dX12_wordOf_401 : decode cX12_wordOf 401 = .ok (.iconst 0, 1) := by decide +kernel
theorem dX12_wordOf_402 : decode cX12_wordOf 402 = .ok (.invokestatic 132, 3) := by decide +kernel
theorem dX12_wordOf_405 : decode cX12_wordOf 405 = .ok (.lreturn, 1) := by decide +kernel
theorem dX12_wordOf_406 : decode cX12_wordOf 406 = .ok (.bipush 110, 2) := by decide +kernel
theorem dX12_wordOf_408 : decode cX12_wordOf 408 = .ok (.bipush 111, 2) := by decide +kernel
theorem dX12_wordOf_410 : decode cX12_wordOf 410 = .ok (.bipush 116, 2) := by decide +kernel
theorem dX12_wordOf_412 : decode cX12_wordOf 412 = .ok (.iconst 0, 1) := by decide +kernel
theorem dX12_wordOf_413 : decode cX12_wordOf 413 = .ok (.iconst 0, 1) := by decide +kernel
theorem dX12_wordOf_414 : decode cX12_wordOf 414 = .ok (.iconst 0, 1) := by decide +kernel
theorem dX12_wordOf_415 : decode cX12_wordOf 415 = .ok (.iconst 0, 1) := by decide +kernel
theorem dX12_wordOf_416 : decode cX12_wordOf 416 = .ok (.invokestatic 132, 3) := by decide +kernel
theorem dX12_wordOf_419 : decode cX12_wordOf 419 = .ok (.lreturn, 1) := by decide +kernel
theorem dX12_wordOf_420 : decode cX12_wordOf 420 = .ok (.bipush 100, 2) := by decide +kernel
theorem dX12_wordOf_422 : decode cX12_wordOf 422 = .ok (.bipush 101, 2) := by decide +kernel
theorem dX12_wordOf_424 : decode cX12_wordOf 424 = .ok (.bipush 97, 2) := by decide +kernel
theorem dX12_wordOf_426 : decode cX12_wordOf 426 = .ok (.bipush 100, 2) := by decide +kernel
theorem dX12_wordOf_428 : decode cX12_wordOf 428 = .ok (.iconst 0, 1) := by decide +kernel
theorem dX12_wordOf_429 : decode cX12_wordOf 429 = .ok (.iconst 0, 1) := by decide +kernel
theorem dX12_wordOf_430 : decode cX12_wordOf 430 = .ok (.iconst 0, 1) := by decide +kernel
theorem dX12_wordOf_431 : decode cX12_wordOf 431 = .ok (.invokestatic 132, 3) := by decide +kernel
theorem dX12_wordOf_434 : decode cX12_wordOf 434 = .ok (.lreturn, 1) := by decide +kernel
theorem dX12_wordOf_435 : decode cX12_wordOf 435 = .ok (.bipush 114, 2) := by decide +kernel
theorem dX12_wordOf_437 : decode cX12_wordOf 437 = .ok (.bipush 101, 2) := by decide +kernel
theorem dX12_wordOf_439 : decode cX12_wordOf 439 = .ok (.bipush 102, 2) := by decide +kernel
theorem dX12_wordOf_441 : decode cX12_wordOf 441 = .ok (.bipush 117, 2) := by decide +kernel
theorem dX12_wordOf_443 : decode cX12_wordOf 443 = .ok (.bipush 115, 2) := by decide +kernel
theorem dX12_wordOf_445 : decode cX12_wordOf 445 = .ok (.bipush 101, 2) := by decide +kernel
theorem dX12_wordOf_447 : decode cX12_wordOf 447 = .ok (.bipush 100, 2) := by decide +kernel
theorem dX12_wordOf_449 : decode cX12_wordOf 449 = .ok (.invokestatic 132, 3) := by decide +kernel
theorem dX12_wordOf_452 : decode cX12_wordOf 452 = .ok (.lreturn, 1) := by decide +kernel
theorem dX12_wordOf_453 : decode cX12_wordOf 453 = .ok (.bipush 99, 2) := by decide +kernel
theorem dX12_wordOf_455 : decode cX12_wordOf 455 = .ok (.bipush 108, 2) := by decide +kernel
theorem dX12_wordOf_457 : decode cX12_wordOf 457 = .ok (.bipush 101, 2) := by decide +kernel
theorem dX12_wordOf_459 : decode cX12_wordOf 459 = .ok (.bipush 97, 2) := by decide +kernel
theorem dX12_wordOf_461 : decode cX12_wordOf 461 = .ok (.bipush 110, 2) := by decide +kernel
theorem dX12_wordOf_463 : decode cX12_wordOf 463 = .ok (.iconst 0, 1) := by decide +kernel
theorem dX12_wordOf_464 : decode cX12_wordOf 464 = .ok (.iconst 0, 1) := by decide +kernel
theorem dX12_wordOf_465 : decode cX12_wordOf 465 = .ok (.invokestatic 132, 3) := by decide +kernel
theorem dX12_wordOf_468 : decode cX12_wordOf 468 = .ok (.lreturn, 1) := by decide +kernel
theorem dX12_wordOf_469 : decode cX12_wordOf 469 = .ok (.bipush 111, 2) := by decide +kernel
theorem dX12_wordOf_471 : decode cX12_wordOf 471 = .ok (.bipush 102, 2) := by decide +kernel
theorem dX12_wordOf_473 : decode cX12_wordOf 473 = .ok (.iconst 0, 1) := by decide +kernel
theorem dX12_wordOf_474 : decode cX12_wordOf 474 = .ok (.iconst 0, 1) := by decide +kernel
theorem dX12_wordOf_475 : decode cX12_wordOf 475 = .ok (.iconst 0, 1) := by decide +kernel
theorem dX12_wordOf_476 : decode cX12_wordOf 476 = .ok (.iconst 0, 1) := by decide +kernel
theorem dX12_wordOf_477 : decode cX12_wordOf 477 = .ok (.iconst 0, 1) := by decide +kernel
theorem dX12_wordOf_478 : decode cX12_wordOf 478 = .ok (.invokestatic 132, 3) := by decide +kernel
theorem dX12_wordOf_481 : decode cX12_wordOf 481 = .ok (.lreturn, 1) := by decide +kernel
theorem dX12_wordOf_482 : decode cX12_wordOf 482 = .ok (.bipush 104, 2) := by decide +kernel
theorem dX12_wordOf_484 : decode cX12_wordOf 484 = .ok (.bipush 97, 2) := by decide +kernel
theorem dX12_wordOf_486 : decode cX12_wordOf 486 = .ok (.bipush 115, 2) := by decide +kernel
theorem dX12_wordOf_488 : decode cX12_wordOf 488 = .ok (.iconst 0, 1) := by decide +kernel
theorem dX12_wordOf_489 : decode cX12_wordOf 489 = .ok (.iconst 0, 1) := by decide +kernel
theorem dX12_wordOf_490 : decode cX12_wordOf 490 = .ok (.iconst 0, 1) := by decide +kernel
theorem dX12_wordOf_491 : decode cX12_wordOf 491 = .ok (.iconst 0, 1) := by decide +kernel
theorem dX12_wordOf_492 : decode cX12_wordOf 492 = .ok (.invokestatic 132, 3) := by decide +kernel
theorem dX12_wordOf_495 : decode cX12_wordOf 495 = .ok (.lreturn, 1) := by decide +kernel
theorem dX12_wordOf_496 : decode cX12_wordOf 496 = .ok (.bipush 119, 2) := by decide +kernel
theorem dX12_wordOf_498 : decode cX12_wordOf 498 = .ok (.bipush 97, 2) := by decide +kernel
theorem dX12_wordOf_500 : decode cX12_wordOf 500 = .ok (.bipush 110, 2) := by decide +kernel
theorem dX12_wordOf_502 : decode cX12_wordOf 502 = .ok (.bipush 116, 2) := by decide +kernel
theorem dX12_wordOf_504 : decode cX12_wordOf 504 = .ok (.bipush 115, 2) := by decide +kernel
theorem dX12_wordOf_506 : decode cX12_wordOf 506 = .ok (.iconst 0, 1) := by decide +kernel
theorem dX12_wordOf_507 : decode cX12_wordOf 507 = .ok (.iconst 0, 1) := by decide +kernel
theorem dX12_wordOf_508 : decode cX12_wordOf 508 = .ok (.invokestatic 132, 3) := by decide +kernel
theorem dX12_wordOf_511 : decode cX12_wordOf 511 = .ok (.lreturn, 1) := by decide +kernel
theorem dX12_wordOf_512 : decode cX12_wordOf 512 = .ok (.bipush 101, 2) := by decide +kernel
theorem dX12_wordOf_514 : decode cX12_wordOf 514 = .ok (.bipush 97, 2) := by decide +kernel
theorem dX12_wordOf_516 : decode cX12_wordOf 516 = .ok (.bipush 116, 2) := by decide +kernel
theorem dX12_wordOf_518 : decode cX12_wordOf 518 = .ok (.bipush 101, 2) := by decide +kernel
theorem dX12_wordOf_520 : decode cX12_wordOf 520 = .ok (.bipush 110, 2) := by decide +kernel
theorem dX12_wordOf_522 : decode cX12_wordOf 522 = .ok (.iconst 0, 1) := by decide +kernel
theorem dX12_wordOf_523 : decode cX12_wordOf 523 = .ok (.iconst 0, 1) := by decide +kernel
theorem dX12_wordOf_524 : decode cX12_wordOf 524 = .ok (.invokestatic 132, 3) := by decide +kernel
theorem dX12_wordOf_527 : decode cX12_wordOf 527 = .ok (.lreturn, 1) := by decide +kernel
theorem dX12_wordOf_528 : decode cX12_wordOf 528 = .ok (.bipush 104, 2) := by decide +kernel
theorem dX12_wordOf_530 : decode cX12_wordOf 530 = .ok (.bipush 117, 2) := by decide +kernel
theorem dX12_wordOf_532 : decode cX12_wordOf 532 = .ok (.bipush 110, 2) := by decide +kernel
theorem dX12_wordOf_534 : decode cX12_wordOf 534 = .ok (.bipush 103, 2) := by decide +kernel
theorem dX12_wordOf_536 : decode cX12_wordOf 536 = .ok (.bipush 101, 2) := by decide +kernel
theorem dX12_wordOf_538 : decode cX12_wordOf 538 = .ok (.bipush 114, 2) := by decide +kernel
theorem dX12_wordOf_540 : decode cX12_wordOf 540 = .ok (.iconst 0, 1) := by decide +kernel
theorem dX12_wordOf_541 : decode cX12_wordOf 541 = .ok (.invokestatic 132, 3) := by decide +kernel
theorem dX12_wordOf_544 : decode cX12_wordOf 544 = .ok (.lreturn, 1) := by decide +kernel
theorem dX12_wordOf_545 : decode cX12_wordOf 545 = .ok (.bipush 110, 2) := by decide +kernel
theorem dX12_wordOf_547 : decode cX12_wordOf 547 = .ok (.bipush 117, 2) := by decide +kernel
theorem dX12_wordOf_549 : decode cX12_wordOf 549 = .ok (.bipush 109, 2) := by decide +kernel
theorem dX12_wordOf_551 : decode cX12_wordOf 551 = .ok (.bipush 98, 2) := by decide +kernel
theorem dX12_wordOf_553 : decode cX12_wordOf 553 = .ok (.bipush 101, 2) := by decide +kernel
theorem dX12_wordOf_555 : decode cX12_wordOf 555 = .ok (.bipush 114, 2) := by decide +kernel
theorem dX12_wordOf_557 : decode cX12_wordOf 557 = .ok (.iconst 0, 1) := by decide +kernel
theorem dX12_wordOf_558 : decode cX12_wordOf 558 = .ok (.invokestatic 132, 3) := by decide +kernel
theorem dX12_wordOf_561 : decode cX12_wordOf 561 = .ok (.lreturn, 1) := by decide +kernel
theorem rc_12 : Rg 12 12 12 := ⟨by decide, by decide⟩
theorem rc_13 : Rg 13 13 13 := ⟨by decide, by decide⟩
theorem rc_21 : Rg 21 21 21 := ⟨by decide, by decide⟩
theorem rc_22 : Rg 22 22 22 := ⟨by decide, by decide⟩
theorem rc_25 : Rg 25 25 25 := ⟨by decide, by decide⟩
theorem rc_26 : Rg 26 26 26 := ⟨by decide, by decide⟩
theorem rc_98 : Rg 98 98 98 := ⟨by decide, by decide⟩
theorem rc_104 : Rg 104 104 104 := ⟨by decide, by decide⟩
theorem rc_105 : Rg 105 105 105 := ⟨by decide, by decide⟩
theorem rc_108 : Rg 108 108 108 := ⟨by decide, by decide⟩
theorem rc_109 : Rg 109 109 109 := ⟨by decide, by decide⟩
theorem rc_110 : Rg 110 110 110 := ⟨by decide, by decide⟩
theorem rc_111 : Rg 111 111 111 := ⟨by decide, by decide⟩
theorem rc_112 : Rg 112 112 112 := ⟨by decide, by decide⟩
theorem rc_114 : Rg 114 114 114 := ⟨by decide, by decide⟩
theorem rc_115 : Rg 115 115 115 := ⟨by decide, by decide⟩
theorem rc_116 : Rg 116 116 116 := ⟨by decide, by decide⟩
theorem rc_117 : Rg 117 117 117 := ⟨by decide, by decide⟩
theorem rc_118 : Rg 118 118 118 := ⟨by decide, by decide⟩
theorem rc_119 : Rg 119 119 119 := ⟨by decide, by decide⟩
theorem rc_120 : Rg 120 120 120 := ⟨by decide, by decide⟩
set_option maxRecDepth 100000 in
set_option maxHeartbeats 8000000 in
theorem c_X12_come {l : Launch} {D : va_G} {cy : Nat → ClassId} {L : List Nat} {κ ln : Nat → Nat} {R : Nat → Nat → Option Nat} {I : Nat → Nat → Int32} {J : Nat → Nat → Int64} {ow : Nat → Nat × Nat} (W9 : ∀ a ∈ L, Shp L κ ln R ow a) {x : Nat} (hLx : x ∈ L) (hkx : κ x = 12) (a0 : Int32) (hU : Iw L κ R ow I) (hp0 : Rg 0 936 (I x 2)) : CtV l yX12_come cX12_come 3 none { frames := 0, cells := 0, slots := 0, locals := 0 } D cy L κ ln R I J [.ref x, .int a0] (fun I2 J2 => Iw L κ R ow I2 ∧ Fq L κ ow [1202, 82100] I I2 ∧ Fq L κ ow [] J J2 ∧ (I2 x 2).toInt = (I x 2).toInt + 4) := by
  refine CtV.of (by decide +kernel) (Nat.le_of_ble_eq_true rfl) ?_
  intro p e s m below meth c B K
  have C := B.1
  have hF : Fq L κ ow [1202, 82100] I I := fq_rf
  have hG : Fq L κ ow [] J J := fq_rf
  obtain ⟨xp0, hxp0, rxp0⟩ : ∃ z, I x 2 = z ∧ Rg 0 936 z := ⟨_, rfl, hp0⟩
  obtain ⟨b_1, hb_1, hb_1L, hb_1k, hb_1n, hb_1o⟩ := shp_a (W9 x hLx) hkx 1 14 940 rfl (by decide)
  refine g_lo (is := [0, 1]) (lo2 := [(0, .ref x), (1, .int a0)]) rfl ?_
  refine g_bipush C (v := 24) dX12_come_0 (by decide) ?_
  refine g_istore_n C dX12_come_2 rfl (by decide) (lo2 := [(2, .int 24), (0, .ref x), (1, .int a0)]) rfl ?_
  refine g_iload_n C 0 dX12_come_3 rfl rfl ?_
  refine g_if_lt C (tgt := 39) dX12_come_4 (by decide) (fun h_2 => ?_) (fun h_2 => ?_)
  · skip
    exact absurd (h_2) (by decide)
  · skip
    refine g_aload_n C 1 dX12_come_7 rfl rfl ?_
    refine g_getR C K hLx hkx f_12_7 hb_1 dX12_come_8 ?_
    refine g_aload_n C 1 dX12_come_11 rfl rfl ?_
    refine g_getI C K hLx hkx f_12_85 (v := xp0) hxp0 dX12_come_12 ?_
    refine g_iload_n C 2 dX12_come_15 rfl rfl ?_
    refine g_iload_n C 0 dX12_come_16 rfl rfl ?_
    obtain ⟨x_3, hx_3, rx_3⟩ := ex_any (z0 := (Int32.toUInt32 (a0) >>> (Int32.toUInt32 (24) &&& Int32.toUInt32 31)).toInt32)
    refine g_iushr C (v := x_3) dX12_come_17 hx_3 ?_
    refine g_sipush C (v := 255) dX12_come_18 (by decide) ?_
    obtain ⟨x_4, hx_4, rx_4⟩ := ex_andr (x := x_3) (y := 255) (b := 255) (rg_w rc_255 (by decide) (by decide))
    refine g_iand C (v := x_4) dX12_come_21 hx_4 ?_
    refine h_iast C K hb_1L hb_1k (xp0.toNatClampNeg) (rfl) (ix_0 rxp0 (by decide)) (ix_lt rxp0 (by decide) hb_1n (by decide)) dX12_come_22 (fun I_5 hI_5 => ?_)
    have hU_6 := iw_put W9 hU hI_5 (ro_a hb_1k (by decide) hb_1o hkx rfl) (lo := 0) (hi := 255) (rfl) (rx_4) rfl
    have hF_7 := fq_puta hF hI_5 (ro_a hb_1k (by decide) hb_1o hkx rfl) (by decide) (by decide)
    refine g_aload_n C 1 dX12_come_23 rfl rfl ?_
    refine g_dup C dX12_come_24 rfl ?_
    refine g_getI C K hLx hkx f_12_85 (v := xp0) (kp_k (κ := κ) hI_5 (by rw [hkx, hb_1k]; decide) hxp0) dX12_come_25 ?_
    refine g_iconst C (v := 1) dX12_come_28 (by decide) ?_
    obtain ⟨x_8, hx_8, rx_8, tx_8⟩ := ex_add 1 937 rxp0 rc_1 (by decide) (by decide) (by decide) (by decide)
    refine g_iadd C (v := x_8) dX12_come_29 hx_8 ?_
    refine h_putI C K hLx hkx f_12_85 p_12_2 dX12_come_30 (fun I_9 hI_9 => ?_)
    have hU_10 := iw_put W9 hU_6 hI_9 (ro_o hkx (by decide)) (lo := 0) (hi := 940) (rfl) (rg_w rx_8 (by decide) (by decide)) rfl
    have hF_11 := fq_puto hF_7 hI_9 hkx (by decide) (by decide)
    refine g_iinc C dX12_come_33 (k := 0) (v := 16) rfl (by decide) (by decide) (lo2 := [(2, .int 16), (0, .ref x), (1, .int a0)]) rfl ?_
    refine g_goto C (tgt := 3) dX12_come_36 (by decide) ?_
    refine g_iload_n C 0 dX12_come_3 rfl rfl ?_
    refine g_if_lt C (tgt := 39) dX12_come_4 (by decide) (fun h_12 => ?_) (fun h_12 => ?_)
    · skip
      exact absurd (h_12) (by decide)
    · skip
      refine g_aload_n C 1 dX12_come_7 rfl rfl ?_
      refine g_getR C K hLx hkx f_12_7 hb_1 dX12_come_8 ?_
      refine g_aload_n C 1 dX12_come_11 rfl rfl ?_
      refine g_getI C K hLx hkx f_12_85 (v := x_8) (kp_s hI_9) dX12_come_12 ?_
      refine g_iload_n C 2 dX12_come_15 rfl rfl ?_
      refine g_iload_n C 0 dX12_come_16 rfl rfl ?_
      obtain ⟨x_13, hx_13, rx_13⟩ := ex_any (z0 := (Int32.toUInt32 (a0) >>> (Int32.toUInt32 (16) &&& Int32.toUInt32 31)).toInt32)
      refine g_iushr C (v := x_13) dX12_come_17 hx_13 ?_
      refine g_sipush C (v := 255) dX12_come_18 (by decide) ?_
      obtain ⟨x_14, hx_14, rx_14⟩ := ex_andr (x := x_13) (y := 255) (b := 255) (rg_w rc_255 (by decide) (by decide))
      refine g_iand C (v := x_14) dX12_come_21 hx_14 ?_
      refine h_iast C K hb_1L hb_1k (x_8.toNatClampNeg) (rfl) (ix_0 rx_8 (by decide)) (ix_lt rx_8 (by decide) hb_1n (by decide)) dX12_come_22 (fun I_15 hI_15 => ?_)
      have hU_16 := iw_put W9 hU_10 hI_15 (ro_a hb_1k (by decide) hb_1o hkx rfl) (lo := 0) (hi := 255) (rfl) (rx_14) rfl
      have hF_17 := fq_puta hF_11 hI_15 (ro_a hb_1k (by decide) hb_1o hkx rfl) (by decide) (by decide)
      refine g_aload_n C 1 dX12_come_23 rfl rfl ?_
      refine g_dup C dX12_come_24 rfl ?_
      refine g_getI C K hLx hkx f_12_85 (v := x_8) (kp_k (κ := κ) hI_15 (by rw [hkx, hb_1k]; decide) (kp_s hI_9)) dX12_come_25 ?_
      refine g_iconst C (v := 1) dX12_come_28 (by decide) ?_
      obtain ⟨x_18, hx_18, rx_18, tx_18⟩ := ex_add 2 938 rx_8 rc_1 (by decide) (by decide) (by decide) (by decide)
      refine g_iadd C (v := x_18) dX12_come_29 hx_18 ?_
      refine h_putI C K hLx hkx f_12_85 p_12_2 dX12_come_30 (fun I_19 hI_19 => ?_)
      have hU_20 := iw_put W9 hU_16 hI_19 (ro_o hkx (by decide)) (lo := 0) (hi := 940) (rfl) (rg_w rx_18 (by decide) (by decide)) rfl
      have hF_21 := fq_puto hF_17 hI_19 hkx (by decide) (by decide)
      refine g_iinc C dX12_come_33 (k := 0) (v := 8) rfl (by decide) (by decide) (lo2 := [(2, .int 8), (0, .ref x), (1, .int a0)]) rfl ?_
      refine g_goto C (tgt := 3) dX12_come_36 (by decide) ?_
      refine g_iload_n C 0 dX12_come_3 rfl rfl ?_
      refine g_if_lt C (tgt := 39) dX12_come_4 (by decide) (fun h_22 => ?_) (fun h_22 => ?_)
      · skip
        exact absurd (h_22) (by decide)
      · skip
        refine g_aload_n C 1 dX12_come_7 rfl rfl ?_
        refine g_getR C K hLx hkx f_12_7 hb_1 dX12_come_8 ?_
        refine g_aload_n C 1 dX12_come_11 rfl rfl ?_
        refine g_getI C K hLx hkx f_12_85 (v := x_18) (kp_s hI_19) dX12_come_12 ?_
        refine g_iload_n C 2 dX12_come_15 rfl rfl ?_
        refine g_iload_n C 0 dX12_come_16 rfl rfl ?_
        obtain ⟨x_23, hx_23, rx_23⟩ := ex_ushr8 (x := a0)
        refine g_iushr C (v := x_23) dX12_come_17 hx_23 ?_
        refine g_sipush C (v := 255) dX12_come_18 (by decide) ?_
        obtain ⟨x_24, hx_24, rx_24⟩ := ex_andr (x := x_23) (y := 255) (b := 255) (rg_w rc_255 (by decide) (by decide))
        refine g_iand C (v := x_24) dX12_come_21 hx_24 ?_
        refine h_iast C K hb_1L hb_1k (x_18.toNatClampNeg) (rfl) (ix_0 rx_18 (by decide)) (ix_lt rx_18 (by decide) hb_1n (by decide)) dX12_come_22 (fun I_25 hI_25 => ?_)
        have hU_26 := iw_put W9 hU_20 hI_25 (ro_a hb_1k (by decide) hb_1o hkx rfl) (lo := 0) (hi := 255) (rfl) (rx_24) rfl
        have hF_27 := fq_puta hF_21 hI_25 (ro_a hb_1k (by decide) hb_1o hkx rfl) (by decide) (by decide)
        refine g_aload_n C 1 dX12_come_23 rfl rfl ?_
        refine g_dup C dX12_come_24 rfl ?_
        refine g_getI C K hLx hkx f_12_85 (v := x_18) (kp_k (κ := κ) hI_25 (by rw [hkx, hb_1k]; decide) (kp_s hI_19)) dX12_come_25 ?_
        refine g_iconst C (v := 1) dX12_come_28 (by decide) ?_
        obtain ⟨x_28, hx_28, rx_28, tx_28⟩ := ex_add 3 939 rx_18 rc_1 (by decide) (by decide) (by decide) (by decide)
        refine g_iadd C (v := x_28) dX12_come_29 hx_28 ?_
        refine h_putI C K hLx hkx f_12_85 p_12_2 dX12_come_30 (fun I_29 hI_29 => ?_)
        have hU_30 := iw_put W9 hU_26 hI_29 (ro_o hkx (by decide)) (lo := 0) (hi := 940) (rfl) (rg_w rx_28 (by decide) (by decide)) rfl
        have hF_31 := fq_puto hF_27 hI_29 hkx (by decide) (by decide)
        refine g_iinc C dX12_come_33 (k := 0) (v := 0) rfl (by decide) (by decide) (lo2 := [(2, .int 0), (0, .ref x), (1, .int a0)]) rfl ?_
        refine g_goto C (tgt := 3) dX12_come_36 (by decide) ?_
        refine g_iload_n C 0 dX12_come_3 rfl rfl ?_
        refine g_if_lt C (tgt := 39) dX12_come_4 (by decide) (fun h_32 => ?_) (fun h_32 => ?_)
        · skip
          exact absurd (h_32) (by decide)
        · skip
          refine g_aload_n C 1 dX12_come_7 rfl rfl ?_
          refine g_getR C K hLx hkx f_12_7 hb_1 dX12_come_8 ?_
          refine g_aload_n C 1 dX12_come_11 rfl rfl ?_
          refine g_getI C K hLx hkx f_12_85 (v := x_28) (kp_s hI_29) dX12_come_12 ?_
          refine g_iload_n C 2 dX12_come_15 rfl rfl ?_
          refine g_iload_n C 0 dX12_come_16 rfl rfl ?_
          obtain ⟨x_33, hx_33, rx_33⟩ := ex_any (z0 := (Int32.toUInt32 (a0) >>> (Int32.toUInt32 (0) &&& Int32.toUInt32 31)).toInt32)
          refine g_iushr C (v := x_33) dX12_come_17 hx_33 ?_
          refine g_sipush C (v := 255) dX12_come_18 (by decide) ?_
          obtain ⟨x_34, hx_34, rx_34⟩ := ex_andr (x := x_33) (y := 255) (b := 255) (rg_w rc_255 (by decide) (by decide))
          refine g_iand C (v := x_34) dX12_come_21 hx_34 ?_
          refine h_iast C K hb_1L hb_1k (x_28.toNatClampNeg) (rfl) (ix_0 rx_28 (by decide)) (ix_lt rx_28 (by decide) hb_1n (by decide)) dX12_come_22 (fun I_35 hI_35 => ?_)
          have hU_36 := iw_put W9 hU_30 hI_35 (ro_a hb_1k (by decide) hb_1o hkx rfl) (lo := 0) (hi := 255) (rfl) (rx_34) rfl
          have hF_37 := fq_puta hF_31 hI_35 (ro_a hb_1k (by decide) hb_1o hkx rfl) (by decide) (by decide)
          refine g_aload_n C 1 dX12_come_23 rfl rfl ?_
          refine g_dup C dX12_come_24 rfl ?_
          refine g_getI C K hLx hkx f_12_85 (v := x_28) (kp_k (κ := κ) hI_35 (by rw [hkx, hb_1k]; decide) (kp_s hI_29)) dX12_come_25 ?_
          refine g_iconst C (v := 1) dX12_come_28 (by decide) ?_
          obtain ⟨x_38, hx_38, rx_38, tx_38⟩ := ex_add 4 940 rx_28 rc_1 (by decide) (by decide) (by decide) (by decide)
          refine g_iadd C (v := x_38) dX12_come_29 hx_38 ?_
          refine h_putI C K hLx hkx f_12_85 p_12_2 dX12_come_30 (fun I_39 hI_39 => ?_)
          have hU_40 := iw_put W9 hU_36 hI_39 (ro_o hkx (by decide)) (lo := 0) (hi := 940) (rfl) (rg_w rx_38 (by decide) (by decide)) rfl
          have hF_41 := fq_puto hF_37 hI_39 hkx (by decide) (by decide)
          refine g_iinc C dX12_come_33 (k := 0) (v := (-8)) rfl (by decide) (by decide) (lo2 := [(2, .int (-8)), (0, .ref x), (1, .int a0)]) rfl ?_
          refine g_goto C (tgt := 3) dX12_come_36 (by decide) ?_
          refine g_iload_n C 0 dX12_come_3 rfl rfl ?_
          refine g_if_lt C (tgt := 39) dX12_come_4 (by decide) (fun h_42 => ?_) (fun h_42 => ?_)
          · skip
            exact g_vret B K rfl ⟨hU_40, hF_41, hG, (cm_4 (kp_s hI_39) hxp0 (by have := (ti_k tx_38 rc_1); have := (ti_k tx_28 rc_1); have := (ti_k tx_18 rc_1); have := (ti_k tx_8 rc_1); omega))⟩ dX12_come_39
          · skip
            exact absurd (nlt h_42) (by decide)
set_option maxRecDepth 100000 in
set_option maxHeartbeats 8000000 in
theorem c_X12_feed {l : Launch} {D : va_G} {cy : Nat → ClassId} {L : List Nat} {κ ln : Nat → Nat} {R : Nat → Nat → Option Nat} {I : Nat → Nat → Int32} {J : Nat → Nat → Int64} {ow : Nat → Nat × Nat} (W9 : ∀ a ∈ L, Shp L κ ln R ow a) {x : Nat} (hLx : x ∈ L) (hkx : κ x = 12) (a0 : Int32) (a1 : Int32) (a2 : Int32) (a3 : Int32) (a4 : Int32) (hU : Iw L κ R ow I) : CtI l yX12_feed cX12_feed 6 (some .int) { frames := 1, cells := 0, slots := 0, locals := 22 } D cy L κ ln R I J [.ref x, .int a0, .int a1, .int a2, .int a3, .int a4] (fun r I2 J2 => Iw L κ R ow I2 ∧ Fq L κ ow [1200, 1202, 82100] I I2 ∧ Fq L κ ow [] J J2 ∧ Rg (-1) 940 r) := by
  refine CtI.of (by decide +kernel) (Nat.le_of_ble_eq_true rfl) ?_
  intro p e s m below meth c B K
  have C := B.1
  have hF : Fq L κ ow [1200, 1202, 82100] I I := fq_rf
  have hG : Fq L κ ow [] J J := fq_rf
  refine g_lo (is := [0, 1, 2, 3, 4, 5]) (lo2 := [(0, .ref x), (1, .int a0), (2, .int a1), (3, .int a2), (4, .int a3), (5, .int a4)]) rfl ?_
  refine g_aload_n C 0 dX12_feed_0 rfl rfl ?_
  refine g_iconst C (v := 0) dX12_feed_1 (by decide) ?_
  refine h_putI C K hLx hkx f_12_82 p_12_0 dX12_feed_2 (fun I_1 hI_1 => ?_)
  have hU_2 := iw_put W9 hU hI_1 (ro_o hkx (by decide)) (lo := (-2147483648)) (hi := 2147483647) (rfl) (rg_all _) rfl
  have hF_3 := fq_puto hF hI_1 hkx (by decide) (by decide)
  refine g_aload_n C 0 dX12_feed_5 rfl rfl ?_
  obtain ⟨x_4, hx_4, rx_4⟩ := ex_getw (I := I_1) (a := x) (j := 2) (lo := 0) (hi := 940) hU_2.1 hLx (ro_o hkx (by decide)) rfl
  refine g_getI C K hLx hkx f_12_85 (v := x_4) hx_4 dX12_feed_6 ?_
  refine g_bipush C (v := 20) dX12_feed_9 (by decide) ?_
  obtain ⟨x_5, hx_5, rx_5, tx_5⟩ := ex_add 20 960 rx_4 rc_20 (by decide) (by decide) (by decide) (by decide)
  refine g_iadd C (v := x_5) dX12_feed_11 hx_5 ?_
  refine g_sipush C (v := 940) dX12_feed_12 (by decide) ?_
  refine g_icmp_le C (tgt := 20) dX12_feed_15 (by decide) (fun h_6 => ?_) (fun h_6 => ?_)
  · skip
    have r_7 := le_l (h_6) rx_5 rc_940
    have r_8 := rg_der (k := 20) (lo := 0) (hi := 920) (ti_k tx_5 rc_20) r_7 rx_4 (by decide) (by decide)
    refine g_aload_n C 0 dX12_feed_20 rfl rfl ?_
    refine g_iload_n C 1 dX12_feed_21 rfl rfl ?_
    refine g_callVV C K (c_X12_come W9 hLx hkx a0  hU_2  (eq_rg hx_4 (rg_w r_8 (by decide) (by decide)))) hLx hkx (by decide) rfl v_12_88 rfl ⟨rfl, rfl⟩ ⟨Nat.le_of_ble_eq_true rfl, Nat.le_of_ble_eq_true rfl⟩ (Nat.le_of_ble_eq_true rfl) ⟨Nat.le_of_ble_eq_true rfl, Nat.le_of_ble_eq_true rfl⟩ dX12_feed_22 rfl (st := []) (fun I_10 J_11 h_12 => ?_)
    obtain ⟨hUI_10, hFI_10, hGJ_11, ex_9⟩ := h_12
    have hF_13 := fq_tr hF_3 hFI_10 (by decide)
    have hG_14 := fq_tr hG hGJ_11 (by decide)
    obtain ⟨x_15, hx_15, rx_15, tx_15⟩ := cm_x 4 924 ex_9 hx_4 r_8 (by decide) (by decide)
    refine g_aload_n C 0 dX12_feed_25 rfl rfl ?_
    refine g_iload_n C 2 dX12_feed_26 rfl rfl ?_
    refine g_callVV C K (c_X12_come W9 hLx hkx a1  hUI_10  (eq_rg hx_15 (rg_w rx_15 (by decide) (by decide)))) hLx hkx (by decide) rfl v_12_88 rfl ⟨rfl, rfl⟩ ⟨Nat.le_of_ble_eq_true rfl, Nat.le_of_ble_eq_true rfl⟩ (Nat.le_of_ble_eq_true rfl) ⟨Nat.le_of_ble_eq_true rfl, Nat.le_of_ble_eq_true rfl⟩ dX12_feed_27 rfl (st := []) (fun I_17 J_18 h_19 => ?_)
    obtain ⟨hUI_17, hFI_17, hGJ_18, ex_16⟩ := h_19
    have hF_20 := fq_tr hF_13 hFI_17 (by decide)
    have hG_21 := fq_tr hG_14 hGJ_18 (by decide)
    obtain ⟨x_22, hx_22, rx_22, tx_22⟩ := cm_x 8 928 ex_16 hx_15 rx_15 (by decide) (by decide)
    refine g_aload_n C 0 dX12_feed_30 rfl rfl ?_
    refine g_iload_n C 3 dX12_feed_31 rfl rfl ?_
    refine g_callVV C K (c_X12_come W9 hLx hkx a2  hUI_17  (eq_rg hx_22 (rg_w rx_22 (by decide) (by decide)))) hLx hkx (by decide) rfl v_12_88 rfl ⟨rfl, rfl⟩ ⟨Nat.le_of_ble_eq_true rfl, Nat.le_of_ble_eq_true rfl⟩ (Nat.le_of_ble_eq_true rfl) ⟨Nat.le_of_ble_eq_true rfl, Nat.le_of_ble_eq_true rfl⟩ dX12_feed_32 rfl (st := []) (fun I_24 J_25 h_26 => ?_)
    obtain ⟨hUI_24, hFI_24, hGJ_25, ex_23⟩ := h_26
    have hF_27 := fq_tr hF_20 hFI_24 (by decide)
    have hG_28 := fq_tr hG_21 hGJ_25 (by decide)
    obtain ⟨x_29, hx_29, rx_29, tx_29⟩ := cm_x 12 932 ex_23 hx_22 rx_22 (by decide) (by decide)
    refine g_aload_n C 0 dX12_feed_35 rfl rfl ?_
    refine g_iload C 4 dX12_feed_36 rfl ?_
    refine g_callVV C K (c_X12_come W9 hLx hkx a3  hUI_24  (eq_rg hx_29 (rg_w rx_29 (by decide) (by decide)))) hLx hkx (by decide) rfl v_12_88 rfl ⟨rfl, rfl⟩ ⟨Nat.le_of_ble_eq_true rfl, Nat.le_of_ble_eq_true rfl⟩ (Nat.le_of_ble_eq_true rfl) ⟨Nat.le_of_ble_eq_true rfl, Nat.le_of_ble_eq_true rfl⟩ dX12_feed_38 rfl (st := []) (fun I_31 J_32 h_33 => ?_)
    obtain ⟨hUI_31, hFI_31, hGJ_32, ex_30⟩ := h_33
    have hF_34 := fq_tr hF_27 hFI_31 (by decide)
    have hG_35 := fq_tr hG_28 hGJ_32 (by decide)
    obtain ⟨x_36, hx_36, rx_36, tx_36⟩ := cm_x 16 936 ex_30 hx_29 rx_29 (by decide) (by decide)
    refine g_aload_n C 0 dX12_feed_41 rfl rfl ?_
    refine g_iload C 5 dX12_feed_42 rfl ?_
    refine g_callVV C K (c_X12_come W9 hLx hkx a4  hUI_31  (eq_rg hx_36 (rg_w rx_36 (by decide) (by decide)))) hLx hkx (by decide) rfl v_12_88 rfl ⟨rfl, rfl⟩ ⟨Nat.le_of_ble_eq_true rfl, Nat.le_of_ble_eq_true rfl⟩ (Nat.le_of_ble_eq_true rfl) ⟨Nat.le_of_ble_eq_true rfl, Nat.le_of_ble_eq_true rfl⟩ dX12_feed_44 rfl (st := []) (fun I_38 J_39 h_40 => ?_)
    obtain ⟨hUI_38, hFI_38, hGJ_39, ex_37⟩ := h_40
    have hF_41 := fq_tr hF_34 hFI_38 (by decide)
    have hG_42 := fq_tr hG_35 hGJ_39 (by decide)
    obtain ⟨x_43, hx_43, rx_43, tx_43⟩ := cm_x 20 940 ex_37 hx_36 rx_36 (by decide) (by decide)
    refine g_aload_n C 0 dX12_feed_47 rfl rfl ?_
    refine g_getI C K hLx hkx f_12_85 (v := x_43) hx_43 dX12_feed_48 ?_
    exact g_zret (ty := .int) (r := x_43) B K rfl (rfl) ⟨hUI_38, hF_41, hG_42, rg_w rx_43 (by decide) (by decide)⟩ dX12_feed_51
  · skip
    have r_44 := lt_r (lo := 941) (nle h_6) rc_940 rx_5 (by decide)
    have r_45 := rg_der (k := 20) (lo := 921) (hi := 940) (ti_k tx_5 rc_20) r_44 rx_4 (by decide) (by decide)
    refine g_iconst C (v := (-1)) dX12_feed_18 (by decide) ?_
    exact g_zret (ty := .int) (r := (-1)) B K rfl (rfl) ⟨hU_2, hF_3, hG, rg_w rc_m1 (by decide) (by decide)⟩ dX12_feed_19
set_option maxRecDepth 100000 in
set_option maxHeartbeats 8000000 in
theorem c_X12_end {l : Launch} {D : va_G} {cy : Nat → ClassId} {L : List Nat} {κ ln : Nat → Nat} {R : Nat → Nat → Option Nat} {I : Nat → Nat → Int32} {J : Nat → Nat → Int64} {ow : Nat → Nat × Nat} (W9 : ∀ a ∈ L, Shp L κ ln R ow a) {x : Nat} (hLx : x ∈ L) (hkx : κ x = 12) (a0 : Int32) (hU : Iw L κ R ow I) : CtI l yX12_end cX12_end 2 (some .boolean) { frames := 0, cells := 0, slots := 0, locals := 0 } D cy L κ ln R I J [.ref x, .int a0] (fun r I2 J2 => Iw L κ R ow I2 ∧ Fq L κ ow [1200, 1202] I I2 ∧ Fq L κ ow [] J J2 ∧ Rg 0 1 r) := by
  refine CtI.of (by decide +kernel) (Nat.le_of_ble_eq_true rfl) ?_
  intro p e s m below meth c B K
  have C := B.1
  have hF : Fq L κ ow [1200, 1202] I I := fq_rf
  have hG : Fq L κ ow [] J J := fq_rf
  refine g_lo (is := [0, 1]) (lo2 := [(0, .ref x), (1, .int a0)]) rfl ?_
  refine g_aload_n C 0 dX12_end_0 rfl rfl ?_
  refine g_iconst C (v := 0) dX12_end_1 (by decide) ?_
  refine h_putI C K hLx hkx f_12_82 p_12_0 dX12_end_2 (fun I_1 hI_1 => ?_)
  have hU_2 := iw_put W9 hU hI_1 (ro_o hkx (by decide)) (lo := (-2147483648)) (hi := 2147483647) (rfl) (rg_all _) rfl
  have hF_3 := fq_puto hF hI_1 hkx (by decide) (by decide)
  refine g_iload_n C 1 dX12_end_5 rfl rfl ?_
  refine g_if_lt C (tgt := 17) dX12_end_6 (by decide) (fun h_4 => ?_) (fun h_4 => ?_)
  · skip
    have r_5 := lt_l (hi := (-1)) (h_4) (rg_all a0) rc_0 (by decide)
    refine g_iconst C (v := 0) dX12_end_17 (by decide) ?_
    exact g_zret (ty := .boolean) (r := 0) B K rfl (rfl) ⟨hU_2, hF_3, hG, rg_w rc_0 (by decide) (by decide)⟩ dX12_end_18
  · skip
    have r_6 := le_r (nlt h_4) rc_0 (rg_all a0)
    refine g_iload_n C 1 dX12_end_9 rfl rfl ?_
    refine g_aload_n C 0 dX12_end_10 rfl rfl ?_
    obtain ⟨x_7, hx_7, rx_7⟩ := ex_getw (I := I_1) (a := x) (j := 2) (lo := 0) (hi := 940) hU_2.1 hLx (ro_o hkx (by decide)) rfl
    refine g_getI C K hLx hkx f_12_85 (v := x_7) hx_7 dX12_end_11 ?_
    refine g_icmp_le C (tgt := 19) dX12_end_14 (by decide) (fun h_8 => ?_) (fun h_8 => ?_)
    · skip
      have r_9 := le_l (h_8) r_6 rx_7
      refine g_aload_n C 0 dX12_end_19 rfl rfl ?_
      refine g_iload_n C 1 dX12_end_20 rfl rfl ?_
      refine h_putI C K hLx hkx f_12_85 p_12_2 dX12_end_21 (fun I_10 hI_10 => ?_)
      have hU_11 := iw_put W9 hU_2 hI_10 (ro_o hkx (by decide)) (lo := 0) (hi := 940) (rfl) (r_9) rfl
      have hF_12 := fq_puto hF_3 hI_10 hkx (by decide) (by decide)
      refine g_iconst C (v := 1) dX12_end_24 (by decide) ?_
      exact g_zret (ty := .boolean) (r := 1) B K rfl (rfl) ⟨hU_11, hF_12, hG, rg_w rc_1 (by decide) (by decide)⟩ dX12_end_25
    · skip
      have r_13 := lt_r (lo := 1) (nle h_8) rx_7 r_6 (by decide)
      refine g_iconst C (v := 0) dX12_end_17 (by decide) ?_
      exact g_zret (ty := .boolean) (r := 0) B K rfl (rfl) ⟨hU_2, hF_3, hG, rg_w rc_0 (by decide) (by decide)⟩ dX12_end_18
set_option maxRecDepth 100000 in
set_option maxHeartbeats 8000000 in
theorem c_X12_isDigit {l : Launch} {D : va_G} {cy : Nat → ClassId} {L : List Nat} {κ ln : Nat → Nat} {R : Nat → Nat → Option Nat} {I : Nat → Nat → Int32} {J : Nat → Nat → Int64} {ow : Nat → Nat × Nat} (W9 : ∀ a ∈ L, Shp L κ ln R ow a) (a0 : Int32) (hU : Iw L κ R ow I) : CtI l yX12_isDigit cX12_isDigit 1 (some .boolean) { frames := 0, cells := 0, slots := 0, locals := 0 } D cy L κ ln R I J [.int a0] (fun r I2 J2 => I = I2 ∧ J = J2 ∧ Rg 0 1 r ∧ (¬ r = 0 ∨ a0.toInt < 48 ∨ 57 < a0.toInt) ∧ (¬ r = 0 → Rg 48 57 a0)) := by
  refine CtI.of (by decide +kernel) (Nat.le_of_ble_eq_true rfl) ?_
  intro p e s m below meth c B K
  have C := B.1
  refine g_lo (is := [0]) (lo2 := [(0, .int a0)]) rfl ?_
  refine g_iload_n C 0 dX12_isDigit_0 rfl rfl ?_
  refine g_bipush C (v := 48) dX12_isDigit_1 (by decide) ?_
  refine g_icmp_lt C (tgt := 16) dX12_isDigit_3 (by decide) (fun h_1 => ?_) (fun h_1 => ?_)
  · skip
    have r_2 := lt_l (hi := 47) (h_1) (rg_all a0) rc_48 (by decide)
    refine g_iconst C (v := 0) dX12_isDigit_16 (by decide) ?_
    exact g_zret (ty := .boolean) (r := 0) B K rfl (rfl) ⟨rfl, rfl, rg_w rc_0 (by decide) (by decide), (Or.inr (Or.inl (by have := (r_2).2; omega))), (fun q => absurd rfl q)⟩ dX12_isDigit_17
  · skip
    have r_3 := le_r (nlt h_1) rc_48 (rg_all a0)
    refine g_iload_n C 0 dX12_isDigit_6 rfl rfl ?_
    refine g_bipush C (v := 57) dX12_isDigit_7 (by decide) ?_
    refine g_icmp_gt C (tgt := 16) dX12_isDigit_9 (by decide) (fun h_4 => ?_) (fun h_4 => ?_)
    · skip
      have r_5 := lt_r (lo := 58) (h_4) rc_57 r_3 (by decide)
      refine g_iconst C (v := 0) dX12_isDigit_16 (by decide) ?_
      exact g_zret (ty := .boolean) (r := 0) B K rfl (rfl) ⟨rfl, rfl, rg_w rc_0 (by decide) (by decide), (Or.inr (Or.inr (by have := (r_5).1; omega))), (fun q => absurd rfl q)⟩ dX12_isDigit_17
    · skip
      have r_6 := le_l (nlt h_4) r_3 rc_57
      refine g_iconst C (v := 1) dX12_isDigit_12 (by decide) ?_
      refine g_goto C (tgt := 17) dX12_isDigit_13 (by decide) ?_
      exact g_zret (ty := .boolean) (r := 1) B K rfl (rfl) ⟨rfl, rfl, rg_w rc_1 (by decide) (by decide), (Or.inl (by decide)), (fun _ => r_6)⟩ dX12_isDigit_17
set_option maxRecDepth 100000 in
set_option maxHeartbeats 8000000 in
theorem c_X12_isLetter {l : Launch} {D : va_G} {cy : Nat → ClassId} {L : List Nat} {κ ln : Nat → Nat} {R : Nat → Nat → Option Nat} {I : Nat → Nat → Int32} {J : Nat → Nat → Int64} {ow : Nat → Nat × Nat} (W9 : ∀ a ∈ L, Shp L κ ln R ow a) (a0 : Int32) (hU : Iw L κ R ow I) : CtI l yX12_isLetter cX12_isLetter 1 (some .boolean) { frames := 0, cells := 0, slots := 0, locals := 0 } D cy L κ ln R I J [.int a0] (fun r I2 J2 => I = I2 ∧ J = J2 ∧ Rg 0 1 r ∧ (¬ r = 0 ∨ a0.toInt < 97 ∨ 122 < a0.toInt) ∧ (¬ r = 0 → Rg 97 122 a0)) := by
  refine CtI.of (by decide +kernel) (Nat.le_of_ble_eq_true rfl) ?_
  intro p e s m below meth c B K
  have C := B.1
  refine g_lo (is := [0]) (lo2 := [(0, .int a0)]) rfl ?_
  refine g_iload_n C 0 dX12_isLetter_0 rfl rfl ?_
  refine g_bipush C (v := 97) dX12_isLetter_1 (by decide) ?_
  refine g_icmp_lt C (tgt := 16) dX12_isLetter_3 (by decide) (fun h_1 => ?_) (fun h_1 => ?_)
  · skip
    have r_2 := lt_l (hi := 96) (h_1) (rg_all a0) rc_97 (by decide)
    refine g_iconst C (v := 0) dX12_isLetter_16 (by decide) ?_
    exact g_zret (ty := .boolean) (r := 0) B K rfl (rfl) ⟨rfl, rfl, rg_w rc_0 (by decide) (by decide), (Or.inr (Or.inl (by have := (r_2).2; omega))), (fun q => absurd rfl q)⟩ dX12_isLetter_17
  · skip
    have r_3 := le_r (nlt h_1) rc_97 (rg_all a0)
    refine g_iload_n C 0 dX12_isLetter_6 rfl rfl ?_
    refine g_bipush C (v := 122) dX12_isLetter_7 (by decide) ?_
    refine g_icmp_gt C (tgt := 16) dX12_isLetter_9 (by decide) (fun h_4 => ?_) (fun h_4 => ?_)
    · skip
      have r_5 := lt_r (lo := 123) (h_4) rc_122 r_3 (by decide)
      refine g_iconst C (v := 0) dX12_isLetter_16 (by decide) ?_
      exact g_zret (ty := .boolean) (r := 0) B K rfl (rfl) ⟨rfl, rfl, rg_w rc_0 (by decide) (by decide), (Or.inr (Or.inr (by have := (r_5).1; omega))), (fun q => absurd rfl q)⟩ dX12_isLetter_17
    · skip
      have r_6 := le_l (nlt h_4) r_3 rc_122
      refine g_iconst C (v := 1) dX12_isLetter_12 (by decide) ?_
      refine g_goto C (tgt := 17) dX12_isLetter_13 (by decide) ?_
      exact g_zret (ty := .boolean) (r := 1) B K rfl (rfl) ⟨rfl, rfl, rg_w rc_1 (by decide) (by decide), (Or.inl (by decide)), (fun _ => r_6)⟩ dX12_isLetter_17
set_option maxRecDepth 100000 in
set_option maxHeartbeats 8000000 in
theorem c_X12_tapeAt {l : Launch} {D : va_G} {cy : Nat → ClassId} {L : List Nat} {κ ln : Nat → Nat} {R : Nat → Nat → Option Nat} {I : Nat → Nat → Int32} {J : Nat → Nat → Int64} {ow : Nat → Nat × Nat} (W9 : ∀ a ∈ L, Shp L κ ln R ow a) {x : Nat} (hLx : x ∈ L) (hkx : κ x = 12) (a0 : Int32) (ra0 : Rg 0 940 a0) (hU : Iw L κ R ow I) : CtI l yX12_tapeAt cX12_tapeAt 2 (some .int) { frames := 0, cells := 0, slots := 0, locals := 0 } D cy L κ ln R I J [.ref x, .int a0] (fun r I2 J2 => I = I2 ∧ J = J2 ∧ Rg 0 255 r ∧ (∀ a, R x 1 = some a → a0 < I x 3 → r = I a a0.toNatClampNeg) ∧ (¬ r = 0 → Rg 0 939 a0)) := by
  refine CtI.of (by decide +kernel) (Nat.le_of_ble_eq_true rfl) ?_
  intro p e s m below meth c B K
  have C := B.1
  obtain ⟨b_1, hb_1, hb_1L, hb_1k, hb_1n, hb_1o⟩ := shp_a (W9 x hLx) hkx 1 14 940 rfl (by decide)
  refine g_lo (is := [0, 1]) (lo2 := [(0, .ref x), (1, .int a0)]) rfl ?_
  refine g_iload_n C 1 dX12_tapeAt_0 rfl rfl ?_
  refine g_aload_n C 0 dX12_tapeAt_1 rfl rfl ?_
  obtain ⟨x_2, hx_2, rx_2⟩ := ex_getw (I := I) (a := x) (j := 3) (lo := 0) (hi := 940) hU.1 hLx (ro_o hkx (by decide)) rfl
  refine g_getI C K hLx hkx f_12_92 (v := x_2) hx_2 dX12_tapeAt_2 ?_
  refine g_icmp_ge C (tgt := 17) dX12_tapeAt_5 (by decide) (fun h_3 => ?_) (fun h_3 => ?_)
  · skip
    refine g_iconst C (v := 0) dX12_tapeAt_17 (by decide) ?_
    exact g_zret (ty := .int) (r := 0) B K rfl (rfl) ⟨rfl, rfl, rg_w rc_0 (by decide) (by decide), (fun a ha hlt => absurd hlt (by rw [hx_2]; exact Int32.not_lt.mpr (h_3))), (fun q => absurd rfl q)⟩ dX12_tapeAt_18
  · skip
    have r_4 := lt_l (hi := 939) (nle h_3) ra0 rx_2 (by decide)
    have r_5 := lt_r (lo := 1) (nle h_3) ra0 rx_2 (by decide)
    refine g_aload_n C 0 dX12_tapeAt_8 rfl rfl ?_
    refine g_getR C K hLx hkx f_12_7 hb_1 dX12_tapeAt_9 ?_
    refine g_iload_n C 1 dX12_tapeAt_12 rfl rfl ?_
    obtain ⟨x_6, hx_6, rx_6⟩ := ex_getw (I := I) (a := b_1) (j := a0.toNatClampNeg) (lo := 0) (hi := 255) hU.1 hb_1L (ro_a hb_1k (by decide) hb_1o hkx rfl) (rfl)
    refine h_iald C K hb_1L hb_1k (v := x_6) (a0.toNatClampNeg) (rfl) (ix_0 r_4 (by decide)) (ix_lt r_4 (by decide) hb_1n (by decide)) hx_6 dX12_tapeAt_13 ?_
    refine g_goto C (tgt := 18) dX12_tapeAt_14 (by decide) ?_
    exact g_zret (ty := .int) (r := x_6) B K rfl (rfl) ⟨rfl, rfl, rx_6, (fun a ha _ => by rw [hb_1] at ha; cases ha; exact hx_6.symm), (fun hq => by have n_7 : ¬ x_6 = 0 := hq; have r_8 := ne_lo (lo := 1) n_7 rx_6 rc_0 rfl (by decide); exact r_4)⟩ dX12_tapeAt_18
set_option maxRecDepth 100000 in
set_option maxHeartbeats 8000000 in
theorem c_X12_go {l : Launch} {D : va_G} {cy : Nat → ClassId} {L : List Nat} {κ ln : Nat → Nat} {R : Nat → Nat → Option Nat} {I : Nat → Nat → Int32} {J : Nat → Nat → Int64} {ow : Nat → Nat × Nat} (W9 : ∀ a ∈ L, Shp L κ ln R ow a) {x : Nat} (hLx : x ∈ L) (hkx : κ x = 12) (hU : Iw L κ R ow I) : CtV l yX12_go cX12_go 5 none { frames := 1, cells := 0, slots := 0, locals := 21 } D cy L κ ln R I J [.ref x] (fun I2 J2 => Iw L κ R ow I2 ∧ Fq L κ ow [1205, 1206, 1207, 1208, 1209] I I2 ∧ Fq L κ ow [1212] J J2 ∧ (Ps_ x I I2)) := by
  obtain ⟨x_1, hx_1, rx_1⟩ := ex_getw (I := I) (a := x) (j := 5) (lo := 0) (hi := 940) hU.1 hLx (ro_o hkx (by decide)) rfl
  refine CtV.of (by decide +kernel) (Nat.le_of_ble_eq_true rfl) ?_
  intro p e s m below meth c B K
  have C := B.1
  have hF : Fq L κ ow [1205, 1206, 1207, 1208, 1209] I I := fq_rf
  have hG : Fq L κ ow [1212] J J := fq_rf
  obtain ⟨b_2, hb_2, hb_2L, hb_2k, hb_2n, hb_2o⟩ := shp_a (W9 x hLx) hkx 1 14 940 rfl (by decide)
  refine g_lo (is := [0]) (lo2 := [(0, .ref x)]) rfl ?_
  have l_215 : ∀ (n_215 : Nat) (I_3 : Nat → Nat → Int32) (J_4 : Nat → Nat → Int64) (hU_5 : Iw L κ R ow I_3) (hF_6 : Fq L κ ow [1205, 1206, 1207, 1208, 1209] I I_3) (hG_7 : Fq L κ ow [1212] J J_4) (v_8 : Int32) (rv_8 : Rg 48 122 v_8) (v_9 : Int32) (rv_9 : Rg 0 1 v_9) (v_10 : Int32) (rv_10 : Rg 0 1 v_10) (v_11 : Int32) (rv_11 : Rg 0 255 v_11) (v_12 : Int32) (rv_12 : Rg 1 940 v_12) (v_13 : Int32) (rv_13 : Rg 0 900 v_13) (v_14 : Int32) (rv_14 : Rg 1 940 v_14) (v_15 : Int32) (rv_15 : Rg 0 939 v_15) (v_16 : Int32) (q_17 : I_3 x 3 = v_12) (q_18 : I_3 x 4 = v_13) (q_19 : I_3 x 5 = v_14) (q_20 : I_3 x 6 = v_15) (q_21 : I_3 x 8 = v_16) (hj_22 : x_1.toInt < v_14.toInt) (hm_23 : 940 < (v_14 : Int32).toInt + (n_215 : Int)), WG p l e { frames := 1, cells := 0, slots := 0, locals := 21 } s m ([.ref x] : List Value).toArray below meth c 5 0 0 (MQ below (Qv_ D cy L κ ln R (fun I2 J2 => Iw L κ R ow I2 ∧ Fq L κ ow [1205, 1206, 1207, 1208, 1209] I I2 ∧ Fq L κ ow [1212] J J2 ∧ (Ps_ x I I2))) ([.ref x] : List Value).toArray s 0 0 (Al_ L)) D cy (Al_ L) s.heap L κ ln R I_3 J_4 215 [(0, .ref x), (1, .int v_8), (2, .int v_9), (3, .int v_10), (4, .int v_11)] [] := by
    intro n_215
    induction n_215 with
    | zero =>
      intro I_3 J_4 hU_5 hF_6 hG_7 v_8 rv_8 v_9 rv_9 v_10 rv_10 v_11 rv_11 v_12 rv_12 v_13 rv_13 v_14 rv_14 v_15 rv_15 v_16 q_17 q_18 q_19 q_20 q_21 hj_22 hm_23
      exact ms_0 rv_14 hm_23
    | succ n_215 ih_215 =>
      intro I_3 J_4 hU_5 hF_6 hG_7 v_8 rv_8 v_9 rv_9 v_10 rv_10 v_11 rv_11 v_12 rv_12 v_13 rv_13 v_14 rv_14 v_15 rv_15 v_16 q_17 q_18 q_19 q_20 q_21 hj_22 hm_23
      have j_337 : ∀ (I_24 : Nat → Nat → Int32) (J_25 : Nat → Nat → Int64) (hU_26 : Iw L κ R ow I_24) (hF_27 : Fq L κ ow [1205, 1206, 1207, 1208, 1209] I I_24) (hG_28 : Fq L κ ow [1212] J J_25) (v_29 : Int32) (rv_29 : Rg 48 122 v_29) (v_30 : Int32) (rv_30 : Rg 0 1 v_30) (v_31 : Int32) (rv_31 : Rg 0 1 v_31) (v_32 : Int32) (rv_32 : Rg 0 255 v_32) (v_33 : Int32) (rv_33 : Rg 1 940 v_33) (v_34 : Int32) (rv_34 : Rg 0 900 v_34) (v_35 : Int32) (rv_35 : Rg 1 939 v_35) (v_36 : Int32) (rv_36 : Rg 0 939 v_36) (v_37 : Int32) (q_38 : I_24 x 3 = v_33) (q_39 : I_24 x 4 = v_34) (q_40 : I_24 x 5 = v_35) (q_41 : I_24 x 6 = v_36) (q_42 : I_24 x 8 = v_37) (hm_43 : 940 < (v_35 : Int32).toInt + ((n_215 + 1 : Nat) : Int)) (hj_44 : x_1.toInt < v_35.toInt), WG p l e { frames := 1, cells := 0, slots := 0, locals := 21 } s m ([.ref x] : List Value).toArray below meth c 5 0 0 (MQ below (Qv_ D cy L κ ln R (fun I2 J2 => Iw L κ R ow I2 ∧ Fq L κ ow [1205, 1206, 1207, 1208, 1209] I I2 ∧ Fq L κ ow [1212] J J2 ∧ (Ps_ x I I2))) ([.ref x] : List Value).toArray s 0 0 (Al_ L)) D cy (Al_ L) s.heap L κ ln R I_24 J_25 337 [(0, .ref x), (1, .int v_29), (2, .int v_30), (3, .int v_31), (4, .int v_32)] [] := by
        intro I_24 J_25 hU_26 hF_27 hG_28 v_29 rv_29 v_30 rv_30 v_31 rv_31 v_32 rv_32 v_33 rv_33 v_34 rv_34 v_35 rv_35 v_36 rv_36 v_37 q_38 q_39 q_40 q_41 q_42 hm_43 hj_44
        refine g_aload_n C 0 dX12_go_337 rfl rfl ?_
        refine g_dup C dX12_go_338 rfl ?_
        refine g_getI C K hLx hkx f_12_95 (v := v_35) q_40 dX12_go_339 ?_
        refine g_iconst C (v := 1) dX12_go_342 (by decide) ?_
        obtain ⟨x_45, hx_45, rx_45, tx_45⟩ := ex_add 2 940 rv_35 rc_1 (by decide) (by decide) (by decide) (by decide)
        refine g_iadd C (v := x_45) dX12_go_343 hx_45 ?_
        refine h_putI C K hLx hkx f_12_95 p_12_5 dX12_go_344 (fun I_46 hI_46 => ?_)
        have hU_47 := iw_put W9 hU_26 hI_46 (ro_o hkx (by decide)) (lo := 0) (hi := 940) (rfl) (rg_w rx_45 (by decide) (by decide)) rfl
        have hF_48 := fq_puto hF_27 hI_46 hkx (by decide) (by decide)
        refine g_goto C (tgt := 215) dX12_go_347 (by decide) ?_
        refine g_lo (is := [0, 1, 2, 3, 4]) (lo2 := [(0, .ref x), (1, .int v_29), (2, .int v_30), (3, .int v_31), (4, .int v_32)]) rfl ?_
        exact ih_215 I_46 J_25 hU_47 hF_48 hG_28 v_29 (rv_29) v_30 (rv_30) v_31 (rv_31) v_32 (rv_32) v_33 (rv_33) v_34 (rv_34) x_45 (rg_w rx_45 (by decide) (by decide)) v_36 (rv_36) v_37 (kp_j hI_46 (by decide) q_38) (kp_j hI_46 (by decide) q_39) (kp_s hI_46) (kp_j hI_46 (by decide) q_41) (kp_j hI_46 (by decide) q_42) (by have := hj_44; have := (ti_k tx_45 rc_1); omega) (ms_1 hm_43 (ti_k tx_45 rc_1) (by decide))
      have j_307 : ∀ (I_49 : Nat → Nat → Int32) (J_50 : Nat → Nat → Int64) (hU_51 : Iw L κ R ow I_49) (hF_52 : Fq L κ ow [1205, 1206, 1207, 1208, 1209] I I_49) (hG_53 : Fq L κ ow [1212] J J_50) (v_54 : Int32) (rv_54 : Rg 48 122 v_54) (v_55 : Int32) (rv_55 : Rg 0 1 v_55) (v_56 : Int32) (rv_56 : Rg 0 1 v_56) (v_57 : Int32) (rv_57 : Rg 0 255 v_57) (v_58 : Int32) (rv_58 : Rg 1 940 v_58) (v_59 : Int32) (rv_59 : Rg 0 900 v_59) (v_60 : Int32) (rv_60 : Rg 1 939 v_60) (v_61 : Int32) (rv_61 : Rg 0 939 v_61) (v_62 : Int32) (q_63 : I_49 x 3 = v_58) (q_64 : I_49 x 4 = v_59) (q_65 : I_49 x 5 = v_60) (q_66 : I_49 x 6 = v_61) (q_67 : I_49 x 8 = v_62) (hm_68 : 940 < (v_60 : Int32).toInt + ((n_215 + 1 : Nat) : Int)) (hj_69 : x_1.toInt < v_60.toInt), WG p l e { frames := 1, cells := 0, slots := 0, locals := 21 } s m ([.ref x] : List Value).toArray below meth c 5 0 0 (MQ below (Qv_ D cy L κ ln R (fun I2 J2 => Iw L κ R ow I2 ∧ Fq L κ ow [1205, 1206, 1207, 1208, 1209] I I2 ∧ Fq L κ ow [1212] J J2 ∧ (Ps_ x I I2))) ([.ref x] : List Value).toArray s 0 0 (Al_ L)) D cy (Al_ L) s.heap L κ ln R I_49 J_50 307 [(0, .ref x), (1, .int v_54), (2, .int v_55), (3, .int v_56), (4, .int v_57)] [] := by
        intro I_49 J_50 hU_51 hF_52 hG_53 v_54 rv_54 v_55 rv_55 v_56 rv_56 v_57 rv_57 v_58 rv_58 v_59 rv_59 v_60 rv_60 v_61 rv_61 v_62 q_63 q_64 q_65 q_66 q_67 hm_68 hj_69
        refine g_aload_n C 0 dX12_go_307 rfl rfl ?_
        refine g_getI C K hLx hkx f_12_95 (v := v_60) q_65 dX12_go_308 ?_
        refine g_aload_n C 0 dX12_go_311 rfl rfl ?_
        refine g_getI C K hLx hkx f_12_98 (v := v_61) q_66 dX12_go_312 ?_
        obtain ⟨x_70, hx_70, rx_70, tx_70⟩ := ex_sub (-938) 939 rv_60 rv_61 (by decide) (by decide) (by decide) (by decide)
        refine g_isub C (v := x_70) dX12_go_315 hx_70 ?_
        refine g_iconst C (v := 3) dX12_go_316 (by decide) ?_
        refine g_icmp_ge C (tgt := 337) dX12_go_317 (by decide) (fun h_71 => ?_) (fun h_71 => ?_)
        · skip
          have r_72 := le_r (h_71) rc_3 rx_70
          refine g_lo (is := [0, 1, 2, 3, 4]) (lo2 := [(0, .ref x), (1, .int v_54), (2, .int v_55), (3, .int v_56), (4, .int v_57)]) rfl ?_
          exact j_337 I_49 J_50 hU_51 hF_52 hG_53 v_54 (rv_54) v_55 (rv_55) v_56 (rv_56) v_57 (rv_57) v_58 (rv_58) v_59 (rv_59) v_60 (rv_60) v_61 (rv_61) v_62 q_63 q_64 q_65 q_66 q_67 hm_68 (by have := hj_69; omega)
        · skip
          have r_73 := lt_l (hi := 2) (nle h_71) rx_70 rc_3 (by decide)
          refine g_aload_n C 0 dX12_go_320 rfl rfl ?_
          refine g_bipush C (v := 10) dX12_go_321 (by decide) ?_
          refine g_aload_n C 0 dX12_go_323 rfl rfl ?_
          refine g_getI C K hLx hkx f_12_121 (v := v_62) q_67 dX12_go_324 ?_
          obtain ⟨x_74, hx_74, rx_74⟩ := ex_any (z0 := 10 * v_62)
          refine g_imul C (v := x_74) dX12_go_327 hx_74 ?_
          refine g_iload C 4 dX12_go_328 rfl ?_
          obtain ⟨x_75, hx_75, rx_75⟩ := ex_any (z0 := x_74 + v_57)
          refine g_iadd C (v := x_75) dX12_go_330 hx_75 ?_
          refine g_bipush C (v := 48) dX12_go_331 (by decide) ?_
          obtain ⟨x_76, hx_76, rx_76⟩ := ex_any (z0 := x_75 - 48)
          refine g_isub C (v := x_76) dX12_go_333 hx_76 ?_
          refine h_putI C K hLx hkx f_12_121 p_12_8 dX12_go_334 (fun I_77 hI_77 => ?_)
          have hU_78 := iw_put W9 hU_51 hI_77 (ro_o hkx (by decide)) (lo := (-2147483648)) (hi := 2147483647) (rfl) (rx_76) rfl
          have hF_79 := fq_puto hF_52 hI_77 hkx (by decide) (by decide)
          refine g_lo (is := [0, 1, 2, 3, 4]) (lo2 := [(0, .ref x), (1, .int v_54), (2, .int v_55), (3, .int v_56), (4, .int v_57)]) rfl ?_
          exact j_337 I_77 J_50 hU_78 hF_79 hG_53 v_54 (rv_54) v_55 (rv_55) v_56 (rv_56) v_57 (rv_57) v_58 (rv_58) v_59 (rv_59) v_60 (rv_60) v_61 (rv_61) x_76 (kp_j hI_77 (by decide) q_63) (kp_j hI_77 (by decide) q_64) (kp_j hI_77 (by decide) q_65) (kp_j hI_77 (by decide) q_66) (kp_s hI_77) hm_68 (by have := hj_69; omega)
      have j_271 : ∀ (I_80 : Nat → Nat → Int32) (J_81 : Nat → Nat → Int64) (hU_82 : Iw L κ R ow I_80) (hF_83 : Fq L κ ow [1205, 1206, 1207, 1208, 1209] I I_80) (hG_84 : Fq L κ ow [1212] J J_81) (v_85 : Int32) (rv_85 : Rg 48 122 v_85) (v_86 : Int32) (rv_86 : Rg 0 1 v_86) (v_87 : Int32) (rv_87 : Rg 0 1 v_87) (v_88 : Int32) (rv_88 : Rg 0 255 v_88) (v_89 : Int32) (rv_89 : Rg 1 940 v_89) (v_90 : Int32) (rv_90 : Rg 0 900 v_90) (v_91 : Int32) (rv_91 : Rg 1 939 v_91) (v_92 : Int32) (rv_92 : Rg 0 939 v_92) (v_93 : Int32) (q_94 : I_80 x 3 = v_89) (q_95 : I_80 x 4 = v_90) (q_96 : I_80 x 5 = v_91) (q_97 : I_80 x 6 = v_92) (q_98 : I_80 x 8 = v_93) (hm_99 : 940 < (v_91 : Int32).toInt + ((n_215 + 1 : Nat) : Int)) (hj_100 : x_1.toInt < v_91.toInt), WG p l e { frames := 1, cells := 0, slots := 0, locals := 21 } s m ([.ref x] : List Value).toArray below meth c 5 0 0 (MQ below (Qv_ D cy L κ ln R (fun I2 J2 => Iw L κ R ow I2 ∧ Fq L κ ow [1205, 1206, 1207, 1208, 1209] I I2 ∧ Fq L κ ow [1212] J J2 ∧ (Ps_ x I I2))) ([.ref x] : List Value).toArray s 0 0 (Al_ L)) D cy (Al_ L) s.heap L κ ln R I_80 J_81 271 [(0, .ref x), (1, .int v_85), (2, .int v_86), (3, .int v_87), (4, .int v_88)] [] := by
        intro I_80 J_81 hU_82 hF_83 hG_84 v_85 rv_85 v_86 rv_86 v_87 rv_87 v_88 rv_88 v_89 rv_89 v_90 rv_90 v_91 rv_91 v_92 rv_92 v_93 q_94 q_95 q_96 q_97 q_98 hm_99 hj_100
        refine g_iconst C (v := 0) dX12_go_271 (by decide) ?_
        refine g_istore_n C dX12_go_272 rfl (by decide) (lo2 := [(3, .int 0), (0, .ref x), (1, .int v_85), (2, .int v_86), (4, .int v_88)]) rfl ?_
        refine g_aload_n C 1 dX12_go_273 rfl rfl ?_
        refine g_getI C K hLx hkx f_12_95 (v := v_91) q_96 dX12_go_274 ?_
        refine g_aload_n C 1 dX12_go_277 rfl rfl ?_
        refine g_getI C K hLx hkx f_12_98 (v := v_92) q_97 dX12_go_278 ?_
        obtain ⟨x_101, hx_101, rx_101, tx_101⟩ := ex_sub (-938) 939 rv_91 rv_92 (by decide) (by decide) (by decide) (by decide)
        refine g_isub C (v := x_101) dX12_go_281 hx_101 ?_
        refine g_bipush C (v := 7) dX12_go_282 (by decide) ?_
        refine g_icmp_ge C (tgt := 307) dX12_go_284 (by decide) (fun h_102 => ?_) (fun h_102 => ?_)
        · skip
          have r_103 := le_r (h_102) rc_7 rx_101
          refine g_lo (is := [1, 2, 3, 0, 4]) (lo2 := [(0, .ref x), (1, .int v_85), (2, .int v_86), (3, .int 0), (4, .int v_88)]) rfl ?_
          exact j_307 I_80 J_81 hU_82 hF_83 hG_84 v_85 (rv_85) v_86 (rv_86) 0 (rg_w rc_0 (by decide) (by decide)) v_88 (rv_88) v_89 (rv_89) v_90 (rv_90) v_91 (rv_91) v_92 (rv_92) v_93 q_94 q_95 q_96 q_97 q_98 hm_99 (by have := hj_100; omega)
        · skip
          have r_104 := lt_l (hi := 6) (nle h_102) rx_101 rc_7 (by decide)
          refine g_aload_n C 1 dX12_go_287 rfl rfl ?_
          refine g_ldc2 C kl_128 dX12_go_288 ?_
          refine g_aload_n C 1 dX12_go_291 rfl rfl ?_
          obtain ⟨y_105, hy_105⟩ : ∃ z, J_81 x 12 = z := ⟨_, rfl⟩
          refine g_getJ C K hLx hkx f_12_117 (v := y_105) hy_105 dX12_go_292 ?_
          refine g_lmul C dX12_go_295 (fun y_106 => ?_)
          refine g_iload C 4 dX12_go_296 rfl ?_
          obtain ⟨y_107, hy_107⟩ : ∃ z, Int32.toInt64 v_88 = z := ⟨_, rfl⟩
          refine g_i2l C (v := y_107) dX12_go_298 hy_107 ?_
          refine g_ladd C dX12_go_299 (fun y_108 => ?_)
          refine g_ldc2 C kl_130 dX12_go_300 ?_
          refine g_lsub C dX12_go_303 (fun y_109 => ?_)
          refine h_putJ C K hLx hkx f_12_117 p_12_12 dX12_go_304 (fun J_110 hJ_110 => ?_)
          have hG_111 := fq_puto hG_84 hJ_110 hkx (by decide) (by decide)
          refine g_lo (is := [1, 2, 3, 0, 4]) (lo2 := [(0, .ref x), (1, .int v_85), (2, .int v_86), (3, .int 0), (4, .int v_88)]) rfl ?_
          exact j_307 I_80 J_110 hU_82 hF_83 hG_111 v_85 (rv_85) v_86 (rv_86) 0 (rg_w rc_0 (by decide) (by decide)) v_88 (rv_88) v_89 (rv_89) v_90 (rv_90) v_91 (rv_91) v_92 (rv_92) v_93 q_94 q_95 q_96 q_97 q_98 hm_99 (by have := hj_100; omega)
      have j_243 : ∀ (I_112 : Nat → Nat → Int32) (J_113 : Nat → Nat → Int64) (hU_114 : Iw L κ R ow I_112) (hF_115 : Fq L κ ow [1205, 1206, 1207, 1208, 1209] I I_112) (hG_116 : Fq L κ ow [1212] J J_113) (v_117 : Int32) (rv_117 : Rg 48 122 v_117) (v_118 : Int32) (rv_118 : Rg 0 1 v_118) (v_119 : Int32) (rv_119 : Rg 0 1 v_119) (v_120 : Int32) (rv_120 : Rg 0 255 v_120) (v_121 : Int32) (rv_121 : Rg 1 940 v_121) (v_122 : Int32) (rv_122 : Rg 0 900 v_122) (v_123 : Int32) (rv_123 : Rg 1 939 v_123) (v_124 : Int32) (rv_124 : Rg 0 939 v_124) (v_125 : Int32) (q_126 : I_112 x 3 = v_121) (q_127 : I_112 x 4 = v_122) (q_128 : I_112 x 5 = v_123) (q_129 : I_112 x 6 = v_124) (q_130 : I_112 x 8 = v_125) (hm_131 : 940 < (v_123 : Int32).toInt + ((n_215 + 1 : Nat) : Int)) (hj_132 : x_1.toInt < v_123.toInt), WG p l e { frames := 1, cells := 0, slots := 0, locals := 21 } s m ([.ref x] : List Value).toArray below meth c 5 0 0 (MQ below (Qv_ D cy L κ ln R (fun I2 J2 => Iw L κ R ow I2 ∧ Fq L κ ow [1205, 1206, 1207, 1208, 1209] I I2 ∧ Fq L κ ow [1212] J J2 ∧ (Ps_ x I I2))) ([.ref x] : List Value).toArray s 0 0 (Al_ L)) D cy (Al_ L) s.heap L κ ln R I_112 J_113 243 [(0, .ref x), (1, .int v_117), (2, .int v_118), (3, .int v_119), (4, .int v_120)] [] := by
        intro I_112 J_113 hU_114 hF_115 hG_116 v_117 rv_117 v_118 rv_118 v_119 rv_119 v_120 rv_120 v_121 rv_121 v_122 rv_122 v_123 rv_123 v_124 rv_124 v_125 q_126 q_127 q_128 q_129 q_130 hm_131 hj_132
        refine g_aload_n C 0 dX12_go_243 rfl rfl ?_
        refine g_getR C K hLx hkx f_12_7 hb_2 dX12_go_244 ?_
        refine g_aload_n C 0 dX12_go_247 rfl rfl ?_
        refine g_getI C K hLx hkx f_12_95 (v := v_123) q_128 dX12_go_248 ?_
        obtain ⟨x_133, hx_133, rx_133⟩ := ex_getw (I := I_112) (a := b_2) (j := v_123.toNatClampNeg) (lo := 0) (hi := 255) hU_114.1 hb_2L (ro_a hb_2k (by decide) hb_2o hkx rfl) (rfl)
        refine h_iald C K hb_2L hb_2k (v := x_133) (v_123.toNatClampNeg) (rfl) (ix_0 rv_123 (by decide)) (ix_lt rv_123 (by decide) hb_2n (by decide)) hx_133 dX12_go_251 ?_
        refine g_istore C dX12_go_252 (by decide) (lo2 := [(4, .int x_133), (0, .ref x), (1, .int v_117), (2, .int v_118), (3, .int v_119)]) rfl ?_
        refine g_iload_n C 4 dX12_go_254 rfl rfl ?_
        refine g_if_eq C (tgt := 271) dX12_go_255 (by decide) (fun h_134 => ?_) (fun h_134 => ?_)
        · skip
          have r_135 := (⟨(rv_119).1, (eq_rg (h_134) rc_0).2⟩ : Rg 0 0 v_119)
          refine g_lo (is := [1, 2, 3, 4, 0]) (lo2 := [(0, .ref x), (1, .int v_117), (2, .int v_118), (3, .int v_119), (4, .int x_133)]) rfl ?_
          exact j_271 I_112 J_113 hU_114 hF_115 hG_116 v_117 (rv_117) v_118 (rv_118) v_119 (rg_w r_135 (by decide) (by decide)) x_133 (rx_133) v_121 (rv_121) v_122 (rv_122) v_123 (rv_123) v_124 (rv_124) v_125 q_126 q_127 q_128 q_129 q_130 hm_131 (by have := hj_132; omega)
        · skip
          have n_136 : ¬ v_119 = 0 := h_134
          have r_137 := ne_lo (lo := 1) n_136 rv_119 rc_0 rfl (by decide)
          refine g_iload C 0 dX12_go_258 rfl ?_
          refine g_callSI C K (c_X12_isLetter W9 x_133  hU_114) s_12_107 rfl ⟨rfl, rfl⟩ ⟨Nat.le_of_ble_eq_true rfl, Nat.le_of_ble_eq_true rfl⟩ (Nat.le_of_ble_eq_true rfl) ⟨Nat.le_of_ble_eq_true rfl, Nat.le_of_ble_eq_true rfl⟩ dX12_go_260 rfl (st := []) (fun x_138 I_139 J_140 h_141 => ?_)
          obtain ⟨rfl, rfl, rx_138, ex_138⟩ := h_141
          refine g_iload_n C 3 dX12_go_263 rfl rfl ?_
          refine g_icmp_ne C (tgt := 271) dX12_go_264 (by decide) (fun h_142 => ?_) (fun h_142 => ?_)
          · skip
            refine g_lo (is := [1, 2, 3, 4, 0]) (lo2 := [(0, .ref x), (1, .int v_117), (2, .int v_118), (3, .int v_119), (4, .int x_133)]) rfl ?_
            exact j_271 I_112 J_113 hU_114 hF_115 hG_116 v_117 (rv_117) v_118 (rv_118) v_119 (rg_w r_137 (by decide) (by decide)) x_133 (rx_133) v_121 (rv_121) v_122 (rv_122) v_123 (rv_123) v_124 (rv_124) v_125 q_126 q_127 q_128 q_129 q_130 hm_131 (by have := hj_132; omega)
          · skip
            refine g_iconst C (v := 1) dX12_go_267 (by decide) ?_
            refine g_goto C (tgt := 272) dX12_go_268 (by decide) ?_
            refine g_istore_n C dX12_go_272 rfl (by decide) (lo2 := [(3, .int 1), (4, .int x_133), (0, .ref x), (1, .int v_117), (2, .int v_118)]) rfl ?_
            refine g_aload_n C 2 dX12_go_273 rfl rfl ?_
            refine g_getI C K hLx hkx f_12_95 (v := v_123) q_128 dX12_go_274 ?_
            refine g_aload_n C 2 dX12_go_277 rfl rfl ?_
            refine g_getI C K hLx hkx f_12_98 (v := v_124) q_129 dX12_go_278 ?_
            obtain ⟨x_143, hx_143, rx_143, tx_143⟩ := ex_sub (-938) 939 rv_123 rv_124 (by decide) (by decide) (by decide) (by decide)
            refine g_isub C (v := x_143) dX12_go_281 hx_143 ?_
            refine g_bipush C (v := 7) dX12_go_282 (by decide) ?_
            refine g_icmp_ge C (tgt := 307) dX12_go_284 (by decide) (fun h_144 => ?_) (fun h_144 => ?_)
            · skip
              have r_145 := le_r (h_144) rc_7 rx_143
              refine g_lo (is := [2, 3, 4, 0, 1]) (lo2 := [(0, .ref x), (1, .int v_117), (2, .int v_118), (3, .int 1), (4, .int x_133)]) rfl ?_
              exact j_307 I_112 J_113 hU_114 hF_115 hG_116 v_117 (rv_117) v_118 (rv_118) 1 (rg_w rc_1 (by decide) (by decide)) x_133 (rx_133) v_121 (rv_121) v_122 (rv_122) v_123 (rv_123) v_124 (rv_124) v_125 q_126 q_127 q_128 q_129 q_130 hm_131 (by have := hj_132; omega)
            · skip
              have r_146 := lt_l (hi := 6) (nle h_144) rx_143 rc_7 (by decide)
              refine g_aload_n C 2 dX12_go_287 rfl rfl ?_
              refine g_ldc2 C kl_128 dX12_go_288 ?_
              refine g_aload_n C 2 dX12_go_291 rfl rfl ?_
              obtain ⟨y_147, hy_147⟩ : ∃ z, J_113 x 12 = z := ⟨_, rfl⟩
              refine g_getJ C K hLx hkx f_12_117 (v := y_147) hy_147 dX12_go_292 ?_
              refine g_lmul C dX12_go_295 (fun y_148 => ?_)
              refine g_iload C 1 dX12_go_296 rfl ?_
              obtain ⟨y_149, hy_149⟩ : ∃ z, Int32.toInt64 x_133 = z := ⟨_, rfl⟩
              refine g_i2l C (v := y_149) dX12_go_298 hy_149 ?_
              refine g_ladd C dX12_go_299 (fun y_150 => ?_)
              refine g_ldc2 C kl_130 dX12_go_300 ?_
              refine g_lsub C dX12_go_303 (fun y_151 => ?_)
              refine h_putJ C K hLx hkx f_12_117 p_12_12 dX12_go_304 (fun J_152 hJ_152 => ?_)
              have hG_153 := fq_puto hG_116 hJ_152 hkx (by decide) (by decide)
              refine g_lo (is := [2, 3, 4, 0, 1]) (lo2 := [(0, .ref x), (1, .int v_117), (2, .int v_118), (3, .int 1), (4, .int x_133)]) rfl ?_
              exact j_307 I_112 J_152 hU_114 hF_115 hG_153 v_117 (rv_117) v_118 (rv_118) 1 (rg_w rc_1 (by decide) (by decide)) x_133 (rx_133) v_121 (rv_121) v_122 (rv_122) v_123 (rv_123) v_124 (rv_124) v_125 q_126 q_127 q_128 q_129 q_130 hm_131 (by have := hj_132; omega)
      refine g_aload_n C 0 dX12_go_215 rfl rfl ?_
      refine g_aload_n C 0 dX12_go_216 rfl rfl ?_
      refine g_getI C K hLx hkx f_12_95 (v := v_14) q_19 dX12_go_217 ?_
      refine g_callVI C K (c_X12_tapeAt W9 hLx hkx v_14 (rg_w rv_14 (by decide) (by decide)) hU_5) hLx hkx (by decide) rfl v_12_124 rfl ⟨rfl, rfl⟩ ⟨Nat.le_of_ble_eq_true rfl, Nat.le_of_ble_eq_true rfl⟩ (Nat.le_of_ble_eq_true rfl) ⟨Nat.le_of_ble_eq_true rfl, Nat.le_of_ble_eq_true rfl⟩ dX12_go_220 rfl (st := []) (fun x_154 I_155 J_156 h_157 => ?_)
      obtain ⟨rfl, rfl, rx_154, ex_154⟩ := h_157
      refine g_callSI C K (c_X12_isLetter W9 x_154  hU_5) s_12_107 rfl ⟨rfl, rfl⟩ ⟨Nat.le_of_ble_eq_true rfl, Nat.le_of_ble_eq_true rfl⟩ (Nat.le_of_ble_eq_true rfl) ⟨Nat.le_of_ble_eq_true rfl, Nat.le_of_ble_eq_true rfl⟩ dX12_go_223 rfl (st := []) (fun x_158 I_159 J_160 h_161 => ?_)
      obtain ⟨rfl, rfl, rx_158, ex_158⟩ := h_161
      refine g_if_ne C (tgt := 243) dX12_go_226 (by decide) (fun h_162 => ?_) (fun h_162 => ?_)
      · skip
        have n_163 : ¬ x_158 = 0 := h_162
        have r_164 := ne_lo (lo := 1) n_163 rx_158 rc_0 rfl (by decide)
        have r_165 := rg_i rx_154 ((ex_158.2) n_163) (lo := 97) (hi := 122) (by decide) (by decide)
        have r_166 := rg_i rv_14 ((ex_154.2) (rg_nz r_165 (by decide))) (lo := 1) (hi := 939) (by decide) (by decide)
        refine g_lo (is := [0, 1, 2, 3, 4]) (lo2 := [(0, .ref x), (1, .int v_8), (2, .int v_9), (3, .int v_10), (4, .int v_11)]) rfl ?_
        exact j_243 I_3 J_4 hU_5 hF_6 hG_7 v_8 (rv_8) v_9 (rv_9) v_10 (rv_10) v_11 (rv_11) v_12 (rv_12) v_13 (rv_13) v_14 (r_166) v_15 (rv_15) v_16 q_17 q_18 q_19 q_20 q_21 hm_23 (by have := hj_22; omega)
      · skip
        have r_167 := (⟨(rx_158).1, (eq_rg (h_162) rc_0).2⟩ : Rg 0 0 x_158)
        refine g_aload_n C 0 dX12_go_229 rfl rfl ?_
        refine g_aload_n C 0 dX12_go_230 rfl rfl ?_
        refine g_getI C K hLx hkx f_12_95 (v := v_14) q_19 dX12_go_231 ?_
        refine g_callVI C K (c_X12_tapeAt W9 hLx hkx v_14 (rg_w rv_14 (by decide) (by decide)) hU_5) hLx hkx (by decide) rfl v_12_124 rfl ⟨rfl, rfl⟩ ⟨Nat.le_of_ble_eq_true rfl, Nat.le_of_ble_eq_true rfl⟩ (Nat.le_of_ble_eq_true rfl) ⟨Nat.le_of_ble_eq_true rfl, Nat.le_of_ble_eq_true rfl⟩ dX12_go_234 rfl (st := []) (fun x_168 I_169 J_170 h_171 => ?_)
        obtain ⟨rfl, rfl, rx_168, ex_168⟩ := h_171
        refine g_callSI C K (c_X12_isDigit W9 x_168  hU_5) s_12_111 rfl ⟨rfl, rfl⟩ ⟨Nat.le_of_ble_eq_true rfl, Nat.le_of_ble_eq_true rfl⟩ (Nat.le_of_ble_eq_true rfl) ⟨Nat.le_of_ble_eq_true rfl, Nat.le_of_ble_eq_true rfl⟩ dX12_go_237 rfl (st := []) (fun x_172 I_173 J_174 h_175 => ?_)
        obtain ⟨rfl, rfl, rx_172, ex_172⟩ := h_175
        refine g_if_eq C (tgt := 350) dX12_go_240 (by decide) (fun h_176 => ?_) (fun h_176 => ?_)
        · skip
          have r_177 := (⟨(rx_172).1, (eq_rg (h_176) rc_0).2⟩ : Rg 0 0 x_172)
          refine g_aload_n C 0 dX12_go_350 rfl rfl ?_
          refine g_iload_n C 3 dX12_go_351 rfl rfl ?_
          refine g_if_eq C (tgt := 377) dX12_go_352 (by decide) (fun h_178 => ?_) (fun h_178 => ?_)
          · skip
            have r_179 := (⟨(rv_10).1, (eq_rg (h_178) rc_0).2⟩ : Rg 0 0 v_10)
            refine g_iconst C (v := 1) dX12_go_377 (by decide) ?_
            refine g_goto C (tgt := 390) dX12_go_378 (by decide) ?_
            refine h_putI C K hLx hkx f_12_104 p_12_7 dX12_go_390 (fun I_180 hI_180 => ?_)
            have hU_181 := iw_put W9 hU_5 hI_180 (ro_o hkx (by decide)) (lo := 0) (hi := 4) (rfl) (rg_w rc_1 (by decide) (by decide)) rfl
            have hF_182 := fq_puto hF_6 hI_180 hkx (by decide) (by decide)
            exact g_vret B K rfl ⟨hU_181, hF_182, hG_7, (ps_mk hx_1 (kp_j hI_180 (by decide) q_19) (kp_s hI_180) (by have := hj_22; omega) (Or.inr (by have := (rc_1).2; omega)))⟩ dX12_go_393
          · skip
            have n_183 : ¬ v_10 = 0 := h_178
            have r_184 := ne_lo (lo := 1) n_183 rv_10 rc_0 rfl (by decide)
            refine g_aload_n C 0 dX12_go_355 rfl rfl ?_
            refine g_getI C K hLx hkx f_12_95 (v := v_14) q_19 dX12_go_356 ?_
            refine g_aload_n C 0 dX12_go_359 rfl rfl ?_
            refine g_getI C K hLx hkx f_12_98 (v := v_15) q_20 dX12_go_360 ?_
            obtain ⟨x_185, hx_185, rx_185, tx_185⟩ := ex_sub (-938) 940 rv_14 rv_15 (by decide) (by decide) (by decide) (by decide)
            refine g_isub C (v := x_185) dX12_go_363 hx_185 ?_
            refine g_iload_n C 2 dX12_go_364 rfl rfl ?_
            refine g_if_eq C (tgt := 373) dX12_go_365 (by decide) (fun h_186 => ?_) (fun h_186 => ?_)
            · skip
              have r_187 := (⟨(rv_9).1, (eq_rg (h_186) rc_0).2⟩ : Rg 0 0 v_9)
              refine g_iconst C (v := 3) dX12_go_373 (by decide) ?_
              refine g_icmp_le C (tgt := 381) dX12_go_374 (by decide) (fun h_188 => ?_) (fun h_188 => ?_)
              · skip
                have r_189 := le_l (h_188) rx_185 rc_3
                refine g_iload_n C 2 dX12_go_381 rfl rfl ?_
                refine g_if_eq C (tgt := 389) dX12_go_382 (by decide) (fun h_190 => ?_) (fun h_190 => ?_)
                · skip
                  refine g_iconst C (v := 3) dX12_go_389 (by decide) ?_
                  refine h_putI C K hLx hkx f_12_104 p_12_7 dX12_go_390 (fun I_191 hI_191 => ?_)
                  have hU_192 := iw_put W9 hU_5 hI_191 (ro_o hkx (by decide)) (lo := 0) (hi := 4) (rfl) (rg_w rc_3 (by decide) (by decide)) rfl
                  have hF_193 := fq_puto hF_6 hI_191 hkx (by decide) (by decide)
                  exact g_vret B K rfl ⟨hU_192, hF_193, hG_7, (ps_mk hx_1 (kp_j hI_191 (by decide) q_19) (kp_s hI_191) (Int.le_of_lt (by have := hj_22; omega)) (Or.inl (by have := hj_22; omega)))⟩ dX12_go_393
                · skip
                  exact ne_no (h_190) r_187 rc_0
              · skip
                have r_194 := lt_r (lo := 4) (nle h_188) rc_3 rx_185 (by decide)
                refine g_iconst C (v := 1) dX12_go_377 (by decide) ?_
                refine g_goto C (tgt := 390) dX12_go_378 (by decide) ?_
                refine h_putI C K hLx hkx f_12_104 p_12_7 dX12_go_390 (fun I_195 hI_195 => ?_)
                have hU_196 := iw_put W9 hU_5 hI_195 (ro_o hkx (by decide)) (lo := 0) (hi := 4) (rfl) (rg_w rc_1 (by decide) (by decide)) rfl
                have hF_197 := fq_puto hF_6 hI_195 hkx (by decide) (by decide)
                exact g_vret B K rfl ⟨hU_196, hF_197, hG_7, (ps_mk hx_1 (kp_j hI_195 (by decide) q_19) (kp_s hI_195) (by have := hj_22; omega) (Or.inr (by have := (rc_1).2; omega)))⟩ dX12_go_393
            · skip
              have n_198 : ¬ v_9 = 0 := h_186
              have r_199 := ne_lo (lo := 1) n_198 rv_9 rc_0 rfl (by decide)
              refine g_bipush C (v := 7) dX12_go_368 (by decide) ?_
              refine g_goto C (tgt := 374) dX12_go_370 (by decide) ?_
              refine g_icmp_le C (tgt := 381) dX12_go_374 (by decide) (fun h_200 => ?_) (fun h_200 => ?_)
              · skip
                have r_201 := le_l (h_200) rx_185 rc_7
                refine g_iload_n C 2 dX12_go_381 rfl rfl ?_
                refine g_if_eq C (tgt := 389) dX12_go_382 (by decide) (fun h_202 => ?_) (fun h_202 => ?_)
                · skip
                  exact eq_no (h_202) r_199 rc_0 (by decide)
                · skip
                  have n_203 : ¬ v_9 = 0 := h_202
                  refine g_iconst C (v := 2) dX12_go_385 (by decide) ?_
                  refine g_goto C (tgt := 390) dX12_go_386 (by decide) ?_
                  refine h_putI C K hLx hkx f_12_104 p_12_7 dX12_go_390 (fun I_204 hI_204 => ?_)
                  have hU_205 := iw_put W9 hU_5 hI_204 (ro_o hkx (by decide)) (lo := 0) (hi := 4) (rfl) (rg_w rc_2 (by decide) (by decide)) rfl
                  have hF_206 := fq_puto hF_6 hI_204 hkx (by decide) (by decide)
                  exact g_vret B K rfl ⟨hU_205, hF_206, hG_7, (ps_mk hx_1 (kp_j hI_204 (by decide) q_19) (kp_s hI_204) (Int.le_of_lt (by have := hj_22; omega)) (Or.inl (by have := hj_22; omega)))⟩ dX12_go_393
              · skip
                have r_207 := lt_r (lo := 8) (nle h_200) rc_7 rx_185 (by decide)
                refine g_iconst C (v := 1) dX12_go_377 (by decide) ?_
                refine g_goto C (tgt := 390) dX12_go_378 (by decide) ?_
                refine h_putI C K hLx hkx f_12_104 p_12_7 dX12_go_390 (fun I_208 hI_208 => ?_)
                have hU_209 := iw_put W9 hU_5 hI_208 (ro_o hkx (by decide)) (lo := 0) (hi := 4) (rfl) (rg_w rc_1 (by decide) (by decide)) rfl
                have hF_210 := fq_puto hF_6 hI_208 hkx (by decide) (by decide)
                exact g_vret B K rfl ⟨hU_209, hF_210, hG_7, (ps_mk hx_1 (kp_j hI_208 (by decide) q_19) (kp_s hI_208) (by have := hj_22; omega) (Or.inr (by have := (rc_1).2; omega)))⟩ dX12_go_393
        · skip
          have n_211 : ¬ x_172 = 0 := h_176
          have r_212 := ne_lo (lo := 1) n_211 rx_172 rc_0 rfl (by decide)
          have r_213 := rg_i rx_168 ((ex_172.2) n_211) (lo := 48) (hi := 57) (by decide) (by decide)
          have r_214 := rg_i rv_14 ((ex_168.2) (rg_nz r_213 (by decide))) (lo := 1) (hi := 939) (by decide) (by decide)
          refine g_lo (is := [0, 1, 2, 3, 4]) (lo2 := [(0, .ref x), (1, .int v_8), (2, .int v_9), (3, .int v_10), (4, .int v_11)]) rfl ?_
          exact j_243 I_3 J_4 hU_5 hF_6 hG_7 v_8 (rv_8) v_9 (rv_9) v_10 (rv_10) v_11 (rv_11) v_12 (rv_12) v_13 (rv_13) v_14 (r_214) v_15 (rv_15) v_16 q_17 q_18 q_19 q_20 q_21 hm_23 (by have := hj_22; omega)
  have j_96 : ∀ (I_215 : Nat → Nat → Int32) (J_216 : Nat → Nat → Int64) (hU_217 : Iw L κ R ow I_215) (hF_218 : Fq L κ ow [1205, 1206, 1207, 1208, 1209] I I_215) (hG_219 : Fq L κ ow [1212] J J_216) (v_220 : Int32) (rv_220 : Rg 0 940 v_220) (v_221 : Int32) (rv_221 : Rg 0 900 v_221) (v_222 : Int32) (rv_222 : Rg 0 940 v_222) (q_223 : I_215 x 3 = v_220) (q_224 : I_215 x 4 = v_221) (q_225 : I_215 x 5 = v_222) (q_226 : I_215 x 6 = v_222) (hj_227 : x_1.toInt ≤ v_222.toInt), WG p l e { frames := 1, cells := 0, slots := 0, locals := 21 } s m ([.ref x] : List Value).toArray below meth c 5 0 0 (MQ below (Qv_ D cy L κ ln R (fun I2 J2 => Iw L κ R ow I2 ∧ Fq L κ ow [1205, 1206, 1207, 1208, 1209] I I2 ∧ Fq L κ ow [1212] J J2 ∧ (Ps_ x I I2))) ([.ref x] : List Value).toArray s 0 0 (Al_ L)) D cy (Al_ L) s.heap L κ ln R I_215 J_216 96 [(0, .ref x)] [] := by
    intro I_215 J_216 hU_217 hF_218 hG_219 v_220 rv_220 v_221 rv_221 v_222 rv_222 q_223 q_224 q_225 q_226 hj_227
    refine g_aload_n C 0 dX12_go_96 rfl rfl ?_
    refine g_getI C K hLx hkx f_12_95 (v := v_222) q_225 dX12_go_97 ?_
    refine g_aload_n C 0 dX12_go_100 rfl rfl ?_
    refine g_getI C K hLx hkx f_12_92 (v := v_220) q_223 dX12_go_101 ?_
    refine g_icmp_lt C (tgt := 113) dX12_go_104 (by decide) (fun h_228 => ?_) (fun h_228 => ?_)
    · skip
      have r_229 := lt_l (hi := 939) (h_228) rv_222 rv_220 (by decide)
      have r_230 := lt_r (lo := 1) (h_228) rv_222 rv_220 (by decide)
      refine g_aload_n C 0 dX12_go_113 rfl rfl ?_
      refine g_getR C K hLx hkx f_12_7 hb_2 dX12_go_114 ?_
      refine g_aload_n C 0 dX12_go_117 rfl rfl ?_
      refine g_getI C K hLx hkx f_12_95 (v := v_222) q_225 dX12_go_118 ?_
      obtain ⟨x_231, hx_231, rx_231⟩ := ex_getw (I := I_215) (a := b_2) (j := v_222.toNatClampNeg) (lo := 0) (hi := 255) hU_217.1 hb_2L (ro_a hb_2k (by decide) hb_2o hkx rfl) (rfl)
      refine h_iald C K hb_2L hb_2k (v := x_231) (v_222.toNatClampNeg) (rfl) (ix_0 r_229 (by decide)) (ix_lt r_229 (by decide) hb_2n (by decide)) hx_231 dX12_go_121 ?_
      refine g_istore_n C dX12_go_122 rfl (by decide) (lo2 := [(1, .int x_231), (0, .ref x)]) rfl ?_
      refine g_iload_n C 0 dX12_go_123 rfl rfl ?_
      refine g_callSI C K (c_X12_isLetter W9 x_231  hU_217) s_12_107 rfl ⟨rfl, rfl⟩ ⟨Nat.le_of_ble_eq_true rfl, Nat.le_of_ble_eq_true rfl⟩ (Nat.le_of_ble_eq_true rfl) ⟨Nat.le_of_ble_eq_true rfl, Nat.le_of_ble_eq_true rfl⟩ dX12_go_124 rfl (st := []) (fun x_232 I_233 J_234 h_235 => ?_)
      obtain ⟨rfl, rfl, rx_232, ex_232⟩ := h_235
      refine g_if_ne C (tgt := 198) dX12_go_127 (by decide) (fun h_236 => ?_) (fun h_236 => ?_)
      · skip
        have n_237 : ¬ x_232 = 0 := h_236
        have r_238 := ne_lo (lo := 1) n_237 rx_232 rc_0 rfl (by decide)
        have r_239 := rg_i rx_231 ((ex_232.2) n_237) (lo := 97) (hi := 122) (by decide) (by decide)
        refine g_iload_n C 0 dX12_go_198 rfl rfl ?_
        refine g_callSI C K (c_X12_isLetter W9 x_231  hU_217) s_12_107 rfl ⟨rfl, rfl⟩ ⟨Nat.le_of_ble_eq_true rfl, Nat.le_of_ble_eq_true rfl⟩ (Nat.le_of_ble_eq_true rfl) ⟨Nat.le_of_ble_eq_true rfl, Nat.le_of_ble_eq_true rfl⟩ dX12_go_199 rfl (st := []) (fun x_240 I_241 J_242 h_243 => ?_)
        obtain ⟨rfl, rfl, rx_240, ex_240⟩ := h_243
        have n_244 : ¬ x_240 = 0 := by rcases ex_240.1 with q | q | q; exact q; exact absurd q (by have := (r_239).1; omega); exact absurd q (by have := (r_239).2; omega)
        have n_245 : ¬ x_240 = 0 := n_244
        have r_246 := ne_lo (lo := 1) n_245 rx_240 rc_0 rfl (by decide)
        refine g_istore_n C dX12_go_202 rfl (by decide) (lo2 := [(2, .int x_240), (1, .int x_231), (0, .ref x)]) rfl ?_
        refine g_iconst C (v := 1) dX12_go_203 (by decide) ?_
        refine g_istore_n C dX12_go_204 rfl (by decide) (lo2 := [(3, .int 1), (2, .int x_240), (1, .int x_231), (0, .ref x)]) rfl ?_
        refine g_aload_n C 3 dX12_go_205 rfl rfl ?_
        refine g_lconst C (v := 0) dX12_go_206 (by decide) ?_
        refine h_putJ C K hLx hkx f_12_117 p_12_12 dX12_go_207 (fun J_247 hJ_247 => ?_)
        have hG_248 := fq_puto hG_219 hJ_247 hkx (by decide) (by decide)
        refine g_aload_n C 3 dX12_go_210 rfl rfl ?_
        refine g_iconst C (v := 0) dX12_go_211 (by decide) ?_
        refine h_putI C K hLx hkx f_12_121 p_12_8 dX12_go_212 (fun I_249 hI_249 => ?_)
        have hU_250 := iw_put W9 hU_217 hI_249 (ro_o hkx (by decide)) (lo := (-2147483648)) (hi := 2147483647) (rfl) (rg_all _) rfl
        have hF_251 := fq_puto hF_218 hI_249 hkx (by decide) (by decide)
        refine g_aload_n C 3 dX12_go_215 rfl rfl ?_
        refine g_aload_n C 3 dX12_go_216 rfl rfl ?_
        refine g_getI C K hLx hkx f_12_95 (v := v_222) (kp_j hI_249 (by decide) q_225) dX12_go_217 ?_
        refine g_callVI C K (c_X12_tapeAt W9 hLx hkx v_222 (rg_w r_229 (by decide) (by decide)) hU_250) hLx hkx (by decide) rfl v_12_124 rfl ⟨rfl, rfl⟩ ⟨Nat.le_of_ble_eq_true rfl, Nat.le_of_ble_eq_true rfl⟩ (Nat.le_of_ble_eq_true rfl) ⟨Nat.le_of_ble_eq_true rfl, Nat.le_of_ble_eq_true rfl⟩ dX12_go_220 rfl (st := []) (fun x_252 I_253 J_254 h_255 => ?_)
        obtain ⟨rfl, rfl, rx_252, ex_252⟩ := h_255
        have r_256 := eq_rg ((ex_252.1 _ hb_2 (by rw [(kp_j hI_249 (by decide) q_223)]; exact h_228)).trans (kp_k (κ := κ) hI_249 (by rw [hb_2k, hkx]; decide) hx_231)) r_239
        refine g_callSI C K (c_X12_isLetter W9 x_252  hU_250) s_12_107 rfl ⟨rfl, rfl⟩ ⟨Nat.le_of_ble_eq_true rfl, Nat.le_of_ble_eq_true rfl⟩ (Nat.le_of_ble_eq_true rfl) ⟨Nat.le_of_ble_eq_true rfl, Nat.le_of_ble_eq_true rfl⟩ dX12_go_223 rfl (st := []) (fun x_257 I_258 J_259 h_260 => ?_)
        obtain ⟨rfl, rfl, rx_257, ex_257⟩ := h_260
        have n_261 : ¬ x_257 = 0 := by rcases ex_257.1 with q | q | q; exact q; exact absurd q (by have := (r_256).1; omega); exact absurd q (by have := (r_256).2; omega)
        have n_262 : ¬ x_257 = 0 := n_261
        have r_263 := ne_lo (lo := 1) n_262 rx_257 rc_0 rfl (by decide)
        refine g_if_ne C (tgt := 243) dX12_go_226 (by decide) (fun h_264 => ?_) (fun h_264 => ?_)
        · skip
          have n_265 : ¬ x_257 = 0 := h_264
          refine g_aload_n C 3 dX12_go_243 rfl rfl ?_
          refine g_getR C K hLx hkx f_12_7 hb_2 dX12_go_244 ?_
          refine g_aload_n C 3 dX12_go_247 rfl rfl ?_
          refine g_getI C K hLx hkx f_12_95 (v := v_222) (kp_j hI_249 (by decide) q_225) dX12_go_248 ?_
          refine h_iald C K hb_2L hb_2k (v := x_231) (v_222.toNatClampNeg) (rfl) (ix_0 r_229 (by decide)) (ix_lt r_229 (by decide) hb_2n (by decide)) (kp_k (κ := κ) hI_249 (by rw [hb_2k, hkx]; decide) hx_231) dX12_go_251 ?_
          refine g_istore C dX12_go_252 (by decide) (lo2 := [(4, .int x_231), (3, .int 1), (2, .int x_240), (1, .int x_231), (0, .ref x)]) rfl ?_
          refine g_iload_n C 1 dX12_go_254 rfl rfl ?_
          refine g_if_eq C (tgt := 271) dX12_go_255 (by decide) (fun h_267 => ?_) (fun h_267 => ?_)
          · skip
            exact absurd (h_267) (by decide)
          · skip
            refine g_iload C 0 dX12_go_258 rfl ?_
            refine g_callSI C K (c_X12_isLetter W9 x_231  hU_250) s_12_107 rfl ⟨rfl, rfl⟩ ⟨Nat.le_of_ble_eq_true rfl, Nat.le_of_ble_eq_true rfl⟩ (Nat.le_of_ble_eq_true rfl) ⟨Nat.le_of_ble_eq_true rfl, Nat.le_of_ble_eq_true rfl⟩ dX12_go_260 rfl (st := []) (fun x_268 I_269 J_270 h_271 => ?_)
            obtain ⟨rfl, rfl, rx_268, ex_268⟩ := h_271
            have n_272 : ¬ x_268 = 0 := by rcases ex_268.1 with q | q | q; exact q; exact absurd q (by have := (r_239).1; omega); exact absurd q (by have := (r_239).2; omega)
            have n_273 : ¬ x_268 = 0 := n_272
            have r_274 := ne_lo (lo := 1) n_273 rx_268 rc_0 rfl (by decide)
            refine g_iload_n C 2 dX12_go_263 rfl rfl ?_
            refine g_icmp_ne C (tgt := 271) dX12_go_264 (by decide) (fun h_275 => ?_) (fun h_275 => ?_)
            · skip
              exact ne_no (h_275) r_274 r_246
            · skip
              refine g_iconst C (v := 1) dX12_go_267 (by decide) ?_
              refine g_goto C (tgt := 272) dX12_go_268 (by decide) ?_
              refine g_istore_n C dX12_go_272 rfl (by decide) (lo2 := [(3, .int 1), (4, .int x_231), (2, .int x_240), (1, .int x_231), (0, .ref x)]) rfl ?_
              refine g_aload_n C 4 dX12_go_273 rfl rfl ?_
              refine g_getI C K hLx hkx f_12_95 (v := v_222) (kp_j hI_249 (by decide) q_225) dX12_go_274 ?_
              refine g_aload_n C 4 dX12_go_277 rfl rfl ?_
              refine g_getI C K hLx hkx f_12_98 (v := v_222) (kp_j hI_249 (by decide) q_226) dX12_go_278 ?_
              refine g_isub C (v := 0) dX12_go_281 (Int32.sub_self _) ?_
              refine g_bipush C (v := 7) dX12_go_282 (by decide) ?_
              refine g_icmp_ge C (tgt := 307) dX12_go_284 (by decide) (fun h_276 => ?_) (fun h_276 => ?_)
              · skip
                exact absurd (h_276) (by decide)
              · skip
                refine g_aload_n C 4 dX12_go_287 rfl rfl ?_
                refine g_ldc2 C kl_128 dX12_go_288 ?_
                refine g_aload_n C 4 dX12_go_291 rfl rfl ?_
                obtain ⟨y_277, hy_277⟩ : ∃ z, J_247 x 12 = z := ⟨_, rfl⟩
                refine g_getJ C K hLx hkx f_12_117 (v := y_277) hy_277 dX12_go_292 ?_
                refine g_lmul C dX12_go_295 (fun y_278 => ?_)
                refine g_iload C 1 dX12_go_296 rfl ?_
                obtain ⟨y_279, hy_279⟩ : ∃ z, Int32.toInt64 x_231 = z := ⟨_, rfl⟩
                refine g_i2l C (v := y_279) dX12_go_298 hy_279 ?_
                refine g_ladd C dX12_go_299 (fun y_280 => ?_)
                refine g_ldc2 C kl_130 dX12_go_300 ?_
                refine g_lsub C dX12_go_303 (fun y_281 => ?_)
                refine h_putJ C K hLx hkx f_12_117 p_12_12 dX12_go_304 (fun J_282 hJ_282 => ?_)
                have hG_283 := fq_puto hG_248 hJ_282 hkx (by decide) (by decide)
                refine g_aload_n C 4 dX12_go_307 rfl rfl ?_
                refine g_getI C K hLx hkx f_12_95 (v := v_222) (kp_j hI_249 (by decide) q_225) dX12_go_308 ?_
                refine g_aload_n C 4 dX12_go_311 rfl rfl ?_
                refine g_getI C K hLx hkx f_12_98 (v := v_222) (kp_j hI_249 (by decide) q_226) dX12_go_312 ?_
                refine g_isub C (v := 0) dX12_go_315 (Int32.sub_self _) ?_
                refine g_iconst C (v := 3) dX12_go_316 (by decide) ?_
                refine g_icmp_ge C (tgt := 337) dX12_go_317 (by decide) (fun h_284 => ?_) (fun h_284 => ?_)
                · skip
                  exact absurd (h_284) (by decide)
                · skip
                  refine g_aload_n C 4 dX12_go_320 rfl rfl ?_
                  refine g_bipush C (v := 10) dX12_go_321 (by decide) ?_
                  refine g_aload_n C 4 dX12_go_323 rfl rfl ?_
                  refine g_getI C K hLx hkx f_12_121 (v := 0) (kp_s hI_249) dX12_go_324 ?_
                  refine g_imul C (v := 0) dX12_go_327 (by decide) ?_
                  refine g_iload C 1 dX12_go_328 rfl ?_
                  obtain ⟨x_285, hx_285, rx_285, tx_285⟩ := ex_add 97 122 rc_0 r_239 (by decide) (by decide) (by decide) (by decide)
                  refine g_iadd C (v := x_285) dX12_go_330 hx_285 ?_
                  refine g_bipush C (v := 48) dX12_go_331 (by decide) ?_
                  obtain ⟨x_286, hx_286, rx_286, tx_286⟩ := ex_sub 49 74 rx_285 rc_48 (by decide) (by decide) (by decide) (by decide)
                  refine g_isub C (v := x_286) dX12_go_333 hx_286 ?_
                  refine h_putI C K hLx hkx f_12_121 p_12_8 dX12_go_334 (fun I_287 hI_287 => ?_)
                  have hU_288 := iw_put W9 hU_250 hI_287 (ro_o hkx (by decide)) (lo := (-2147483648)) (hi := 2147483647) (rfl) (rg_all _) rfl
                  have hF_289 := fq_puto hF_251 hI_287 hkx (by decide) (by decide)
                  refine g_aload_n C 4 dX12_go_337 rfl rfl ?_
                  refine g_dup C dX12_go_338 rfl ?_
                  refine g_getI C K hLx hkx f_12_95 (v := v_222) (kp_j hI_287 (by decide) (kp_j hI_249 (by decide) q_225)) dX12_go_339 ?_
                  refine g_iconst C (v := 1) dX12_go_342 (by decide) ?_
                  obtain ⟨x_290, hx_290, rx_290, tx_290⟩ := ex_add 1 940 r_229 rc_1 (by decide) (by decide) (by decide) (by decide)
                  refine g_iadd C (v := x_290) dX12_go_343 hx_290 ?_
                  refine h_putI C K hLx hkx f_12_95 p_12_5 dX12_go_344 (fun I_291 hI_291 => ?_)
                  have hU_292 := iw_put W9 hU_288 hI_291 (ro_o hkx (by decide)) (lo := 0) (hi := 940) (rfl) (rg_w rx_290 (by decide) (by decide)) rfl
                  have hF_293 := fq_puto hF_289 hI_291 hkx (by decide) (by decide)
                  refine g_goto C (tgt := 215) dX12_go_347 (by decide) ?_
                  refine g_lo (is := [4, 3, 2, 0, 1]) (lo2 := [(0, .ref x), (1, .int x_231), (2, .int x_240), (3, .int 1), (4, .int x_231)]) rfl ?_
                  exact l_215 940 I_291 J_282 hU_292 hF_293 hG_283 x_231 (rg_w r_239 (by decide) (by decide)) x_240 (rg_w r_246 (by decide) (by decide)) 1 (rg_w rc_1 (by decide) (by decide)) x_231 (rg_w r_239 (by decide) (by decide)) v_220 (r_230) v_221 (rv_221) x_290 (rx_290) v_222 (r_229) x_286 (kp_j hI_291 (by decide) (kp_j hI_287 (by decide) (kp_j hI_249 (by decide) q_223))) (kp_j hI_291 (by decide) (kp_j hI_287 (by decide) (kp_j hI_249 (by decide) q_224))) (kp_s hI_291) (kp_j hI_291 (by decide) (kp_j hI_287 (by decide) (kp_j hI_249 (by decide) q_226))) (kp_j hI_291 (by decide) (kp_s hI_287)) (by have := hj_227; have := (ti_k tx_290 rc_1); omega) (ms_s (a := 1) (b := 940) (N := 940) (rx_290) (by decide))
        · skip
          exact eq_no (h_264) r_263 rc_0 (by decide)
      · skip
        have r_294 := (⟨(rx_232).1, (eq_rg (h_236) rc_0).2⟩ : Rg 0 0 x_232)
        refine g_iload_n C 0 dX12_go_130 rfl rfl ?_
        refine g_callSI C K (c_X12_isDigit W9 x_231  hU_217) s_12_111 rfl ⟨rfl, rfl⟩ ⟨Nat.le_of_ble_eq_true rfl, Nat.le_of_ble_eq_true rfl⟩ (Nat.le_of_ble_eq_true rfl) ⟨Nat.le_of_ble_eq_true rfl, Nat.le_of_ble_eq_true rfl⟩ dX12_go_131 rfl (st := []) (fun x_295 I_296 J_297 h_298 => ?_)
        obtain ⟨rfl, rfl, rx_295, ex_295⟩ := h_298
        refine g_if_ne C (tgt := 198) dX12_go_134 (by decide) (fun h_299 => ?_) (fun h_299 => ?_)
        · skip
          have n_300 : ¬ x_295 = 0 := h_299
          have r_301 := ne_lo (lo := 1) n_300 rx_295 rc_0 rfl (by decide)
          have r_302 := rg_i rx_231 ((ex_295.2) n_300) (lo := 48) (hi := 57) (by decide) (by decide)
          refine g_iload_n C 0 dX12_go_198 rfl rfl ?_
          refine g_callSI C K (c_X12_isLetter W9 x_231  hU_217) s_12_107 rfl ⟨rfl, rfl⟩ ⟨Nat.le_of_ble_eq_true rfl, Nat.le_of_ble_eq_true rfl⟩ (Nat.le_of_ble_eq_true rfl) ⟨Nat.le_of_ble_eq_true rfl, Nat.le_of_ble_eq_true rfl⟩ dX12_go_199 rfl (st := []) (fun x_303 I_304 J_305 h_306 => ?_)
          obtain ⟨rfl, rfl, rx_303, ex_303⟩ := h_306
          refine g_istore_n C dX12_go_202 rfl (by decide) (lo2 := [(2, .int x_303), (1, .int x_231), (0, .ref x)]) rfl ?_
          refine g_iconst C (v := 1) dX12_go_203 (by decide) ?_
          refine g_istore_n C dX12_go_204 rfl (by decide) (lo2 := [(3, .int 1), (2, .int x_303), (1, .int x_231), (0, .ref x)]) rfl ?_
          refine g_aload_n C 3 dX12_go_205 rfl rfl ?_
          refine g_lconst C (v := 0) dX12_go_206 (by decide) ?_
          refine h_putJ C K hLx hkx f_12_117 p_12_12 dX12_go_207 (fun J_307 hJ_307 => ?_)
          have hG_308 := fq_puto hG_219 hJ_307 hkx (by decide) (by decide)
          refine g_aload_n C 3 dX12_go_210 rfl rfl ?_
          refine g_iconst C (v := 0) dX12_go_211 (by decide) ?_
          refine h_putI C K hLx hkx f_12_121 p_12_8 dX12_go_212 (fun I_309 hI_309 => ?_)
          have hU_310 := iw_put W9 hU_217 hI_309 (ro_o hkx (by decide)) (lo := (-2147483648)) (hi := 2147483647) (rfl) (rg_all _) rfl
          have hF_311 := fq_puto hF_218 hI_309 hkx (by decide) (by decide)
          refine g_aload_n C 3 dX12_go_215 rfl rfl ?_
          refine g_aload_n C 3 dX12_go_216 rfl rfl ?_
          refine g_getI C K hLx hkx f_12_95 (v := v_222) (kp_j hI_309 (by decide) q_225) dX12_go_217 ?_
          refine g_callVI C K (c_X12_tapeAt W9 hLx hkx v_222 (rg_w r_229 (by decide) (by decide)) hU_310) hLx hkx (by decide) rfl v_12_124 rfl ⟨rfl, rfl⟩ ⟨Nat.le_of_ble_eq_true rfl, Nat.le_of_ble_eq_true rfl⟩ (Nat.le_of_ble_eq_true rfl) ⟨Nat.le_of_ble_eq_true rfl, Nat.le_of_ble_eq_true rfl⟩ dX12_go_220 rfl (st := []) (fun x_312 I_313 J_314 h_315 => ?_)
          obtain ⟨rfl, rfl, rx_312, ex_312⟩ := h_315
          have r_316 := eq_rg ((ex_312.1 _ hb_2 (by rw [(kp_j hI_309 (by decide) q_223)]; exact h_228)).trans (kp_k (κ := κ) hI_309 (by rw [hb_2k, hkx]; decide) hx_231)) r_302
          refine g_callSI C K (c_X12_isLetter W9 x_312  hU_310) s_12_107 rfl ⟨rfl, rfl⟩ ⟨Nat.le_of_ble_eq_true rfl, Nat.le_of_ble_eq_true rfl⟩ (Nat.le_of_ble_eq_true rfl) ⟨Nat.le_of_ble_eq_true rfl, Nat.le_of_ble_eq_true rfl⟩ dX12_go_223 rfl (st := []) (fun x_317 I_318 J_319 h_320 => ?_)
          obtain ⟨rfl, rfl, rx_317, ex_317⟩ := h_320
          refine g_if_ne C (tgt := 243) dX12_go_226 (by decide) (fun h_321 => ?_) (fun h_321 => ?_)
          · skip
            have n_322 : ¬ x_317 = 0 := h_321
            have r_323 := ne_lo (lo := 1) n_322 rx_317 rc_0 rfl (by decide)
            have r_324 := rg_i r_316 ((ex_317.2) n_322) (lo := 97) (hi := 57) (by decide) (by decide)
            exact rg_no r_324 (by decide)
          · skip
            have r_325 := (⟨(rx_317).1, (eq_rg (h_321) rc_0).2⟩ : Rg 0 0 x_317)
            refine g_aload_n C 3 dX12_go_229 rfl rfl ?_
            refine g_aload_n C 3 dX12_go_230 rfl rfl ?_
            refine g_getI C K hLx hkx f_12_95 (v := v_222) (kp_j hI_309 (by decide) q_225) dX12_go_231 ?_
            refine g_callVI C K (c_X12_tapeAt W9 hLx hkx v_222 (rg_w r_229 (by decide) (by decide)) hU_310) hLx hkx (by decide) rfl v_12_124 rfl ⟨rfl, rfl⟩ ⟨Nat.le_of_ble_eq_true rfl, Nat.le_of_ble_eq_true rfl⟩ (Nat.le_of_ble_eq_true rfl) ⟨Nat.le_of_ble_eq_true rfl, Nat.le_of_ble_eq_true rfl⟩ dX12_go_234 rfl (st := []) (fun x_326 I_327 J_328 h_329 => ?_)
            obtain ⟨rfl, rfl, rx_326, ex_326⟩ := h_329
            have r_330 := eq_rg ((ex_326.1 _ hb_2 (by rw [(kp_j hI_309 (by decide) q_223)]; exact h_228)).trans (kp_k (κ := κ) hI_309 (by rw [hb_2k, hkx]; decide) hx_231)) r_302
            refine g_callSI C K (c_X12_isDigit W9 x_326  hU_310) s_12_111 rfl ⟨rfl, rfl⟩ ⟨Nat.le_of_ble_eq_true rfl, Nat.le_of_ble_eq_true rfl⟩ (Nat.le_of_ble_eq_true rfl) ⟨Nat.le_of_ble_eq_true rfl, Nat.le_of_ble_eq_true rfl⟩ dX12_go_237 rfl (st := []) (fun x_331 I_332 J_333 h_334 => ?_)
            obtain ⟨rfl, rfl, rx_331, ex_331⟩ := h_334
            have n_335 : ¬ x_331 = 0 := by rcases ex_331.1 with q | q | q; exact q; exact absurd q (by have := (r_330).1; omega); exact absurd q (by have := (r_330).2; omega)
            have n_336 : ¬ x_331 = 0 := n_335
            have r_337 := ne_lo (lo := 1) n_336 rx_331 rc_0 rfl (by decide)
            refine g_if_eq C (tgt := 350) dX12_go_240 (by decide) (fun h_338 => ?_) (fun h_338 => ?_)
            · skip
              exact eq_no (h_338) r_337 rc_0 (by decide)
            · skip
              have n_339 : ¬ x_331 = 0 := h_338
              refine g_aload_n C 3 dX12_go_243 rfl rfl ?_
              refine g_getR C K hLx hkx f_12_7 hb_2 dX12_go_244 ?_
              refine g_aload_n C 3 dX12_go_247 rfl rfl ?_
              refine g_getI C K hLx hkx f_12_95 (v := v_222) (kp_j hI_309 (by decide) q_225) dX12_go_248 ?_
              refine h_iald C K hb_2L hb_2k (v := x_231) (v_222.toNatClampNeg) (rfl) (ix_0 r_229 (by decide)) (ix_lt r_229 (by decide) hb_2n (by decide)) (kp_k (κ := κ) hI_309 (by rw [hb_2k, hkx]; decide) hx_231) dX12_go_251 ?_
              refine g_istore C dX12_go_252 (by decide) (lo2 := [(4, .int x_231), (3, .int 1), (2, .int x_303), (1, .int x_231), (0, .ref x)]) rfl ?_
              refine g_iload_n C 1 dX12_go_254 rfl rfl ?_
              refine g_if_eq C (tgt := 271) dX12_go_255 (by decide) (fun h_341 => ?_) (fun h_341 => ?_)
              · skip
                exact absurd (h_341) (by decide)
              · skip
                refine g_iload C 0 dX12_go_258 rfl ?_
                refine g_callSI C K (c_X12_isLetter W9 x_231  hU_310) s_12_107 rfl ⟨rfl, rfl⟩ ⟨Nat.le_of_ble_eq_true rfl, Nat.le_of_ble_eq_true rfl⟩ (Nat.le_of_ble_eq_true rfl) ⟨Nat.le_of_ble_eq_true rfl, Nat.le_of_ble_eq_true rfl⟩ dX12_go_260 rfl (st := []) (fun x_342 I_343 J_344 h_345 => ?_)
                obtain ⟨rfl, rfl, rx_342, ex_342⟩ := h_345
                refine g_iload_n C 2 dX12_go_263 rfl rfl ?_
                refine g_icmp_ne C (tgt := 271) dX12_go_264 (by decide) (fun h_346 => ?_) (fun h_346 => ?_)
                · skip
                  refine g_iconst C (v := 0) dX12_go_271 (by decide) ?_
                  refine g_istore_n C dX12_go_272 rfl (by decide) (lo2 := [(3, .int 0), (4, .int x_231), (2, .int x_303), (1, .int x_231), (0, .ref x)]) rfl ?_
                  refine g_aload_n C 4 dX12_go_273 rfl rfl ?_
                  refine g_getI C K hLx hkx f_12_95 (v := v_222) (kp_j hI_309 (by decide) q_225) dX12_go_274 ?_
                  refine g_aload_n C 4 dX12_go_277 rfl rfl ?_
                  refine g_getI C K hLx hkx f_12_98 (v := v_222) (kp_j hI_309 (by decide) q_226) dX12_go_278 ?_
                  refine g_isub C (v := 0) dX12_go_281 (Int32.sub_self _) ?_
                  refine g_bipush C (v := 7) dX12_go_282 (by decide) ?_
                  refine g_icmp_ge C (tgt := 307) dX12_go_284 (by decide) (fun h_347 => ?_) (fun h_347 => ?_)
                  · skip
                    exact absurd (h_347) (by decide)
                  · skip
                    refine g_aload_n C 4 dX12_go_287 rfl rfl ?_
                    refine g_ldc2 C kl_128 dX12_go_288 ?_
                    refine g_aload_n C 4 dX12_go_291 rfl rfl ?_
                    obtain ⟨y_348, hy_348⟩ : ∃ z, J_307 x 12 = z := ⟨_, rfl⟩
                    refine g_getJ C K hLx hkx f_12_117 (v := y_348) hy_348 dX12_go_292 ?_
                    refine g_lmul C dX12_go_295 (fun y_349 => ?_)
                    refine g_iload C 1 dX12_go_296 rfl ?_
                    obtain ⟨y_350, hy_350⟩ : ∃ z, Int32.toInt64 x_231 = z := ⟨_, rfl⟩
                    refine g_i2l C (v := y_350) dX12_go_298 hy_350 ?_
                    refine g_ladd C dX12_go_299 (fun y_351 => ?_)
                    refine g_ldc2 C kl_130 dX12_go_300 ?_
                    refine g_lsub C dX12_go_303 (fun y_352 => ?_)
                    refine h_putJ C K hLx hkx f_12_117 p_12_12 dX12_go_304 (fun J_353 hJ_353 => ?_)
                    have hG_354 := fq_puto hG_308 hJ_353 hkx (by decide) (by decide)
                    refine g_aload_n C 4 dX12_go_307 rfl rfl ?_
                    refine g_getI C K hLx hkx f_12_95 (v := v_222) (kp_j hI_309 (by decide) q_225) dX12_go_308 ?_
                    refine g_aload_n C 4 dX12_go_311 rfl rfl ?_
                    refine g_getI C K hLx hkx f_12_98 (v := v_222) (kp_j hI_309 (by decide) q_226) dX12_go_312 ?_
                    refine g_isub C (v := 0) dX12_go_315 (Int32.sub_self _) ?_
                    refine g_iconst C (v := 3) dX12_go_316 (by decide) ?_
                    refine g_icmp_ge C (tgt := 337) dX12_go_317 (by decide) (fun h_355 => ?_) (fun h_355 => ?_)
                    · skip
                      exact absurd (h_355) (by decide)
                    · skip
                      refine g_aload_n C 4 dX12_go_320 rfl rfl ?_
                      refine g_bipush C (v := 10) dX12_go_321 (by decide) ?_
                      refine g_aload_n C 4 dX12_go_323 rfl rfl ?_
                      refine g_getI C K hLx hkx f_12_121 (v := 0) (kp_s hI_309) dX12_go_324 ?_
                      refine g_imul C (v := 0) dX12_go_327 (by decide) ?_
                      refine g_iload C 1 dX12_go_328 rfl ?_
                      obtain ⟨x_356, hx_356, rx_356, tx_356⟩ := ex_add 48 57 rc_0 r_302 (by decide) (by decide) (by decide) (by decide)
                      refine g_iadd C (v := x_356) dX12_go_330 hx_356 ?_
                      refine g_bipush C (v := 48) dX12_go_331 (by decide) ?_
                      obtain ⟨x_357, hx_357, rx_357, tx_357⟩ := ex_sub 0 9 rx_356 rc_48 (by decide) (by decide) (by decide) (by decide)
                      refine g_isub C (v := x_357) dX12_go_333 hx_357 ?_
                      refine h_putI C K hLx hkx f_12_121 p_12_8 dX12_go_334 (fun I_358 hI_358 => ?_)
                      have hU_359 := iw_put W9 hU_310 hI_358 (ro_o hkx (by decide)) (lo := (-2147483648)) (hi := 2147483647) (rfl) (rg_all _) rfl
                      have hF_360 := fq_puto hF_311 hI_358 hkx (by decide) (by decide)
                      refine g_aload_n C 4 dX12_go_337 rfl rfl ?_
                      refine g_dup C dX12_go_338 rfl ?_
                      refine g_getI C K hLx hkx f_12_95 (v := v_222) (kp_j hI_358 (by decide) (kp_j hI_309 (by decide) q_225)) dX12_go_339 ?_
                      refine g_iconst C (v := 1) dX12_go_342 (by decide) ?_
                      obtain ⟨x_361, hx_361, rx_361, tx_361⟩ := ex_add 1 940 r_229 rc_1 (by decide) (by decide) (by decide) (by decide)
                      refine g_iadd C (v := x_361) dX12_go_343 hx_361 ?_
                      refine h_putI C K hLx hkx f_12_95 p_12_5 dX12_go_344 (fun I_362 hI_362 => ?_)
                      have hU_363 := iw_put W9 hU_359 hI_362 (ro_o hkx (by decide)) (lo := 0) (hi := 940) (rfl) (rg_w rx_361 (by decide) (by decide)) rfl
                      have hF_364 := fq_puto hF_360 hI_362 hkx (by decide) (by decide)
                      refine g_goto C (tgt := 215) dX12_go_347 (by decide) ?_
                      refine g_lo (is := [4, 3, 2, 0, 1]) (lo2 := [(0, .ref x), (1, .int x_231), (2, .int x_303), (3, .int 0), (4, .int x_231)]) rfl ?_
                      exact l_215 940 I_362 J_353 hU_363 hF_364 hG_354 x_231 (rg_w r_302 (by decide) (by decide)) x_303 (rx_303) 0 (rg_w rc_0 (by decide) (by decide)) x_231 (rg_w r_302 (by decide) (by decide)) v_220 (r_230) v_221 (rv_221) x_361 (rx_361) v_222 (r_229) x_357 (kp_j hI_362 (by decide) (kp_j hI_358 (by decide) (kp_j hI_309 (by decide) q_223))) (kp_j hI_362 (by decide) (kp_j hI_358 (by decide) (kp_j hI_309 (by decide) q_224))) (kp_s hI_362) (kp_j hI_362 (by decide) (kp_j hI_358 (by decide) (kp_j hI_309 (by decide) q_226))) (kp_j hI_362 (by decide) (kp_s hI_358)) (by have := hj_227; have := (ti_k tx_361 rc_1); omega) (ms_s (a := 1) (b := 940) (N := 940) (rx_361) (by decide))
                · skip
                  refine g_iconst C (v := 1) dX12_go_267 (by decide) ?_
                  refine g_goto C (tgt := 272) dX12_go_268 (by decide) ?_
                  refine g_istore_n C dX12_go_272 rfl (by decide) (lo2 := [(3, .int 1), (4, .int x_231), (2, .int x_303), (1, .int x_231), (0, .ref x)]) rfl ?_
                  refine g_aload_n C 4 dX12_go_273 rfl rfl ?_
                  refine g_getI C K hLx hkx f_12_95 (v := v_222) (kp_j hI_309 (by decide) q_225) dX12_go_274 ?_
                  refine g_aload_n C 4 dX12_go_277 rfl rfl ?_
                  refine g_getI C K hLx hkx f_12_98 (v := v_222) (kp_j hI_309 (by decide) q_226) dX12_go_278 ?_
                  refine g_isub C (v := 0) dX12_go_281 (Int32.sub_self _) ?_
                  refine g_bipush C (v := 7) dX12_go_282 (by decide) ?_
                  refine g_icmp_ge C (tgt := 307) dX12_go_284 (by decide) (fun h_365 => ?_) (fun h_365 => ?_)
                  · skip
                    exact absurd (h_365) (by decide)
                  · skip
                    refine g_aload_n C 4 dX12_go_287 rfl rfl ?_
                    refine g_ldc2 C kl_128 dX12_go_288 ?_
                    refine g_aload_n C 4 dX12_go_291 rfl rfl ?_
                    obtain ⟨y_366, hy_366⟩ : ∃ z, J_307 x 12 = z := ⟨_, rfl⟩
                    refine g_getJ C K hLx hkx f_12_117 (v := y_366) hy_366 dX12_go_292 ?_
                    refine g_lmul C dX12_go_295 (fun y_367 => ?_)
                    refine g_iload C 1 dX12_go_296 rfl ?_
                    obtain ⟨y_368, hy_368⟩ : ∃ z, Int32.toInt64 x_231 = z := ⟨_, rfl⟩
                    refine g_i2l C (v := y_368) dX12_go_298 hy_368 ?_
                    refine g_ladd C dX12_go_299 (fun y_369 => ?_)
                    refine g_ldc2 C kl_130 dX12_go_300 ?_
                    refine g_lsub C dX12_go_303 (fun y_370 => ?_)
                    refine h_putJ C K hLx hkx f_12_117 p_12_12 dX12_go_304 (fun J_371 hJ_371 => ?_)
                    have hG_372 := fq_puto hG_308 hJ_371 hkx (by decide) (by decide)
                    refine g_aload_n C 4 dX12_go_307 rfl rfl ?_
                    refine g_getI C K hLx hkx f_12_95 (v := v_222) (kp_j hI_309 (by decide) q_225) dX12_go_308 ?_
                    refine g_aload_n C 4 dX12_go_311 rfl rfl ?_
                    refine g_getI C K hLx hkx f_12_98 (v := v_222) (kp_j hI_309 (by decide) q_226) dX12_go_312 ?_
                    refine g_isub C (v := 0) dX12_go_315 (Int32.sub_self _) ?_
                    refine g_iconst C (v := 3) dX12_go_316 (by decide) ?_
                    refine g_icmp_ge C (tgt := 337) dX12_go_317 (by decide) (fun h_373 => ?_) (fun h_373 => ?_)
                    · skip
                      exact absurd (h_373) (by decide)
                    · skip
                      refine g_aload_n C 4 dX12_go_320 rfl rfl ?_
                      refine g_bipush C (v := 10) dX12_go_321 (by decide) ?_
                      refine g_aload_n C 4 dX12_go_323 rfl rfl ?_
                      refine g_getI C K hLx hkx f_12_121 (v := 0) (kp_s hI_309) dX12_go_324 ?_
                      refine g_imul C (v := 0) dX12_go_327 (by decide) ?_
                      refine g_iload C 1 dX12_go_328 rfl ?_
                      obtain ⟨x_374, hx_374, rx_374, tx_374⟩ := ex_add 48 57 rc_0 r_302 (by decide) (by decide) (by decide) (by decide)
                      refine g_iadd C (v := x_374) dX12_go_330 hx_374 ?_
                      refine g_bipush C (v := 48) dX12_go_331 (by decide) ?_
                      obtain ⟨x_375, hx_375, rx_375, tx_375⟩ := ex_sub 0 9 rx_374 rc_48 (by decide) (by decide) (by decide) (by decide)
                      refine g_isub C (v := x_375) dX12_go_333 hx_375 ?_
                      refine h_putI C K hLx hkx f_12_121 p_12_8 dX12_go_334 (fun I_376 hI_376 => ?_)
                      have hU_377 := iw_put W9 hU_310 hI_376 (ro_o hkx (by decide)) (lo := (-2147483648)) (hi := 2147483647) (rfl) (rg_all _) rfl
                      have hF_378 := fq_puto hF_311 hI_376 hkx (by decide) (by decide)
                      refine g_aload_n C 4 dX12_go_337 rfl rfl ?_
                      refine g_dup C dX12_go_338 rfl ?_
                      refine g_getI C K hLx hkx f_12_95 (v := v_222) (kp_j hI_376 (by decide) (kp_j hI_309 (by decide) q_225)) dX12_go_339 ?_
                      refine g_iconst C (v := 1) dX12_go_342 (by decide) ?_
                      obtain ⟨x_379, hx_379, rx_379, tx_379⟩ := ex_add 1 940 r_229 rc_1 (by decide) (by decide) (by decide) (by decide)
                      refine g_iadd C (v := x_379) dX12_go_343 hx_379 ?_
                      refine h_putI C K hLx hkx f_12_95 p_12_5 dX12_go_344 (fun I_380 hI_380 => ?_)
                      have hU_381 := iw_put W9 hU_377 hI_380 (ro_o hkx (by decide)) (lo := 0) (hi := 940) (rfl) (rg_w rx_379 (by decide) (by decide)) rfl
                      have hF_382 := fq_puto hF_378 hI_380 hkx (by decide) (by decide)
                      refine g_goto C (tgt := 215) dX12_go_347 (by decide) ?_
                      refine g_lo (is := [4, 3, 2, 0, 1]) (lo2 := [(0, .ref x), (1, .int x_231), (2, .int x_303), (3, .int 1), (4, .int x_231)]) rfl ?_
                      exact l_215 940 I_380 J_371 hU_381 hF_382 hG_372 x_231 (rg_w r_302 (by decide) (by decide)) x_303 (rx_303) 1 (rg_w rc_1 (by decide) (by decide)) x_231 (rg_w r_302 (by decide) (by decide)) v_220 (r_230) v_221 (rv_221) x_379 (rx_379) v_222 (r_229) x_375 (kp_j hI_380 (by decide) (kp_j hI_376 (by decide) (kp_j hI_309 (by decide) q_223))) (kp_j hI_380 (by decide) (kp_j hI_376 (by decide) (kp_j hI_309 (by decide) q_224))) (kp_s hI_380) (kp_j hI_380 (by decide) (kp_j hI_376 (by decide) (kp_j hI_309 (by decide) q_226))) (kp_j hI_380 (by decide) (kp_s hI_376)) (by have := hj_227; have := (ti_k tx_379 rc_1); omega) (ms_s (a := 1) (b := 940) (N := 940) (rx_379) (by decide))
        · skip
          have r_383 := (⟨(rx_295).1, (eq_rg (h_299) rc_0).2⟩ : Rg 0 0 x_295)
          refine g_aload_n C 1 dX12_go_137 rfl rfl ?_
          refine g_iload_n C 0 dX12_go_138 rfl rfl ?_
          refine g_bipush C (v := 59) dX12_go_139 (by decide) ?_
          refine g_icmp_eq C (tgt := 174) dX12_go_141 (by decide) (fun h_384 => ?_) (fun h_384 => ?_)
          · skip
            have r_385 := (⟨(eq_rg (h_384) rc_59).1, (eq_rg (h_384) rc_59).2⟩ : Rg 59 59 x_231)
            refine g_iconst C (v := 4) dX12_go_174 (by decide) ?_
            refine g_goto C (tgt := 179) dX12_go_175 (by decide) ?_
            refine h_putI C K hLx hkx f_12_104 p_12_7 dX12_go_179 (fun I_386 hI_386 => ?_)
            have hU_387 := iw_put W9 hU_217 hI_386 (ro_o hkx (by decide)) (lo := 0) (hi := 4) (rfl) (rg_w rc_4 (by decide) (by decide)) rfl
            have hF_388 := fq_puto hF_218 hI_386 hkx (by decide) (by decide)
            refine g_aload_n C 1 dX12_go_182 rfl rfl ?_
            refine g_iload_n C 0 dX12_go_183 rfl rfl ?_
            refine h_putI C K hLx hkx f_12_114 p_12_9 dX12_go_184 (fun I_389 hI_389 => ?_)
            have hU_390 := iw_put W9 hU_387 hI_389 (ro_o hkx (by decide)) (lo := (-2147483648)) (hi := 2147483647) (rfl) (rg_all _) rfl
            have hF_391 := fq_puto hF_388 hI_389 hkx (by decide) (by decide)
            refine g_aload_n C 1 dX12_go_187 rfl rfl ?_
            refine g_dup C dX12_go_188 rfl ?_
            refine g_getI C K hLx hkx f_12_95 (v := v_222) (kp_j hI_389 (by decide) (kp_j hI_386 (by decide) q_225)) dX12_go_189 ?_
            refine g_iconst C (v := 1) dX12_go_192 (by decide) ?_
            obtain ⟨x_392, hx_392, rx_392, tx_392⟩ := ex_add 1 940 r_229 rc_1 (by decide) (by decide) (by decide) (by decide)
            refine g_iadd C (v := x_392) dX12_go_193 hx_392 ?_
            refine h_putI C K hLx hkx f_12_95 p_12_5 dX12_go_194 (fun I_393 hI_393 => ?_)
            have hU_394 := iw_put W9 hU_390 hI_393 (ro_o hkx (by decide)) (lo := 0) (hi := 940) (rfl) (rg_w rx_392 (by decide) (by decide)) rfl
            have hF_395 := fq_puto hF_391 hI_393 hkx (by decide) (by decide)
            exact g_vret B K rfl ⟨hU_394, hF_395, hG_219, (ps_mk hx_1 (kp_s hI_393) (kp_j hI_393 (by decide) (kp_j hI_389 (by decide) (kp_s hI_386))) (Int.le_of_lt (by have := hj_227; have := (ti_k tx_392 rc_1); omega)) (Or.inl (by have := hj_227; have := (ti_k tx_392 rc_1); omega)))⟩ dX12_go_197
          · skip
            have n_396 : ¬ x_231 = 59 := h_384
            refine g_iload_n C 0 dX12_go_144 rfl rfl ?_
            refine g_bipush C (v := 60) dX12_go_145 (by decide) ?_
            refine g_icmp_eq C (tgt := 174) dX12_go_147 (by decide) (fun h_397 => ?_) (fun h_397 => ?_)
            · skip
              have r_398 := (⟨(eq_rg (h_397) rc_60).1, (eq_rg (h_397) rc_60).2⟩ : Rg 60 60 x_231)
              refine g_iconst C (v := 4) dX12_go_174 (by decide) ?_
              refine g_goto C (tgt := 179) dX12_go_175 (by decide) ?_
              refine h_putI C K hLx hkx f_12_104 p_12_7 dX12_go_179 (fun I_399 hI_399 => ?_)
              have hU_400 := iw_put W9 hU_217 hI_399 (ro_o hkx (by decide)) (lo := 0) (hi := 4) (rfl) (rg_w rc_4 (by decide) (by decide)) rfl
              have hF_401 := fq_puto hF_218 hI_399 hkx (by decide) (by decide)
              refine g_aload_n C 1 dX12_go_182 rfl rfl ?_
              refine g_iload_n C 0 dX12_go_183 rfl rfl ?_
              refine h_putI C K hLx hkx f_12_114 p_12_9 dX12_go_184 (fun I_402 hI_402 => ?_)
              have hU_403 := iw_put W9 hU_400 hI_402 (ro_o hkx (by decide)) (lo := (-2147483648)) (hi := 2147483647) (rfl) (rg_all _) rfl
              have hF_404 := fq_puto hF_401 hI_402 hkx (by decide) (by decide)
              refine g_aload_n C 1 dX12_go_187 rfl rfl ?_
              refine g_dup C dX12_go_188 rfl ?_
              refine g_getI C K hLx hkx f_12_95 (v := v_222) (kp_j hI_402 (by decide) (kp_j hI_399 (by decide) q_225)) dX12_go_189 ?_
              refine g_iconst C (v := 1) dX12_go_192 (by decide) ?_
              obtain ⟨x_405, hx_405, rx_405, tx_405⟩ := ex_add 1 940 r_229 rc_1 (by decide) (by decide) (by decide) (by decide)
              refine g_iadd C (v := x_405) dX12_go_193 hx_405 ?_
              refine h_putI C K hLx hkx f_12_95 p_12_5 dX12_go_194 (fun I_406 hI_406 => ?_)
              have hU_407 := iw_put W9 hU_403 hI_406 (ro_o hkx (by decide)) (lo := 0) (hi := 940) (rfl) (rg_w rx_405 (by decide) (by decide)) rfl
              have hF_408 := fq_puto hF_404 hI_406 hkx (by decide) (by decide)
              exact g_vret B K rfl ⟨hU_407, hF_408, hG_219, (ps_mk hx_1 (kp_s hI_406) (kp_j hI_406 (by decide) (kp_j hI_402 (by decide) (kp_s hI_399))) (Int.le_of_lt (by have := hj_227; have := (ti_k tx_405 rc_1); omega)) (Or.inl (by have := hj_227; have := (ti_k tx_405 rc_1); omega)))⟩ dX12_go_197
            · skip
              have n_409 : ¬ x_231 = 60 := h_397
              refine g_iload_n C 0 dX12_go_150 rfl rfl ?_
              refine g_bipush C (v := 61) dX12_go_151 (by decide) ?_
              refine g_icmp_eq C (tgt := 174) dX12_go_153 (by decide) (fun h_410 => ?_) (fun h_410 => ?_)
              · skip
                have r_411 := (⟨(eq_rg (h_410) rc_61).1, (eq_rg (h_410) rc_61).2⟩ : Rg 61 61 x_231)
                refine g_iconst C (v := 4) dX12_go_174 (by decide) ?_
                refine g_goto C (tgt := 179) dX12_go_175 (by decide) ?_
                refine h_putI C K hLx hkx f_12_104 p_12_7 dX12_go_179 (fun I_412 hI_412 => ?_)
                have hU_413 := iw_put W9 hU_217 hI_412 (ro_o hkx (by decide)) (lo := 0) (hi := 4) (rfl) (rg_w rc_4 (by decide) (by decide)) rfl
                have hF_414 := fq_puto hF_218 hI_412 hkx (by decide) (by decide)
                refine g_aload_n C 1 dX12_go_182 rfl rfl ?_
                refine g_iload_n C 0 dX12_go_183 rfl rfl ?_
                refine h_putI C K hLx hkx f_12_114 p_12_9 dX12_go_184 (fun I_415 hI_415 => ?_)
                have hU_416 := iw_put W9 hU_413 hI_415 (ro_o hkx (by decide)) (lo := (-2147483648)) (hi := 2147483647) (rfl) (rg_all _) rfl
                have hF_417 := fq_puto hF_414 hI_415 hkx (by decide) (by decide)
                refine g_aload_n C 1 dX12_go_187 rfl rfl ?_
                refine g_dup C dX12_go_188 rfl ?_
                refine g_getI C K hLx hkx f_12_95 (v := v_222) (kp_j hI_415 (by decide) (kp_j hI_412 (by decide) q_225)) dX12_go_189 ?_
                refine g_iconst C (v := 1) dX12_go_192 (by decide) ?_
                obtain ⟨x_418, hx_418, rx_418, tx_418⟩ := ex_add 1 940 r_229 rc_1 (by decide) (by decide) (by decide) (by decide)
                refine g_iadd C (v := x_418) dX12_go_193 hx_418 ?_
                refine h_putI C K hLx hkx f_12_95 p_12_5 dX12_go_194 (fun I_419 hI_419 => ?_)
                have hU_420 := iw_put W9 hU_416 hI_419 (ro_o hkx (by decide)) (lo := 0) (hi := 940) (rfl) (rg_w rx_418 (by decide) (by decide)) rfl
                have hF_421 := fq_puto hF_417 hI_419 hkx (by decide) (by decide)
                exact g_vret B K rfl ⟨hU_420, hF_421, hG_219, (ps_mk hx_1 (kp_s hI_419) (kp_j hI_419 (by decide) (kp_j hI_415 (by decide) (kp_s hI_412))) (Int.le_of_lt (by have := hj_227; have := (ti_k tx_418 rc_1); omega)) (Or.inl (by have := hj_227; have := (ti_k tx_418 rc_1); omega)))⟩ dX12_go_197
              · skip
                have n_422 : ¬ x_231 = 61 := h_410
                refine g_iload_n C 0 dX12_go_156 rfl rfl ?_
                refine g_bipush C (v := 62) dX12_go_157 (by decide) ?_
                refine g_icmp_eq C (tgt := 174) dX12_go_159 (by decide) (fun h_423 => ?_) (fun h_423 => ?_)
                · skip
                  have r_424 := (⟨(eq_rg (h_423) rc_62).1, (eq_rg (h_423) rc_62).2⟩ : Rg 62 62 x_231)
                  refine g_iconst C (v := 4) dX12_go_174 (by decide) ?_
                  refine g_goto C (tgt := 179) dX12_go_175 (by decide) ?_
                  refine h_putI C K hLx hkx f_12_104 p_12_7 dX12_go_179 (fun I_425 hI_425 => ?_)
                  have hU_426 := iw_put W9 hU_217 hI_425 (ro_o hkx (by decide)) (lo := 0) (hi := 4) (rfl) (rg_w rc_4 (by decide) (by decide)) rfl
                  have hF_427 := fq_puto hF_218 hI_425 hkx (by decide) (by decide)
                  refine g_aload_n C 1 dX12_go_182 rfl rfl ?_
                  refine g_iload_n C 0 dX12_go_183 rfl rfl ?_
                  refine h_putI C K hLx hkx f_12_114 p_12_9 dX12_go_184 (fun I_428 hI_428 => ?_)
                  have hU_429 := iw_put W9 hU_426 hI_428 (ro_o hkx (by decide)) (lo := (-2147483648)) (hi := 2147483647) (rfl) (rg_all _) rfl
                  have hF_430 := fq_puto hF_427 hI_428 hkx (by decide) (by decide)
                  refine g_aload_n C 1 dX12_go_187 rfl rfl ?_
                  refine g_dup C dX12_go_188 rfl ?_
                  refine g_getI C K hLx hkx f_12_95 (v := v_222) (kp_j hI_428 (by decide) (kp_j hI_425 (by decide) q_225)) dX12_go_189 ?_
                  refine g_iconst C (v := 1) dX12_go_192 (by decide) ?_
                  obtain ⟨x_431, hx_431, rx_431, tx_431⟩ := ex_add 1 940 r_229 rc_1 (by decide) (by decide) (by decide) (by decide)
                  refine g_iadd C (v := x_431) dX12_go_193 hx_431 ?_
                  refine h_putI C K hLx hkx f_12_95 p_12_5 dX12_go_194 (fun I_432 hI_432 => ?_)
                  have hU_433 := iw_put W9 hU_429 hI_432 (ro_o hkx (by decide)) (lo := 0) (hi := 940) (rfl) (rg_w rx_431 (by decide) (by decide)) rfl
                  have hF_434 := fq_puto hF_430 hI_432 hkx (by decide) (by decide)
                  exact g_vret B K rfl ⟨hU_433, hF_434, hG_219, (ps_mk hx_1 (kp_s hI_432) (kp_j hI_432 (by decide) (kp_j hI_428 (by decide) (kp_s hI_425))) (Int.le_of_lt (by have := hj_227; have := (ti_k tx_431 rc_1); omega)) (Or.inl (by have := hj_227; have := (ti_k tx_431 rc_1); omega)))⟩ dX12_go_197
                · skip
                  have n_435 : ¬ x_231 = 62 := h_423
                  refine g_iload_n C 0 dX12_go_162 rfl rfl ?_
                  refine g_bipush C (v := 40) dX12_go_163 (by decide) ?_
                  refine g_icmp_eq C (tgt := 174) dX12_go_165 (by decide) (fun h_436 => ?_) (fun h_436 => ?_)
                  · skip
                    have r_437 := (⟨(eq_rg (h_436) rc_40).1, (eq_rg (h_436) rc_40).2⟩ : Rg 40 40 x_231)
                    refine g_iconst C (v := 4) dX12_go_174 (by decide) ?_
                    refine g_goto C (tgt := 179) dX12_go_175 (by decide) ?_
                    refine h_putI C K hLx hkx f_12_104 p_12_7 dX12_go_179 (fun I_438 hI_438 => ?_)
                    have hU_439 := iw_put W9 hU_217 hI_438 (ro_o hkx (by decide)) (lo := 0) (hi := 4) (rfl) (rg_w rc_4 (by decide) (by decide)) rfl
                    have hF_440 := fq_puto hF_218 hI_438 hkx (by decide) (by decide)
                    refine g_aload_n C 1 dX12_go_182 rfl rfl ?_
                    refine g_iload_n C 0 dX12_go_183 rfl rfl ?_
                    refine h_putI C K hLx hkx f_12_114 p_12_9 dX12_go_184 (fun I_441 hI_441 => ?_)
                    have hU_442 := iw_put W9 hU_439 hI_441 (ro_o hkx (by decide)) (lo := (-2147483648)) (hi := 2147483647) (rfl) (rg_all _) rfl
                    have hF_443 := fq_puto hF_440 hI_441 hkx (by decide) (by decide)
                    refine g_aload_n C 1 dX12_go_187 rfl rfl ?_
                    refine g_dup C dX12_go_188 rfl ?_
                    refine g_getI C K hLx hkx f_12_95 (v := v_222) (kp_j hI_441 (by decide) (kp_j hI_438 (by decide) q_225)) dX12_go_189 ?_
                    refine g_iconst C (v := 1) dX12_go_192 (by decide) ?_
                    obtain ⟨x_444, hx_444, rx_444, tx_444⟩ := ex_add 1 940 r_229 rc_1 (by decide) (by decide) (by decide) (by decide)
                    refine g_iadd C (v := x_444) dX12_go_193 hx_444 ?_
                    refine h_putI C K hLx hkx f_12_95 p_12_5 dX12_go_194 (fun I_445 hI_445 => ?_)
                    have hU_446 := iw_put W9 hU_442 hI_445 (ro_o hkx (by decide)) (lo := 0) (hi := 940) (rfl) (rg_w rx_444 (by decide) (by decide)) rfl
                    have hF_447 := fq_puto hF_443 hI_445 hkx (by decide) (by decide)
                    exact g_vret B K rfl ⟨hU_446, hF_447, hG_219, (ps_mk hx_1 (kp_s hI_445) (kp_j hI_445 (by decide) (kp_j hI_441 (by decide) (kp_s hI_438))) (Int.le_of_lt (by have := hj_227; have := (ti_k tx_444 rc_1); omega)) (Or.inl (by have := hj_227; have := (ti_k tx_444 rc_1); omega)))⟩ dX12_go_197
                  · skip
                    have n_448 : ¬ x_231 = 40 := h_436
                    refine g_iload_n C 0 dX12_go_168 rfl rfl ?_
                    refine g_bipush C (v := 41) dX12_go_169 (by decide) ?_
                    refine g_icmp_ne C (tgt := 178) dX12_go_171 (by decide) (fun h_449 => ?_) (fun h_449 => ?_)
                    · skip
                      have n_450 : ¬ x_231 = 41 := h_449
                      refine g_iconst C (v := 1) dX12_go_178 (by decide) ?_
                      refine h_putI C K hLx hkx f_12_104 p_12_7 dX12_go_179 (fun I_451 hI_451 => ?_)
                      have hU_452 := iw_put W9 hU_217 hI_451 (ro_o hkx (by decide)) (lo := 0) (hi := 4) (rfl) (rg_w rc_1 (by decide) (by decide)) rfl
                      have hF_453 := fq_puto hF_218 hI_451 hkx (by decide) (by decide)
                      refine g_aload_n C 1 dX12_go_182 rfl rfl ?_
                      refine g_iload_n C 0 dX12_go_183 rfl rfl ?_
                      refine h_putI C K hLx hkx f_12_114 p_12_9 dX12_go_184 (fun I_454 hI_454 => ?_)
                      have hU_455 := iw_put W9 hU_452 hI_454 (ro_o hkx (by decide)) (lo := (-2147483648)) (hi := 2147483647) (rfl) (rg_all _) rfl
                      have hF_456 := fq_puto hF_453 hI_454 hkx (by decide) (by decide)
                      refine g_aload_n C 1 dX12_go_187 rfl rfl ?_
                      refine g_dup C dX12_go_188 rfl ?_
                      refine g_getI C K hLx hkx f_12_95 (v := v_222) (kp_j hI_454 (by decide) (kp_j hI_451 (by decide) q_225)) dX12_go_189 ?_
                      refine g_iconst C (v := 1) dX12_go_192 (by decide) ?_
                      obtain ⟨x_457, hx_457, rx_457, tx_457⟩ := ex_add 1 940 r_229 rc_1 (by decide) (by decide) (by decide) (by decide)
                      refine g_iadd C (v := x_457) dX12_go_193 hx_457 ?_
                      refine h_putI C K hLx hkx f_12_95 p_12_5 dX12_go_194 (fun I_458 hI_458 => ?_)
                      have hU_459 := iw_put W9 hU_455 hI_458 (ro_o hkx (by decide)) (lo := 0) (hi := 940) (rfl) (rg_w rx_457 (by decide) (by decide)) rfl
                      have hF_460 := fq_puto hF_456 hI_458 hkx (by decide) (by decide)
                      exact g_vret B K rfl ⟨hU_459, hF_460, hG_219, (ps_mk hx_1 (kp_s hI_458) (kp_j hI_458 (by decide) (kp_j hI_454 (by decide) (kp_s hI_451))) (by have := hj_227; have := (ti_k tx_457 rc_1); omega) (Or.inr (by have := (rc_1).2; omega)))⟩ dX12_go_197
                    · skip
                      have r_461 := (⟨(eq_rg (h_449) rc_41).1, (eq_rg (h_449) rc_41).2⟩ : Rg 41 41 x_231)
                      refine g_iconst C (v := 4) dX12_go_174 (by decide) ?_
                      refine g_goto C (tgt := 179) dX12_go_175 (by decide) ?_
                      refine h_putI C K hLx hkx f_12_104 p_12_7 dX12_go_179 (fun I_462 hI_462 => ?_)
                      have hU_463 := iw_put W9 hU_217 hI_462 (ro_o hkx (by decide)) (lo := 0) (hi := 4) (rfl) (rg_w rc_4 (by decide) (by decide)) rfl
                      have hF_464 := fq_puto hF_218 hI_462 hkx (by decide) (by decide)
                      refine g_aload_n C 1 dX12_go_182 rfl rfl ?_
                      refine g_iload_n C 0 dX12_go_183 rfl rfl ?_
                      refine h_putI C K hLx hkx f_12_114 p_12_9 dX12_go_184 (fun I_465 hI_465 => ?_)
                      have hU_466 := iw_put W9 hU_463 hI_465 (ro_o hkx (by decide)) (lo := (-2147483648)) (hi := 2147483647) (rfl) (rg_all _) rfl
                      have hF_467 := fq_puto hF_464 hI_465 hkx (by decide) (by decide)
                      refine g_aload_n C 1 dX12_go_187 rfl rfl ?_
                      refine g_dup C dX12_go_188 rfl ?_
                      refine g_getI C K hLx hkx f_12_95 (v := v_222) (kp_j hI_465 (by decide) (kp_j hI_462 (by decide) q_225)) dX12_go_189 ?_
                      refine g_iconst C (v := 1) dX12_go_192 (by decide) ?_
                      obtain ⟨x_468, hx_468, rx_468, tx_468⟩ := ex_add 1 940 r_229 rc_1 (by decide) (by decide) (by decide) (by decide)
                      refine g_iadd C (v := x_468) dX12_go_193 hx_468 ?_
                      refine h_putI C K hLx hkx f_12_95 p_12_5 dX12_go_194 (fun I_469 hI_469 => ?_)
                      have hU_470 := iw_put W9 hU_466 hI_469 (ro_o hkx (by decide)) (lo := 0) (hi := 940) (rfl) (rg_w rx_468 (by decide) (by decide)) rfl
                      have hF_471 := fq_puto hF_467 hI_469 hkx (by decide) (by decide)
                      exact g_vret B K rfl ⟨hU_470, hF_471, hG_219, (ps_mk hx_1 (kp_s hI_469) (kp_j hI_469 (by decide) (kp_j hI_465 (by decide) (kp_s hI_462))) (Int.le_of_lt (by have := hj_227; have := (ti_k tx_468 rc_1); omega)) (Or.inl (by have := hj_227; have := (ti_k tx_468 rc_1); omega)))⟩ dX12_go_197
    · skip
      refine g_aload_n C 0 dX12_go_107 rfl rfl ?_
      refine g_iconst C (v := 0) dX12_go_108 (by decide) ?_
      refine h_putI C K hLx hkx f_12_104 p_12_7 dX12_go_109 (fun I_472 hI_472 => ?_)
      have hU_473 := iw_put W9 hU_217 hI_472 (ro_o hkx (by decide)) (lo := 0) (hi := 4) (rfl) (rg_w rc_0 (by decide) (by decide)) rfl
      have hF_474 := fq_puto hF_218 hI_472 hkx (by decide) (by decide)
      exact g_vret B K rfl ⟨hU_473, hF_474, hG_219, (ps_mk hx_1 (kp_j hI_472 (by decide) q_225) (kp_s hI_472) (by have := hj_227; omega) (Or.inr (by have := (rc_0).2; omega)))⟩ dX12_go_112
  have j_52 : ∀ (I_475 : Nat → Nat → Int32) (J_476 : Nat → Nat → Int64) (hU_477 : Iw L κ R ow I_475) (hF_478 : Fq L κ ow [1205, 1206, 1207, 1208, 1209] I I_475) (hG_479 : Fq L κ ow [1212] J J_476) (v_480 : Int32) (rv_480 : Rg 0 940 v_480) (v_481 : Int32) (rv_481 : Rg 0 940 v_481) (q_482 : I_475 x 3 = v_480) (q_483 : I_475 x 5 = v_481) (hj_484 : x_1.toInt ≤ v_481.toInt), WG p l e { frames := 1, cells := 0, slots := 0, locals := 21 } s m ([.ref x] : List Value).toArray below meth c 5 0 0 (MQ below (Qv_ D cy L κ ln R (fun I2 J2 => Iw L κ R ow I2 ∧ Fq L κ ow [1205, 1206, 1207, 1208, 1209] I I2 ∧ Fq L κ ow [1212] J J2 ∧ (Ps_ x I I2))) ([.ref x] : List Value).toArray s 0 0 (Al_ L)) D cy (Al_ L) s.heap L κ ln R I_475 J_476 52 [(0, .ref x)] [] := by
    intro I_475 J_476 hU_477 hF_478 hG_479 v_480 rv_480 v_481 rv_481 q_482 q_483 hj_484
    refine g_aload_n C 0 dX12_go_52 rfl rfl ?_
    refine g_aload_n C 0 dX12_go_53 rfl rfl ?_
    refine g_getI C K hLx hkx f_12_95 (v := v_481) q_483 dX12_go_54 ?_
    refine h_putI C K hLx hkx f_12_98 p_12_6 dX12_go_57 (fun I_485 hI_485 => ?_)
    have hU_486 := iw_put W9 hU_477 hI_485 (ro_o hkx (by decide)) (lo := 0) (hi := 940) (rfl) (rv_481) rfl
    have hF_487 := fq_puto hF_478 hI_485 hkx (by decide) (by decide)
    refine g_aload_n C 0 dX12_go_60 rfl rfl ?_
    refine g_getI C K hLx hkx f_12_92 (v := v_480) (kp_j hI_485 (by decide) q_482) dX12_go_61 ?_
    refine g_aload_n C 0 dX12_go_64 rfl rfl ?_
    obtain ⟨x_488, hx_488, rx_488⟩ := ex_getw (I := I_485) (a := x) (j := 4) (lo := 0) (hi := 900) hU_486.1 hLx (ro_o hkx (by decide)) rfl
    refine g_getI C K hLx hkx f_12_101 (v := x_488) hx_488 dX12_go_65 ?_
    refine g_icmp_le C (tgt := 96) dX12_go_68 (by decide) (fun h_489 => ?_) (fun h_489 => ?_)
    · skip
      have r_490 := le_l (h_489) rv_480 rx_488
      refine g_lo (is := [0]) (lo2 := [(0, .ref x)]) rfl ?_
      exact j_96 I_485 J_476 hU_486 hF_487 hG_479 v_480 (rg_w r_490 (by decide) (by decide)) x_488 (rx_488) v_481 (rv_481) (kp_j hI_485 (by decide) q_482) hx_488 (kp_j hI_485 (by decide) q_483) (kp_s hI_485) (by have := hj_484; omega)
    · skip
      have r_491 := lt_r (lo := 1) (nle h_489) rx_488 rv_480 (by decide)
      refine g_aload_n C 0 dX12_go_71 rfl rfl ?_
      refine g_getI C K hLx hkx f_12_98 (v := v_481) (kp_s hI_485) dX12_go_72 ?_
      refine g_aload_n C 0 dX12_go_75 rfl rfl ?_
      refine g_getI C K hLx hkx f_12_101 (v := x_488) hx_488 dX12_go_76 ?_
      refine g_icmp_lt C (tgt := 96) dX12_go_79 (by decide) (fun h_492 => ?_) (fun h_492 => ?_)
      · skip
        have r_493 := lt_l (hi := 899) (h_492) rv_481 rx_488 (by decide)
        have r_494 := lt_r (lo := 1) (h_492) rv_481 rx_488 (by decide)
        refine g_lo (is := [0]) (lo2 := [(0, .ref x)]) rfl ?_
        exact j_96 I_485 J_476 hU_486 hF_487 hG_479 v_480 (rg_w r_491 (by decide) (by decide)) x_488 (rg_w r_494 (by decide) (by decide)) v_481 (rg_w r_493 (by decide) (by decide)) (kp_j hI_485 (by decide) q_482) hx_488 (kp_j hI_485 (by decide) q_483) (kp_s hI_485) (by have := hj_484; omega)
      · skip
        refine g_aload_n C 0 dX12_go_82 rfl rfl ?_
        refine g_aload_n C 0 dX12_go_83 rfl rfl ?_
        refine g_getI C K hLx hkx f_12_101 (v := x_488) hx_488 dX12_go_84 ?_
        refine h_putI C K hLx hkx f_12_98 p_12_6 dX12_go_87 (fun I_495 hI_495 => ?_)
        have hU_496 := iw_put W9 hU_486 hI_495 (ro_o hkx (by decide)) (lo := 0) (hi := 940) (rfl) (rg_w rx_488 (by decide) (by decide)) rfl
        have hF_497 := fq_puto hF_487 hI_495 hkx (by decide) (by decide)
        refine g_aload_n C 0 dX12_go_90 rfl rfl ?_
        refine g_iconst C (v := 1) dX12_go_91 (by decide) ?_
        refine h_putI C K hLx hkx f_12_104 p_12_7 dX12_go_92 (fun I_498 hI_498 => ?_)
        have hU_499 := iw_put W9 hU_496 hI_498 (ro_o hkx (by decide)) (lo := 0) (hi := 4) (rfl) (rg_w rc_1 (by decide) (by decide)) rfl
        have hF_500 := fq_puto hF_497 hI_498 hkx (by decide) (by decide)
        exact g_vret B K rfl ⟨hU_499, hF_500, hG_479, (ps_mk hx_1 (kp_j hI_498 (by decide) (kp_j hI_495 (by decide) (kp_j hI_485 (by decide) q_483))) (kp_s hI_498) (by have := hj_484; omega) (Or.inr (by have := (rc_1).2; omega)))⟩ dX12_go_95
  have l_0 : ∀ (n_0 : Nat) (I_501 : Nat → Nat → Int32) (J_502 : Nat → Nat → Int64) (hU_503 : Iw L κ R ow I_501) (hF_504 : Fq L κ ow [1205, 1206, 1207, 1208, 1209] I I_501) (hG_505 : Fq L κ ow [1212] J J_502) (v_506 : Int32) (rv_506 : Rg 0 940 v_506) (q_507 : I_501 x 5 = v_506) (hj_508 : x_1.toInt ≤ v_506.toInt) (hm_509 : 940 < (v_506 : Int32).toInt + (n_0 : Int)), WG p l e { frames := 1, cells := 0, slots := 0, locals := 21 } s m ([.ref x] : List Value).toArray below meth c 5 0 0 (MQ below (Qv_ D cy L κ ln R (fun I2 J2 => Iw L κ R ow I2 ∧ Fq L κ ow [1205, 1206, 1207, 1208, 1209] I I2 ∧ Fq L κ ow [1212] J J2 ∧ (Ps_ x I I2))) ([.ref x] : List Value).toArray s 0 0 (Al_ L)) D cy (Al_ L) s.heap L κ ln R I_501 J_502 0 [(0, .ref x)] [] := by
    intro n_0
    induction n_0 with
    | zero =>
      intro I_501 J_502 hU_503 hF_504 hG_505 v_506 rv_506 q_507 hj_508 hm_509
      exact ms_0 rv_506 hm_509
    | succ n_0 ih_0 =>
      intro I_501 J_502 hU_503 hF_504 hG_505 v_506 rv_506 q_507 hj_508 hm_509
      have j_39 : ∀ (I_510 : Nat → Nat → Int32) (J_511 : Nat → Nat → Int64) (hU_512 : Iw L κ R ow I_510) (hF_513 : Fq L κ ow [1205, 1206, 1207, 1208, 1209] I I_510) (hG_514 : Fq L κ ow [1212] J J_511) (v_515 : Int32) (rv_515 : Rg 1 940 v_515) (v_516 : Int32) (rv_516 : Rg 0 939 v_516) (q_517 : I_510 x 3 = v_515) (q_518 : I_510 x 5 = v_516) (hm_519 : 940 < (v_516 : Int32).toInt + ((n_0 + 1 : Nat) : Int)) (hj_520 : x_1.toInt ≤ v_516.toInt), WG p l e { frames := 1, cells := 0, slots := 0, locals := 21 } s m ([.ref x] : List Value).toArray below meth c 5 0 0 (MQ below (Qv_ D cy L κ ln R (fun I2 J2 => Iw L κ R ow I2 ∧ Fq L κ ow [1205, 1206, 1207, 1208, 1209] I I2 ∧ Fq L κ ow [1212] J J2 ∧ (Ps_ x I I2))) ([.ref x] : List Value).toArray s 0 0 (Al_ L)) D cy (Al_ L) s.heap L κ ln R I_510 J_511 39 [(0, .ref x)] [] := by
        intro I_510 J_511 hU_512 hF_513 hG_514 v_515 rv_515 v_516 rv_516 q_517 q_518 hm_519 hj_520
        refine g_aload_n C 0 dX12_go_39 rfl rfl ?_
        refine g_dup C dX12_go_40 rfl ?_
        refine g_getI C K hLx hkx f_12_95 (v := v_516) q_518 dX12_go_41 ?_
        refine g_iconst C (v := 1) dX12_go_44 (by decide) ?_
        obtain ⟨x_521, hx_521, rx_521, tx_521⟩ := ex_add 1 940 rv_516 rc_1 (by decide) (by decide) (by decide) (by decide)
        refine g_iadd C (v := x_521) dX12_go_45 hx_521 ?_
        refine h_putI C K hLx hkx f_12_95 p_12_5 dX12_go_46 (fun I_522 hI_522 => ?_)
        have hU_523 := iw_put W9 hU_512 hI_522 (ro_o hkx (by decide)) (lo := 0) (hi := 940) (rfl) (rg_w rx_521 (by decide) (by decide)) rfl
        have hF_524 := fq_puto hF_513 hI_522 hkx (by decide) (by decide)
        refine g_goto C (tgt := 0) dX12_go_49 (by decide) ?_
        refine g_lo (is := [0]) (lo2 := [(0, .ref x)]) rfl ?_
        exact ih_0 I_522 J_511 hU_523 hF_524 hG_514 x_521 (rg_w rx_521 (by decide) (by decide)) (kp_s hI_522) (by have := hj_520; have := (ti_k tx_521 rc_1); omega) (ms_1 hm_519 (ti_k tx_521 rc_1) (by decide))
      refine g_aload_n C 0 dX12_go_0 rfl rfl ?_
      refine g_getI C K hLx hkx f_12_95 (v := v_506) q_507 dX12_go_1 ?_
      refine g_aload_n C 0 dX12_go_4 rfl rfl ?_
      obtain ⟨x_525, hx_525, rx_525⟩ := ex_getw (I := I_501) (a := x) (j := 3) (lo := 0) (hi := 940) hU_503.1 hLx (ro_o hkx (by decide)) rfl
      refine g_getI C K hLx hkx f_12_92 (v := x_525) hx_525 dX12_go_5 ?_
      refine g_icmp_ge C (tgt := 52) dX12_go_8 (by decide) (fun h_526 => ?_) (fun h_526 => ?_)
      · skip
        refine g_lo (is := [0]) (lo2 := [(0, .ref x)]) rfl ?_
        exact j_52 I_501 J_502 hU_503 hF_504 hG_505 x_525 (rx_525) v_506 (rv_506) hx_525 q_507 (by have := hj_508; omega)
      · skip
        have r_527 := lt_l (hi := 939) (nle h_526) rv_506 rx_525 (by decide)
        have r_528 := lt_r (lo := 1) (nle h_526) rv_506 rx_525 (by decide)
        refine g_aload_n C 0 dX12_go_11 rfl rfl ?_
        refine g_getR C K hLx hkx f_12_7 hb_2 dX12_go_12 ?_
        refine g_aload_n C 0 dX12_go_15 rfl rfl ?_
        refine g_getI C K hLx hkx f_12_95 (v := v_506) q_507 dX12_go_16 ?_
        obtain ⟨x_529, hx_529, rx_529⟩ := ex_getw (I := I_501) (a := b_2) (j := v_506.toNatClampNeg) (lo := 0) (hi := 255) hU_503.1 hb_2L (ro_a hb_2k (by decide) hb_2o hkx rfl) (rfl)
        refine h_iald C K hb_2L hb_2k (v := x_529) (v_506.toNatClampNeg) (rfl) (ix_0 r_527 (by decide)) (ix_lt r_527 (by decide) hb_2n (by decide)) hx_529 dX12_go_19 ?_
        refine g_bipush C (v := 32) dX12_go_20 (by decide) ?_
        refine g_icmp_eq C (tgt := 39) dX12_go_22 (by decide) (fun h_530 => ?_) (fun h_530 => ?_)
        · skip
          have r_531 := (⟨(eq_rg (h_530) rc_32).1, (eq_rg (h_530) rc_32).2⟩ : Rg 32 32 x_529)
          refine g_lo (is := [0]) (lo2 := [(0, .ref x)]) rfl ?_
          exact j_39 I_501 J_502 hU_503 hF_504 hG_505 x_525 (r_528) v_506 (r_527) hx_525 q_507 hm_509 (by have := hj_508; omega)
        · skip
          have n_532 : ¬ x_529 = 32 := h_530
          refine g_aload_n C 0 dX12_go_25 rfl rfl ?_
          refine g_getR C K hLx hkx f_12_7 hb_2 dX12_go_26 ?_
          refine g_aload_n C 0 dX12_go_29 rfl rfl ?_
          refine g_getI C K hLx hkx f_12_95 (v := v_506) q_507 dX12_go_30 ?_
          refine h_iald C K hb_2L hb_2k (v := x_529) (v_506.toNatClampNeg) (rfl) (ix_0 r_527 (by decide)) (ix_lt r_527 (by decide) hb_2n (by decide)) hx_529 dX12_go_33 ?_
          refine g_bipush C (v := 10) dX12_go_34 (by decide) ?_
          refine g_icmp_ne C (tgt := 52) dX12_go_36 (by decide) (fun h_534 => ?_) (fun h_534 => ?_)
          · skip
            have n_535 : ¬ x_529 = 10 := h_534
            refine g_lo (is := [0]) (lo2 := [(0, .ref x)]) rfl ?_
            exact j_52 I_501 J_502 hU_503 hF_504 hG_505 x_525 (rg_w r_528 (by decide) (by decide)) v_506 (rg_w r_527 (by decide) (by decide)) hx_525 q_507 (by have := hj_508; omega)
          · skip
            have r_536 := (⟨(eq_rg (h_534) rc_10).1, (eq_rg (h_534) rc_10).2⟩ : Rg 10 10 x_529)
            refine g_lo (is := [0]) (lo2 := [(0, .ref x)]) rfl ?_
            exact j_39 I_501 J_502 hU_503 hF_504 hG_505 x_525 (r_528) v_506 (r_527) hx_525 q_507 hm_509 (by have := hj_508; omega)
  refine g_lo (is := [0]) (lo2 := [(0, .ref x)]) rfl ?_
  exact l_0 941 I J hU hF hG x_1 (rx_1) hx_1 (Int.le_refl _) (ms_s (a := 0) (b := 940) (N := 941) (rx_1) (by decide))
set_option maxRecDepth 100000 in
set_option maxHeartbeats 8000000 in
theorem c_X12_take {l : Launch} {D : va_G} {cy : Nat → ClassId} {L : List Nat} {κ ln : Nat → Nat} {R : Nat → Nat → Option Nat} {I : Nat → Nat → Int32} {J : Nat → Nat → Int64} {ow : Nat → Nat × Nat} (W9 : ∀ a ∈ L, Shp L κ ln R ow a) {x : Nat} (hLx : x ∈ L) (hkx : κ x = 12) (hU : Iw L κ R ow I) : CtI l yX12_take cX12_take 2 (some .int) { frames := 0, cells := 0, slots := 0, locals := 0 } D cy L κ ln R I J [.ref x] (fun r I2 J2 => Iw L κ R ow I2 ∧ Fq L κ ow [1202] I I2 ∧ Fq L κ ow [] J J2 ∧ Rg 0 940 r) := by
  refine CtI.of (by decide +kernel) (Nat.le_of_ble_eq_true rfl) ?_
  intro p e s m below meth c B K
  have C := B.1
  have hF : Fq L κ ow [1202] I I := fq_rf
  have hG : Fq L κ ow [] J J := fq_rf
  refine g_lo (is := [0]) (lo2 := [(0, .ref x)]) rfl ?_
  refine g_aload_n C 0 dX12_take_0 rfl rfl ?_
  obtain ⟨x_1, hx_1, rx_1⟩ := ex_getw (I := I) (a := x) (j := 2) (lo := 0) (hi := 940) hU.1 hLx (ro_o hkx (by decide)) rfl
  refine g_getI C K hLx hkx f_12_85 (v := x_1) hx_1 dX12_take_1 ?_
  refine g_istore_n C dX12_take_4 rfl (by decide) (lo2 := [(1, .int x_1), (0, .ref x)]) rfl ?_
  refine g_aload_n C 1 dX12_take_5 rfl rfl ?_
  refine g_iconst C (v := 0) dX12_take_6 (by decide) ?_
  refine h_putI C K hLx hkx f_12_85 p_12_2 dX12_take_7 (fun I_2 hI_2 => ?_)
  have hU_3 := iw_put W9 hU hI_2 (ro_o hkx (by decide)) (lo := 0) (hi := 940) (rfl) (rg_w rc_0 (by decide) (by decide)) rfl
  have hF_4 := fq_puto hF hI_2 hkx (by decide) (by decide)
  refine g_iload_n C 0 dX12_take_10 rfl rfl ?_
  exact g_zret (ty := .int) (r := x_1) B K rfl (rfl) ⟨hU_3, hF_4, hG, rx_1⟩ dX12_take_11
set_option maxRecDepth 100000 in
set_option maxHeartbeats 8000000 in
theorem c_X12_begin {l : Launch} {D : va_G} {cy : Nat → ClassId} {L : List Nat} {κ ln : Nat → Nat} {R : Nat → Nat → Option Nat} {I : Nat → Nat → Int32} {J : Nat → Nat → Int64} {ow : Nat → Nat × Nat} (W9 : ∀ a ∈ L, Shp L κ ln R ow a) {x : Nat} (hLx : x ∈ L) (hkx : κ x = 12) (a0 : Int32) (ra0 : Rg 200 900 a0) (hU : Iw L κ R ow I) : CtV l yX12_begin cX12_begin 2 none { frames := 2, cells := 0, slots := 0, locals := 45 } D cy L κ ln R I J [.ref x, .int a0] (fun I2 J2 => Iw L κ R ow I2 ∧ Fq L κ ow [1200, 1202, 1203, 1204, 1205, 1206, 1207, 1208, 1209, 1210] I I2 ∧ Fq L κ ow [1212] J J2) := by
  refine CtV.of (by decide +kernel) (Nat.le_of_ble_eq_true rfl) ?_
  intro p e s m below meth c B K
  have C := B.1
  have hF : Fq L κ ow [1200, 1202, 1203, 1204, 1205, 1206, 1207, 1208, 1209, 1210] I I := fq_rf
  have hG : Fq L κ ow [1212] J J := fq_rf
  refine g_lo (is := [0, 1]) (lo2 := [(0, .ref x), (1, .int a0)]) rfl ?_
  refine g_aload_n C 0 dX12_begin_0 rfl rfl ?_
  refine g_iconst C (v := 0) dX12_begin_1 (by decide) ?_
  refine h_putI C K hLx hkx f_12_82 p_12_0 dX12_begin_2 (fun I_1 hI_1 => ?_)
  have hU_2 := iw_put W9 hU hI_1 (ro_o hkx (by decide)) (lo := (-2147483648)) (hi := 2147483647) (rfl) (rg_all _) rfl
  have hF_3 := fq_puto hF hI_1 hkx (by decide) (by decide)
  refine g_aload_n C 0 dX12_begin_5 rfl rfl ?_
  refine g_aload_n C 0 dX12_begin_6 rfl rfl ?_
  refine g_callVI C K (c_X12_take W9 hLx hkx   hU_2) hLx hkx (by decide) rfl v_12_162 rfl ⟨rfl, rfl⟩ ⟨Nat.le_of_ble_eq_true rfl, Nat.le_of_ble_eq_true rfl⟩ (Nat.le_of_ble_eq_true rfl) ⟨Nat.le_of_ble_eq_true rfl, Nat.le_of_ble_eq_true rfl⟩ dX12_begin_7 rfl (st := [.ref x]) (fun x_4 I_5 J_6 h_7 => ?_)
  obtain ⟨hUI_5, hFI_5, hGJ_6, rx_4⟩ := h_7
  have hF_8 := fq_tr hF_3 hFI_5 (by decide)
  have hG_9 := fq_tr hG hGJ_6 (by decide)
  refine h_putI C K hLx hkx f_12_92 p_12_3 dX12_begin_10 (fun I_10 hI_10 => ?_)
  have hU_11 := iw_put W9 hUI_5 hI_10 (ro_o hkx (by decide)) (lo := 0) (hi := 940) (rfl) (rx_4) rfl
  have hF_12 := fq_puto hF_8 hI_10 hkx (by decide) (by decide)
  refine g_aload_n C 0 dX12_begin_13 rfl rfl ?_
  refine g_iload_n C 1 dX12_begin_14 rfl rfl ?_
  refine h_putI C K hLx hkx f_12_101 p_12_4 dX12_begin_15 (fun I_13 hI_13 => ?_)
  have hU_14 := iw_put W9 hU_11 hI_13 (ro_o hkx (by decide)) (lo := 0) (hi := 900) (rfl) (rg_w ra0 (by decide) (by decide)) rfl
  have hF_15 := fq_puto hF_12 hI_13 hkx (by decide) (by decide)
  refine g_aload_n C 0 dX12_begin_18 rfl rfl ?_
  refine g_iconst C (v := 0) dX12_begin_19 (by decide) ?_
  refine h_putI C K hLx hkx f_12_140 p_12_10 dX12_begin_20 (fun I_16 hI_16 => ?_)
  have hU_17 := iw_put W9 hU_14 hI_16 (ro_o hkx (by decide)) (lo := (-2147483648)) (hi := 2147483647) (rfl) (rg_all _) rfl
  have hF_18 := fq_puto hF_15 hI_16 hkx (by decide) (by decide)
  refine g_aload_n C 0 dX12_begin_23 rfl rfl ?_
  refine g_iconst C (v := 0) dX12_begin_24 (by decide) ?_
  refine h_putI C K hLx hkx f_12_95 p_12_5 dX12_begin_25 (fun I_19 hI_19 => ?_)
  have hU_20 := iw_put W9 hU_17 hI_19 (ro_o hkx (by decide)) (lo := 0) (hi := 940) (rfl) (rg_w rc_0 (by decide) (by decide)) rfl
  have hF_21 := fq_puto hF_18 hI_19 hkx (by decide) (by decide)
  refine g_aload_n C 0 dX12_begin_28 rfl rfl ?_
  refine g_callVV C K (c_X12_go W9 hLx hkx   hU_20) hLx hkx (by decide) rfl v_12_156 rfl ⟨rfl, rfl⟩ ⟨Nat.le_of_ble_eq_true rfl, Nat.le_of_ble_eq_true rfl⟩ (Nat.le_of_ble_eq_true rfl) ⟨Nat.le_of_ble_eq_true rfl, Nat.le_of_ble_eq_true rfl⟩ dX12_begin_29 rfl (st := []) (fun I_23 J_24 h_25 => ?_)
  obtain ⟨hUI_23, hFI_23, hGJ_24, ex_22⟩ := h_25
  have hF_26 := fq_tr hF_21 hFI_23 (by decide)
  have hG_27 := fq_tr hG_9 hGJ_24 (by decide)
  exact g_vret B K rfl ⟨hUI_23, hF_26, hG_27⟩ dX12_begin_32
set_option maxRecDepth 100000 in
set_option maxHeartbeats 8000000 in
theorem c_X12_bad {l : Launch} {D : va_G} {cy : Nat → ClassId} {L : List Nat} {κ ln : Nat → Nat} {R : Nat → Nat → Option Nat} {I : Nat → Nat → Int32} {J : Nat → Nat → Int64} {ow : Nat → Nat × Nat} (W9 : ∀ a ∈ L, Shp L κ ln R ow a) {x : Nat} (hLx : x ∈ L) (hkx : κ x = 12) (a0 : Int32) (ra0 : Rg 1 4 a0) (hU : Iw L κ R ow I) : CtI l yX12_bad cX12_bad 2 (some .boolean) { frames := 0, cells := 0, slots := 0, locals := 0 } D cy L κ ln R I J [.ref x, .int a0] (fun r I2 J2 => Iw L κ R ow I2 ∧ Fq L κ ow [1210, 1211] I I2 ∧ Fq L κ ow [] J J2 ∧ Rg 0 0 r) := by
  refine CtI.of (by decide +kernel) (Nat.le_of_ble_eq_true rfl) ?_
  intro p e s m below meth c B K
  have C := B.1
  have hF : Fq L κ ow [1210, 1211] I I := fq_rf
  have hG : Fq L κ ow [] J J := fq_rf
  refine g_lo (is := [0, 1]) (lo2 := [(0, .ref x), (1, .int a0)]) rfl ?_
  refine g_aload_n C 0 dX12_bad_0 rfl rfl ?_
  refine g_aload_n C 0 dX12_bad_1 rfl rfl ?_
  obtain ⟨x_1, hx_1, rx_1⟩ := ex_getw (I := I) (a := x) (j := 7) (lo := 0) (hi := 4) hU.1 hLx (ro_o hkx (by decide)) rfl
  refine g_getI C K hLx hkx f_12_104 (v := x_1) hx_1 dX12_bad_2 ?_
  refine g_iconst C (v := 1) dX12_bad_5 (by decide) ?_
  refine g_icmp_ne C (tgt := 13) dX12_bad_6 (by decide) (fun h_2 => ?_) (fun h_2 => ?_)
  · skip
    have n_3 : ¬ x_1 = 1 := h_2
    refine g_iload_n C 1 dX12_bad_13 rfl rfl ?_
    refine h_putI C K hLx hkx f_12_140 p_12_10 dX12_bad_14 (fun I_4 hI_4 => ?_)
    have hU_5 := iw_put W9 hU hI_4 (ro_o hkx (by decide)) (lo := (-2147483648)) (hi := 2147483647) (rfl) (rg_all _) rfl
    have hF_6 := fq_puto hF hI_4 hkx (by decide) (by decide)
    refine g_aload_n C 0 dX12_bad_17 rfl rfl ?_
    refine g_aload_n C 0 dX12_bad_18 rfl rfl ?_
    obtain ⟨x_7, hx_7, rx_7⟩ := ex_getw (I := I_4) (a := x) (j := 6) (lo := 0) (hi := 940) hU_5.1 hLx (ro_o hkx (by decide)) rfl
    refine g_getI C K hLx hkx f_12_98 (v := x_7) hx_7 dX12_bad_19 ?_
    refine h_putI C K hLx hkx f_12_143 p_12_11 dX12_bad_22 (fun I_8 hI_8 => ?_)
    have hU_9 := iw_put W9 hU_5 hI_8 (ro_o hkx (by decide)) (lo := (-2147483648)) (hi := 2147483647) (rfl) (rg_all _) rfl
    have hF_10 := fq_puto hF_6 hI_8 hkx (by decide) (by decide)
    refine g_iconst C (v := 0) dX12_bad_25 (by decide) ?_
    exact g_zret (ty := .boolean) (r := 0) B K rfl (rfl) ⟨hU_9, hF_10, hG, rc_0⟩ dX12_bad_26
  · skip
    have r_11 := (⟨(eq_rg (h_2) rc_1).1, (eq_rg (h_2) rc_1).2⟩ : Rg 1 1 x_1)
    refine g_iconst C (v := 1) dX12_bad_9 (by decide) ?_
    refine g_goto C (tgt := 14) dX12_bad_10 (by decide) ?_
    refine h_putI C K hLx hkx f_12_140 p_12_10 dX12_bad_14 (fun I_12 hI_12 => ?_)
    have hU_13 := iw_put W9 hU hI_12 (ro_o hkx (by decide)) (lo := (-2147483648)) (hi := 2147483647) (rfl) (rg_all _) rfl
    have hF_14 := fq_puto hF hI_12 hkx (by decide) (by decide)
    refine g_aload_n C 0 dX12_bad_17 rfl rfl ?_
    refine g_aload_n C 0 dX12_bad_18 rfl rfl ?_
    obtain ⟨x_15, hx_15, rx_15⟩ := ex_getw (I := I_12) (a := x) (j := 6) (lo := 0) (hi := 940) hU_13.1 hLx (ro_o hkx (by decide)) rfl
    refine g_getI C K hLx hkx f_12_98 (v := x_15) hx_15 dX12_bad_19 ?_
    refine h_putI C K hLx hkx f_12_143 p_12_11 dX12_bad_22 (fun I_16 hI_16 => ?_)
    have hU_17 := iw_put W9 hU_13 hI_16 (ro_o hkx (by decide)) (lo := (-2147483648)) (hi := 2147483647) (rfl) (rg_all _) rfl
    have hF_18 := fq_puto hF_14 hI_16 hkx (by decide) (by decide)
    refine g_iconst C (v := 0) dX12_bad_25 (by decide) ?_
    exact g_zret (ty := .boolean) (r := 0) B K rfl (rfl) ⟨hU_17, hF_18, hG, rc_0⟩ dX12_bad_26
set_option maxRecDepth 100000 in
set_option maxHeartbeats 8000000 in
theorem c_X12_isSign {l : Launch} {D : va_G} {cy : Nat → ClassId} {L : List Nat} {κ ln : Nat → Nat} {R : Nat → Nat → Option Nat} {I : Nat → Nat → Int32} {J : Nat → Nat → Int64} {ow : Nat → Nat × Nat} (W9 : ∀ a ∈ L, Shp L κ ln R ow a) {x : Nat} (hLx : x ∈ L) (hkx : κ x = 12) (a0 : Int32) (ra0 : Rg 40 62 a0) (hU : Iw L κ R ow I) : CtI l yX12_isSign cX12_isSign 2 (some .boolean) { frames := 0, cells := 0, slots := 0, locals := 0 } D cy L κ ln R I J [.ref x, .int a0] (fun r I2 J2 => I = I2 ∧ J = J2 ∧ Rg 0 1 r ∧ (¬ r = 0 → Rg 4 4 (I2 x 7))) := by
  refine CtI.of (by decide +kernel) (Nat.le_of_ble_eq_true rfl) ?_
  intro p e s m below meth c B K
  have C := B.1
  refine g_lo (is := [0, 1]) (lo2 := [(0, .ref x), (1, .int a0)]) rfl ?_
  refine g_aload_n C 0 dX12_isSign_0 rfl rfl ?_
  obtain ⟨x_1, hx_1, rx_1⟩ := ex_getw (I := I) (a := x) (j := 7) (lo := 0) (hi := 4) hU.1 hLx (ro_o hkx (by decide)) rfl
  refine g_getI C K hLx hkx f_12_104 (v := x_1) hx_1 dX12_isSign_1 ?_
  refine g_iconst C (v := 4) dX12_isSign_4 (by decide) ?_
  refine g_icmp_ne C (tgt := 20) dX12_isSign_5 (by decide) (fun h_2 => ?_) (fun h_2 => ?_)
  · skip
    have n_3 : ¬ x_1 = 4 := h_2
    have r_4 := ne_hi (hi := 3) n_3 rx_1 rc_4 rfl (by decide)
    refine g_iconst C (v := 0) dX12_isSign_20 (by decide) ?_
    exact g_zret (ty := .boolean) (r := 0) B K rfl (rfl) ⟨rfl, rfl, rg_w rc_0 (by decide) (by decide), (fun q => absurd rfl q)⟩ dX12_isSign_21
  · skip
    have r_5 := (⟨(eq_rg (h_2) rc_4).1, (rx_1).2⟩ : Rg 4 4 x_1)
    refine g_aload_n C 0 dX12_isSign_8 rfl rfl ?_
    obtain ⟨x_6, hx_6, rx_6⟩ := ex_getw (I := I) (a := x) (j := 9) (lo := (-2147483648)) (hi := 2147483647) hU.1 hLx (ro_o hkx (by decide)) rfl
    refine g_getI C K hLx hkx f_12_114 (v := x_6) hx_6 dX12_isSign_9 ?_
    refine g_iload_n C 1 dX12_isSign_12 rfl rfl ?_
    refine g_icmp_ne C (tgt := 20) dX12_isSign_13 (by decide) (fun h_7 => ?_) (fun h_7 => ?_)
    · skip
      refine g_iconst C (v := 0) dX12_isSign_20 (by decide) ?_
      exact g_zret (ty := .boolean) (r := 0) B K rfl (rfl) ⟨rfl, rfl, rg_w rc_0 (by decide) (by decide), (fun q => absurd rfl q)⟩ dX12_isSign_21
    · skip
      have r_8 := (⟨(eq_rg (h_7) ra0).1, (eq_rg (h_7) ra0).2⟩ : Rg 40 62 x_6)
      refine g_iconst C (v := 1) dX12_isSign_16 (by decide) ?_
      refine g_goto C (tgt := 21) dX12_isSign_17 (by decide) ?_
      exact g_zret (ty := .boolean) (r := 1) B K rfl (rfl) ⟨rfl, rfl, rg_w rc_1 (by decide) (by decide), (fun _ => eq_rg hx_1 (r_5))⟩ dX12_isSign_21
set_option maxRecDepth 100000 in
set_option maxHeartbeats 8000000 in
theorem c_X12_readEnd {l : Launch} {D : va_G} {cy : Nat → ClassId} {L : List Nat} {κ ln : Nat → Nat} {R : Nat → Nat → Option Nat} {I : Nat → Nat → Int32} {J : Nat → Nat → Int64} {ow : Nat → Nat × Nat} (W9 : ∀ a ∈ L, Shp L κ ln R ow a) {x : Nat} (hLx : x ∈ L) (hkx : κ x = 12) (hU : Iw L κ R ow I) : CtI l yX12_readEnd cX12_readEnd 1 (some .boolean) { frames := 2, cells := 0, slots := 0, locals := 45 } D cy L κ ln R I J [.ref x] (fun r I2 J2 => Iw L κ R ow I2 ∧ Fq L κ ow [1205, 1206, 1207, 1208, 1209, 1210, 1211] I I2 ∧ Fq L κ ow [1212] J J2 ∧ Rg 0 1 r ∧ (Pg_ x I I2 ∧ (¬ r = 0 → Ps_ x I I2)) ∧ (¬ r = 0 → (I x 7).toInt = 4)) := by
  obtain ⟨x_1, hx_1, rx_1⟩ := ex_getw (I := I) (a := x) (j := 7) (lo := 0) (hi := 4) hU.1 hLx (ro_o hkx (by decide)) rfl
  refine CtI.of (by decide +kernel) (Nat.le_of_ble_eq_true rfl) ?_
  intro p e s m below meth c B K
  have C := B.1
  have hF : Fq L κ ow [1205, 1206, 1207, 1208, 1209, 1210, 1211] I I := fq_rf
  have hG : Fq L κ ow [1212] J J := fq_rf
  refine g_lo (is := [0]) (lo2 := [(0, .ref x)]) rfl ?_
  refine g_aload_n C 0 dX12_readEnd_0 rfl rfl ?_
  refine g_bipush C (v := 59) dX12_readEnd_1 (by decide) ?_
  refine g_callVI C K (c_X12_isSign W9 hLx hkx 59 (rg_w rc_59 (by decide) (by decide)) hU) hLx hkx (by decide) rfl v_12_159 rfl ⟨rfl, rfl⟩ ⟨Nat.le_of_ble_eq_true rfl, Nat.le_of_ble_eq_true rfl⟩ (Nat.le_of_ble_eq_true rfl) ⟨Nat.le_of_ble_eq_true rfl, Nat.le_of_ble_eq_true rfl⟩ dX12_readEnd_3 rfl (st := []) (fun x_2 I_3 J_4 h_5 => ?_)
  obtain ⟨rfl, rfl, rx_2, ex_2⟩ := h_5
  have q_6 := hx_1
  refine g_if_ne C (tgt := 15) dX12_readEnd_6 (by decide) (fun h_7 => ?_) (fun h_7 => ?_)
  · skip
    have n_8 : ¬ x_2 = 0 := h_7
    have r_9 := ne_lo (lo := 1) n_8 rx_2 rc_0 rfl (by decide)
    have r_10 := rg_i rx_1 (eq_rg q_6.symm ((ex_2) n_8)) (lo := 4) (hi := 4) (by decide) (by decide)
    refine g_aload_n C 0 dX12_readEnd_15 rfl rfl ?_
    refine g_callVV C K (c_X12_go W9 hLx hkx   hU) hLx hkx (by decide) rfl v_12_156 rfl ⟨rfl, rfl⟩ ⟨Nat.le_of_ble_eq_true rfl, Nat.le_of_ble_eq_true rfl⟩ (Nat.le_of_ble_eq_true rfl) ⟨Nat.le_of_ble_eq_true rfl, Nat.le_of_ble_eq_true rfl⟩ dX12_readEnd_16 rfl (st := []) (fun I_12 J_13 h_14 => ?_)
    obtain ⟨hUI_12, hFI_12, hGJ_13, ex_11⟩ := h_14
    have hF_15 := fq_tr hF hFI_12 (by decide)
    have hG_16 := fq_tr hG hGJ_13 (by decide)
    refine g_iconst C (v := 1) dX12_readEnd_19 (by decide) ?_
    exact g_zret (ty := .boolean) (r := 1) B K rfl (rfl) ⟨hUI_12, hF_15, hG_16, rg_w rc_1 (by decide) (by decide), ⟨(pg_s (ps_t2 pg_rf ex_11)), fun _ => (ps_t2 pg_rf ex_11)⟩, (fun _ => by rw [hx_1]; have := (r_10).1; have := (r_10).2; omega)⟩ dX12_readEnd_20
  · skip
    have r_17 := (⟨(rx_2).1, (eq_rg (h_7) rc_0).2⟩ : Rg 0 0 x_2)
    refine g_aload_n C 0 dX12_readEnd_9 rfl rfl ?_
    refine g_iconst C (v := 1) dX12_readEnd_10 (by decide) ?_
    refine g_callVI C K (c_X12_bad W9 hLx hkx 1 (rg_w rc_1 (by decide) (by decide)) hU) hLx hkx (by decide) rfl v_12_146 rfl ⟨rfl, rfl⟩ ⟨Nat.le_of_ble_eq_true rfl, Nat.le_of_ble_eq_true rfl⟩ (Nat.le_of_ble_eq_true rfl) ⟨Nat.le_of_ble_eq_true rfl, Nat.le_of_ble_eq_true rfl⟩ dX12_readEnd_11 rfl (st := []) (fun x_18 I_19 J_20 h_21 => ?_)
    obtain ⟨hUI_19, hFI_19, hGJ_20, rx_18⟩ := h_21
    have hF_22 := fq_tr hF hFI_19 (by decide)
    have hG_23 := fq_tr hG hGJ_20 (by decide)
    exact g_zret (ty := .boolean) (r := x_18) B K rfl (nar_z (rg_w rx_18 (by decide) (by decide))) ⟨hUI_19, hF_22, hG_23, rg_w rx_18 (by decide) (by decide), ⟨(pg_fq pg_rf hFI_19 hLx hkx (by decide) (by decide)), fun q => ne_no q rx_18 rc_0⟩, (fun q => ne_no q rx_18 rc_0)⟩ dX12_readEnd_14
set_option maxRecDepth 100000 in
set_option maxHeartbeats 8000000 in
theorem c_X12_spelt {l : Launch} {D : va_G} {cy : Nat → ClassId} {L : List Nat} {κ ln : Nat → Nat} {R : Nat → Nat → Option Nat} {I : Nat → Nat → Int32} {J : Nat → Nat → Int64} {ow : Nat → Nat × Nat} (W9 : ∀ a ∈ L, Shp L κ ln R ow a) (a0 : Int32) (a1 : Int32) (a2 : Int32) (a3 : Int32) (a4 : Int32) (a5 : Int32) (a6 : Int32) (ra0 : Rg 97 119 a0) (ra1 : Rg 97 117 a1) (ra2 : Rg 0 120 a2) (ra3 : Rg 0 118 a3) (ra4 : Rg 0 116 a4) (ra5 : Rg 0 121 a5) (ra6 : Rg 0 115 a6) (hU : Iw L κ R ow I) : CtL l yX12_spelt cX12_spelt 9 (some .long) { frames := 0, cells := 0, slots := 0, locals := 0 } D cy L κ ln R I J [.int a0, .int a1, .int a2, .int a3, .int a4, .int a5, .int a6] (fun r I2 J2 => I = I2 ∧ J = J2) := by
  refine CtL.of (by decide +kernel) (Nat.le_of_ble_eq_true rfl) ?_
  intro p e s m below meth c B K
  have C := B.1
  refine g_lo (is := [0, 1, 2, 3, 4, 5, 6]) (lo2 := [(0, .int a0), (1, .int a1), (2, .int a2), (3, .int a3), (4, .int a4), (5, .int a5), (6, .int a6)]) rfl ?_
  have j_99 : ∀ (y_1 : Int64), WG p l e { frames := 0, cells := 0, slots := 0, locals := 0 } s m ([.int a0, .int a1, .int a2, .int a3, .int a4, .int a5, .int a6] : List Value).toArray below meth c 9 0 0 (MQ below (Ql_ D cy L κ ln R (fun r I2 J2 => I = I2 ∧ J = J2)) ([.int a0, .int a1, .int a2, .int a3, .int a4, .int a5, .int a6] : List Value).toArray s 0 0 (Al_ L)) D cy (Al_ L) s.heap L κ ln R I J 99 [(0, .int a0), (1, .int a1), (2, .int a2), (3, .int a3), (4, .int a4), (5, .int a5), (6, .int a6), (7, .long y_1)] [] := by
    intro y_1
    refine g_iload C 6 dX12_spelt_99 rfl ?_
    refine g_if_le C (tgt := 120) dX12_spelt_101 (by decide) (fun h_2 => ?_) (fun h_2 => ?_)
    · skip
      have r_3 := le_l (h_2) ra6 rc_0
      refine g_lload C 7 dX12_spelt_120 rfl ?_
      exact g_lret (r := y_1) B K rfl ⟨rfl, rfl⟩ dX12_spelt_122
    · skip
      have r_4 := lt_r (lo := 1) (nle h_2) rc_0 ra6 (by decide)
      refine g_ldc2 C kl_128 dX12_spelt_104 ?_
      refine g_lload C 7 dX12_spelt_107 rfl ?_
      refine g_lmul C dX12_spelt_109 (fun y_5 => ?_)
      refine g_iload C 6 dX12_spelt_110 rfl ?_
      obtain ⟨y_6, hy_6⟩ : ∃ z, Int32.toInt64 a6 = z := ⟨_, rfl⟩
      refine g_i2l C (v := y_6) dX12_spelt_112 hy_6 ?_
      refine g_ladd C dX12_spelt_113 (fun y_7 => ?_)
      refine g_ldc2 C kl_130 dX12_spelt_114 ?_
      refine g_lsub C dX12_spelt_117 (fun y_8 => ?_)
      refine g_lstore C dX12_spelt_118 (by decide) (lo2 := [(7, .long y_8), (0, .int a0), (1, .int a1), (2, .int a2), (3, .int a3), (4, .int a4), (5, .int a5), (6, .int a6)]) rfl ?_
      refine g_lload C 0 dX12_spelt_120 rfl ?_
      exact g_lret (r := y_8) B K rfl ⟨rfl, rfl⟩ dX12_spelt_122
  have j_78 : ∀ (y_9 : Int64), WG p l e { frames := 0, cells := 0, slots := 0, locals := 0 } s m ([.int a0, .int a1, .int a2, .int a3, .int a4, .int a5, .int a6] : List Value).toArray below meth c 9 0 0 (MQ below (Ql_ D cy L κ ln R (fun r I2 J2 => I = I2 ∧ J = J2)) ([.int a0, .int a1, .int a2, .int a3, .int a4, .int a5, .int a6] : List Value).toArray s 0 0 (Al_ L)) D cy (Al_ L) s.heap L κ ln R I J 78 [(0, .int a0), (1, .int a1), (2, .int a2), (3, .int a3), (4, .int a4), (5, .int a5), (6, .int a6), (7, .long y_9)] [] := by
    intro y_9
    refine g_iload C 5 dX12_spelt_78 rfl ?_
    refine g_if_le C (tgt := 99) dX12_spelt_80 (by decide) (fun h_10 => ?_) (fun h_10 => ?_)
    · skip
      have r_11 := le_l (h_10) ra5 rc_0
      refine g_lo (is := [0, 1, 2, 3, 4, 5, 6, 7]) (lo2 := [(0, .int a0), (1, .int a1), (2, .int a2), (3, .int a3), (4, .int a4), (5, .int a5), (6, .int a6), (7, .long y_9)]) rfl ?_
      exact j_99 y_9
    · skip
      have r_12 := lt_r (lo := 1) (nle h_10) rc_0 ra5 (by decide)
      refine g_ldc2 C kl_128 dX12_spelt_83 ?_
      refine g_lload C 7 dX12_spelt_86 rfl ?_
      refine g_lmul C dX12_spelt_88 (fun y_13 => ?_)
      refine g_iload C 5 dX12_spelt_89 rfl ?_
      obtain ⟨y_14, hy_14⟩ : ∃ z, Int32.toInt64 a5 = z := ⟨_, rfl⟩
      refine g_i2l C (v := y_14) dX12_spelt_91 hy_14 ?_
      refine g_ladd C dX12_spelt_92 (fun y_15 => ?_)
      refine g_ldc2 C kl_130 dX12_spelt_93 ?_
      refine g_lsub C dX12_spelt_96 (fun y_16 => ?_)
      refine g_lstore C dX12_spelt_97 (by decide) (lo2 := [(7, .long y_16), (0, .int a0), (1, .int a1), (2, .int a2), (3, .int a3), (4, .int a4), (5, .int a5), (6, .int a6)]) rfl ?_
      refine g_lo (is := [1, 2, 3, 4, 5, 6, 7, 0]) (lo2 := [(0, .int a0), (1, .int a1), (2, .int a2), (3, .int a3), (4, .int a4), (5, .int a5), (6, .int a6), (7, .long y_16)]) rfl ?_
      exact j_99 y_16
  have j_57 : ∀ (y_17 : Int64), WG p l e { frames := 0, cells := 0, slots := 0, locals := 0 } s m ([.int a0, .int a1, .int a2, .int a3, .int a4, .int a5, .int a6] : List Value).toArray below meth c 9 0 0 (MQ below (Ql_ D cy L κ ln R (fun r I2 J2 => I = I2 ∧ J = J2)) ([.int a0, .int a1, .int a2, .int a3, .int a4, .int a5, .int a6] : List Value).toArray s 0 0 (Al_ L)) D cy (Al_ L) s.heap L κ ln R I J 57 [(0, .int a0), (1, .int a1), (2, .int a2), (3, .int a3), (4, .int a4), (5, .int a5), (6, .int a6), (7, .long y_17)] [] := by
    intro y_17
    refine g_iload C 4 dX12_spelt_57 rfl ?_
    refine g_if_le C (tgt := 78) dX12_spelt_59 (by decide) (fun h_18 => ?_) (fun h_18 => ?_)
    · skip
      have r_19 := le_l (h_18) ra4 rc_0
      refine g_lo (is := [0, 1, 2, 3, 4, 5, 6, 7]) (lo2 := [(0, .int a0), (1, .int a1), (2, .int a2), (3, .int a3), (4, .int a4), (5, .int a5), (6, .int a6), (7, .long y_17)]) rfl ?_
      exact j_78 y_17
    · skip
      have r_20 := lt_r (lo := 1) (nle h_18) rc_0 ra4 (by decide)
      refine g_ldc2 C kl_128 dX12_spelt_62 ?_
      refine g_lload C 7 dX12_spelt_65 rfl ?_
      refine g_lmul C dX12_spelt_67 (fun y_21 => ?_)
      refine g_iload C 4 dX12_spelt_68 rfl ?_
      obtain ⟨y_22, hy_22⟩ : ∃ z, Int32.toInt64 a4 = z := ⟨_, rfl⟩
      refine g_i2l C (v := y_22) dX12_spelt_70 hy_22 ?_
      refine g_ladd C dX12_spelt_71 (fun y_23 => ?_)
      refine g_ldc2 C kl_130 dX12_spelt_72 ?_
      refine g_lsub C dX12_spelt_75 (fun y_24 => ?_)
      refine g_lstore C dX12_spelt_76 (by decide) (lo2 := [(7, .long y_24), (0, .int a0), (1, .int a1), (2, .int a2), (3, .int a3), (4, .int a4), (5, .int a5), (6, .int a6)]) rfl ?_
      refine g_lo (is := [1, 2, 3, 4, 5, 6, 7, 0]) (lo2 := [(0, .int a0), (1, .int a1), (2, .int a2), (3, .int a3), (4, .int a4), (5, .int a5), (6, .int a6), (7, .long y_24)]) rfl ?_
      exact j_78 y_24
  have j_38 : ∀ (y_25 : Int64), WG p l e { frames := 0, cells := 0, slots := 0, locals := 0 } s m ([.int a0, .int a1, .int a2, .int a3, .int a4, .int a5, .int a6] : List Value).toArray below meth c 9 0 0 (MQ below (Ql_ D cy L κ ln R (fun r I2 J2 => I = I2 ∧ J = J2)) ([.int a0, .int a1, .int a2, .int a3, .int a4, .int a5, .int a6] : List Value).toArray s 0 0 (Al_ L)) D cy (Al_ L) s.heap L κ ln R I J 38 [(0, .int a0), (1, .int a1), (2, .int a2), (3, .int a3), (4, .int a4), (5, .int a5), (6, .int a6), (7, .long y_25)] [] := by
    intro y_25
    refine g_iload_n C 3 dX12_spelt_38 rfl rfl ?_
    refine g_if_le C (tgt := 57) dX12_spelt_39 (by decide) (fun h_26 => ?_) (fun h_26 => ?_)
    · skip
      have r_27 := le_l (h_26) ra3 rc_0
      refine g_lo (is := [0, 1, 2, 3, 4, 5, 6, 7]) (lo2 := [(0, .int a0), (1, .int a1), (2, .int a2), (3, .int a3), (4, .int a4), (5, .int a5), (6, .int a6), (7, .long y_25)]) rfl ?_
      exact j_57 y_25
    · skip
      have r_28 := lt_r (lo := 1) (nle h_26) rc_0 ra3 (by decide)
      refine g_ldc2 C kl_128 dX12_spelt_42 ?_
      refine g_lload C 7 dX12_spelt_45 rfl ?_
      refine g_lmul C dX12_spelt_47 (fun y_29 => ?_)
      refine g_iload_n C 3 dX12_spelt_48 rfl rfl ?_
      obtain ⟨y_30, hy_30⟩ : ∃ z, Int32.toInt64 a3 = z := ⟨_, rfl⟩
      refine g_i2l C (v := y_30) dX12_spelt_49 hy_30 ?_
      refine g_ladd C dX12_spelt_50 (fun y_31 => ?_)
      refine g_ldc2 C kl_130 dX12_spelt_51 ?_
      refine g_lsub C dX12_spelt_54 (fun y_32 => ?_)
      refine g_lstore C dX12_spelt_55 (by decide) (lo2 := [(7, .long y_32), (0, .int a0), (1, .int a1), (2, .int a2), (3, .int a3), (4, .int a4), (5, .int a5), (6, .int a6)]) rfl ?_
      refine g_lo (is := [1, 2, 3, 4, 5, 6, 7, 0]) (lo2 := [(0, .int a0), (1, .int a1), (2, .int a2), (3, .int a3), (4, .int a4), (5, .int a5), (6, .int a6), (7, .long y_32)]) rfl ?_
      exact j_57 y_32
  refine g_ldc2 C kl_128 dX12_spelt_0 ?_
  refine g_iload_n C 0 dX12_spelt_3 rfl rfl ?_
  obtain ⟨y_33, hy_33⟩ : ∃ z, Int32.toInt64 a0 = z := ⟨_, rfl⟩
  refine g_i2l C (v := y_33) dX12_spelt_4 hy_33 ?_
  refine g_ldc2 C kl_130 dX12_spelt_5 ?_
  refine g_lsub C dX12_spelt_8 (fun y_34 => ?_)
  refine g_lmul C dX12_spelt_9 (fun y_35 => ?_)
  refine g_iload_n C 1 dX12_spelt_10 rfl rfl ?_
  obtain ⟨y_36, hy_36⟩ : ∃ z, Int32.toInt64 a1 = z := ⟨_, rfl⟩
  refine g_i2l C (v := y_36) dX12_spelt_11 hy_36 ?_
  refine g_ladd C dX12_spelt_12 (fun y_37 => ?_)
  refine g_ldc2 C kl_130 dX12_spelt_13 ?_
  refine g_lsub C dX12_spelt_16 (fun y_38 => ?_)
  refine g_lstore C dX12_spelt_17 (by decide) (lo2 := [(7, .long y_38), (0, .int a0), (1, .int a1), (2, .int a2), (3, .int a3), (4, .int a4), (5, .int a5), (6, .int a6)]) rfl ?_
  refine g_iload_n C 3 dX12_spelt_19 rfl rfl ?_
  refine g_if_le C (tgt := 38) dX12_spelt_20 (by decide) (fun h_39 => ?_) (fun h_39 => ?_)
  · skip
    have r_40 := le_l (h_39) ra2 rc_0
    refine g_lo (is := [1, 2, 3, 4, 5, 6, 7, 0]) (lo2 := [(0, .int a0), (1, .int a1), (2, .int a2), (3, .int a3), (4, .int a4), (5, .int a5), (6, .int a6), (7, .long y_38)]) rfl ?_
    exact j_38 y_38
  · skip
    have r_41 := lt_r (lo := 1) (nle h_39) rc_0 ra2 (by decide)
    refine g_ldc2 C kl_128 dX12_spelt_23 ?_
    refine g_lload C 0 dX12_spelt_26 rfl ?_
    refine g_lmul C dX12_spelt_28 (fun y_42 => ?_)
    refine g_iload_n C 3 dX12_spelt_29 rfl rfl ?_
    obtain ⟨y_43, hy_43⟩ : ∃ z, Int32.toInt64 a2 = z := ⟨_, rfl⟩
    refine g_i2l C (v := y_43) dX12_spelt_30 hy_43 ?_
    refine g_ladd C dX12_spelt_31 (fun y_44 => ?_)
    refine g_ldc2 C kl_130 dX12_spelt_32 ?_
    refine g_lsub C dX12_spelt_35 (fun y_45 => ?_)
    refine g_lstore C dX12_spelt_36 (by decide) (lo2 := [(7, .long y_45), (0, .int a0), (1, .int a1), (2, .int a2), (3, .int a3), (4, .int a4), (5, .int a5), (6, .int a6)]) rfl ?_
    refine g_lo (is := [1, 2, 3, 4, 5, 6, 7, 0]) (lo2 := [(0, .int a0), (1, .int a1), (2, .int a2), (3, .int a3), (4, .int a4), (5, .int a5), (6, .int a6), (7, .long y_45)]) rfl ?_
    exact j_38 y_45
set_option maxRecDepth 100000 in
set_option maxHeartbeats 8000000 in
theorem c_X12_wordOf {l : Launch} {D : va_G} {cy : Nat → ClassId} {L : List Nat} {κ ln : Nat → Nat} {R : Nat → Nat → Option Nat} {I : Nat → Nat → Int32} {J : Nat → Nat → Int64} {ow : Nat → Nat × Nat} (W9 : ∀ a ∈ L, Shp L κ ln R ow a) (a0 : Int32) (ra0 : Rg 0 27 a0) (hU : Iw L κ R ow I) : CtL l yX12_wordOf cX12_wordOf 1 (some .long) { frames := 1, cells := 0, slots := 0, locals := 28 } D cy L κ ln R I J [.int a0] (fun r I2 J2 => I = I2 ∧ J = J2) := by
  refine CtL.of (by decide +kernel) (Nat.le_of_ble_eq_true rfl) ?_
  intro p e s m below meth c B K
  have C := B.1
  refine g_lo (is := [0]) (lo2 := [(0, .int a0)]) rfl ?_
  refine g_iload_n C 0 dX12_wordOf_0 rfl rfl ?_
  by_cases c_1 : a0.toInt = 0
  · skip
    have r_2 := rg_of (a := 0) (b := 0) 0 c_1 (by decide) (by decide)
    refine g_tableIn C (tgt := 124) dX12_wordOf_1 (by omega) (by omega) (off := 123) (by rw [c_1]; rfl) (by decide) ?_
    refine g_bipush C (v := 112) dX12_wordOf_124 (by decide) ?_
    refine g_bipush C (v := 101) dX12_wordOf_126 (by decide) ?_
    refine g_bipush C (v := 114) dX12_wordOf_128 (by decide) ?_
    refine g_bipush C (v := 115) dX12_wordOf_130 (by decide) ?_
    refine g_bipush C (v := 111) dX12_wordOf_132 (by decide) ?_
    refine g_bipush C (v := 110) dX12_wordOf_134 (by decide) ?_
    refine g_iconst C (v := 0) dX12_wordOf_136 (by decide) ?_
    refine g_callSL C K (c_X12_spelt W9 112 101 114 115 111 110 0 (rg_w rc_112 (by decide) (by decide)) (rg_w rc_101 (by decide) (by decide)) (rg_w rc_114 (by decide) (by decide)) (rg_w rc_115 (by decide) (by decide)) (rg_w rc_111 (by decide) (by decide)) (rg_w rc_110 (by decide) (by decide)) (rg_w rc_0 (by decide) (by decide)) hU) s_12_132 rfl ⟨rfl, rfl⟩ ⟨Nat.le_of_ble_eq_true rfl, Nat.le_of_ble_eq_true rfl⟩ (Nat.le_of_ble_eq_true rfl) ⟨Nat.le_of_ble_eq_true rfl, Nat.le_of_ble_eq_true rfl⟩ dX12_wordOf_137 rfl (st := []) (fun x_3 I_4 J_5 h_6 => ?_)
    obtain ⟨rfl, rfl⟩ := h_6
    exact g_lret (r := x_3) B K rfl ⟨rfl, rfl⟩ dX12_wordOf_140
  by_cases c_7 : a0.toInt = 1
  · skip
    have r_8 := rg_of (a := 1) (b := 1) 1 c_7 (by decide) (by decide)
    refine g_tableIn C (tgt := 141) dX12_wordOf_1 (by omega) (by omega) (off := 140) (by rw [c_7]; rfl) (by decide) ?_
    refine g_bipush C (v := 100) dX12_wordOf_141 (by decide) ?_
    refine g_bipush C (v := 105) dX12_wordOf_143 (by decide) ?_
    refine g_bipush C (v := 115) dX12_wordOf_145 (by decide) ?_
    refine g_bipush C (v := 104) dX12_wordOf_147 (by decide) ?_
    refine g_iconst C (v := 0) dX12_wordOf_149 (by decide) ?_
    refine g_iconst C (v := 0) dX12_wordOf_150 (by decide) ?_
    refine g_iconst C (v := 0) dX12_wordOf_151 (by decide) ?_
    refine g_callSL C K (c_X12_spelt W9 100 105 115 104 0 0 0 (rg_w rc_100 (by decide) (by decide)) (rg_w rc_105 (by decide) (by decide)) (rg_w rc_115 (by decide) (by decide)) (rg_w rc_104 (by decide) (by decide)) (rg_w rc_0 (by decide) (by decide)) (rg_w rc_0 (by decide) (by decide)) (rg_w rc_0 (by decide) (by decide)) hU) s_12_132 rfl ⟨rfl, rfl⟩ ⟨Nat.le_of_ble_eq_true rfl, Nat.le_of_ble_eq_true rfl⟩ (Nat.le_of_ble_eq_true rfl) ⟨Nat.le_of_ble_eq_true rfl, Nat.le_of_ble_eq_true rfl⟩ dX12_wordOf_152 rfl (st := []) (fun x_9 I_10 J_11 h_12 => ?_)
    obtain ⟨rfl, rfl⟩ := h_12
    exact g_lret (r := x_9) B K rfl ⟨rfl, rfl⟩ dX12_wordOf_155
  by_cases c_13 : a0.toInt = 2
  · skip
    have r_14 := rg_of (a := 2) (b := 2) 2 c_13 (by decide) (by decide)
    refine g_tableIn C (tgt := 156) dX12_wordOf_1 (by omega) (by omega) (off := 155) (by rw [c_13]; rfl) (by decide) ?_
    refine g_bipush C (v := 115) dX12_wordOf_156 (by decide) ?_
    refine g_bipush C (v := 112) dX12_wordOf_158 (by decide) ?_
    refine g_bipush C (v := 111) dX12_wordOf_160 (by decide) ?_
    refine g_bipush C (v := 105) dX12_wordOf_162 (by decide) ?_
    refine g_bipush C (v := 108) dX12_wordOf_164 (by decide) ?_
    refine g_bipush C (v := 115) dX12_wordOf_166 (by decide) ?_
    refine g_iconst C (v := 0) dX12_wordOf_168 (by decide) ?_
    refine g_callSL C K (c_X12_spelt W9 115 112 111 105 108 115 0 (rg_w rc_115 (by decide) (by decide)) (rg_w rc_112 (by decide) (by decide)) (rg_w rc_111 (by decide) (by decide)) (rg_w rc_105 (by decide) (by decide)) (rg_w rc_108 (by decide) (by decide)) (rg_w rc_115 (by decide) (by decide)) (rg_w rc_0 (by decide) (by decide)) hU) s_12_132 rfl ⟨rfl, rfl⟩ ⟨Nat.le_of_ble_eq_true rfl, Nat.le_of_ble_eq_true rfl⟩ (Nat.le_of_ble_eq_true rfl) ⟨Nat.le_of_ble_eq_true rfl, Nat.le_of_ble_eq_true rfl⟩ dX12_wordOf_169 rfl (st := []) (fun x_15 I_16 J_17 h_18 => ?_)
    obtain ⟨rfl, rfl⟩ := h_18
    exact g_lret (r := x_15) B K rfl ⟨rfl, rfl⟩ dX12_wordOf_172
  by_cases c_19 : a0.toInt = 3
  · skip
    have r_20 := rg_of (a := 3) (b := 3) 3 c_19 (by decide) (by decide)
    refine g_tableIn C (tgt := 173) dX12_wordOf_1 (by omega) (by omega) (off := 172) (by rw [c_19]; rfl) (by decide) ?_
    refine g_bipush C (v := 112) dX12_wordOf_173 (by decide) ?_
    refine g_bipush C (v := 108) dX12_wordOf_175 (by decide) ?_
    refine g_bipush C (v := 97) dX12_wordOf_177 (by decide) ?_
    refine g_bipush C (v := 116) dX12_wordOf_179 (by decide) ?_
    refine g_bipush C (v := 101) dX12_wordOf_181 (by decide) ?_
    refine g_iconst C (v := 0) dX12_wordOf_183 (by decide) ?_
    refine g_iconst C (v := 0) dX12_wordOf_184 (by decide) ?_
    refine g_callSL C K (c_X12_spelt W9 112 108 97 116 101 0 0 (rg_w rc_112 (by decide) (by decide)) (rg_w rc_108 (by decide) (by decide)) (rg_w rc_97 (by decide) (by decide)) (rg_w rc_116 (by decide) (by decide)) (rg_w rc_101 (by decide) (by decide)) (rg_w rc_0 (by decide) (by decide)) (rg_w rc_0 (by decide) (by decide)) hU) s_12_132 rfl ⟨rfl, rfl⟩ ⟨Nat.le_of_ble_eq_true rfl, Nat.le_of_ble_eq_true rfl⟩ (Nat.le_of_ble_eq_true rfl) ⟨Nat.le_of_ble_eq_true rfl, Nat.le_of_ble_eq_true rfl⟩ dX12_wordOf_185 rfl (st := []) (fun x_21 I_22 J_23 h_24 => ?_)
    obtain ⟨rfl, rfl⟩ := h_24
    exact g_lret (r := x_21) B K rfl ⟨rfl, rfl⟩ dX12_wordOf_188
  by_cases c_25 : a0.toInt = 4
  · skip
    have r_26 := rg_of (a := 4) (b := 4) 4 c_25 (by decide) (by decide)
    refine g_tableIn C (tgt := 189) dX12_wordOf_1 (by omega) (by omega) (off := 188) (by rw [c_25]; rfl) (by decide) ?_
    refine g_bipush C (v := 108) dX12_wordOf_189 (by decide) ?_
    refine g_bipush C (v := 97) dX12_wordOf_191 (by decide) ?_
    refine g_bipush C (v := 119) dX12_wordOf_193 (by decide) ?_
    refine g_iconst C (v := 0) dX12_wordOf_195 (by decide) ?_
    refine g_iconst C (v := 0) dX12_wordOf_196 (by decide) ?_
    refine g_iconst C (v := 0) dX12_wordOf_197 (by decide) ?_
    refine g_iconst C (v := 0) dX12_wordOf_198 (by decide) ?_
    refine g_callSL C K (c_X12_spelt W9 108 97 119 0 0 0 0 (rg_w rc_108 (by decide) (by decide)) (rg_w rc_97 (by decide) (by decide)) (rg_w rc_119 (by decide) (by decide)) (rg_w rc_0 (by decide) (by decide)) (rg_w rc_0 (by decide) (by decide)) (rg_w rc_0 (by decide) (by decide)) (rg_w rc_0 (by decide) (by decide)) hU) s_12_132 rfl ⟨rfl, rfl⟩ ⟨Nat.le_of_ble_eq_true rfl, Nat.le_of_ble_eq_true rfl⟩ (Nat.le_of_ble_eq_true rfl) ⟨Nat.le_of_ble_eq_true rfl, Nat.le_of_ble_eq_true rfl⟩ dX12_wordOf_199 rfl (st := []) (fun x_27 I_28 J_29 h_30 => ?_)
    obtain ⟨rfl, rfl⟩ := h_30
    exact g_lret (r := x_27) B K rfl ⟨rfl, rfl⟩ dX12_wordOf_202
  by_cases c_31 : a0.toInt = 5
  · skip
    have r_32 := rg_of (a := 5) (b := 5) 5 c_31 (by decide) (by decide)
    refine g_tableIn C (tgt := 203) dX12_wordOf_1 (by omega) (by omega) (off := 202) (by rw [c_31]; rfl) (by decide) ?_
    refine g_bipush C (v := 110) dX12_wordOf_203 (by decide) ?_
    refine g_bipush C (v := 101) dX12_wordOf_205 (by decide) ?_
    refine g_bipush C (v := 120) dX12_wordOf_207 (by decide) ?_
    refine g_bipush C (v := 116) dX12_wordOf_209 (by decide) ?_
    refine g_iconst C (v := 0) dX12_wordOf_211 (by decide) ?_
    refine g_iconst C (v := 0) dX12_wordOf_212 (by decide) ?_
    refine g_iconst C (v := 0) dX12_wordOf_213 (by decide) ?_
    refine g_callSL C K (c_X12_spelt W9 110 101 120 116 0 0 0 (rg_w rc_110 (by decide) (by decide)) (rg_w rc_101 (by decide) (by decide)) (rg_w rc_120 (by decide) (by decide)) (rg_w rc_116 (by decide) (by decide)) (rg_w rc_0 (by decide) (by decide)) (rg_w rc_0 (by decide) (by decide)) (rg_w rc_0 (by decide) (by decide)) hU) s_12_132 rfl ⟨rfl, rfl⟩ ⟨Nat.le_of_ble_eq_true rfl, Nat.le_of_ble_eq_true rfl⟩ (Nat.le_of_ble_eq_true rfl) ⟨Nat.le_of_ble_eq_true rfl, Nat.le_of_ble_eq_true rfl⟩ dX12_wordOf_214 rfl (st := []) (fun x_33 I_34 J_35 h_36 => ?_)
    obtain ⟨rfl, rfl⟩ := h_36
    exact g_lret (r := x_33) B K rfl ⟨rfl, rfl⟩ dX12_wordOf_217
  by_cases c_37 : a0.toInt = 6
  · skip
    have r_38 := rg_of (a := 6) (b := 6) 6 c_37 (by decide) (by decide)
    refine g_tableIn C (tgt := 218) dX12_wordOf_1 (by omega) (by omega) (off := 217) (by rw [c_37]; rfl) (by decide) ?_
    refine g_bipush C (v := 99) dX12_wordOf_218 (by decide) ?_
    refine g_bipush C (v := 104) dX12_wordOf_220 (by decide) ?_
    refine g_bipush C (v := 105) dX12_wordOf_222 (by decide) ?_
    refine g_bipush C (v := 108) dX12_wordOf_224 (by decide) ?_
    refine g_bipush C (v := 100) dX12_wordOf_226 (by decide) ?_
    refine g_iconst C (v := 0) dX12_wordOf_228 (by decide) ?_
    refine g_iconst C (v := 0) dX12_wordOf_229 (by decide) ?_
    refine g_callSL C K (c_X12_spelt W9 99 104 105 108 100 0 0 (rg_w rc_99 (by decide) (by decide)) (rg_w rc_104 (by decide) (by decide)) (rg_w rc_105 (by decide) (by decide)) (rg_w rc_108 (by decide) (by decide)) (rg_w rc_100 (by decide) (by decide)) (rg_w rc_0 (by decide) (by decide)) (rg_w rc_0 (by decide) (by decide)) hU) s_12_132 rfl ⟨rfl, rfl⟩ ⟨Nat.le_of_ble_eq_true rfl, Nat.le_of_ble_eq_true rfl⟩ (Nat.le_of_ble_eq_true rfl) ⟨Nat.le_of_ble_eq_true rfl, Nat.le_of_ble_eq_true rfl⟩ dX12_wordOf_230 rfl (st := []) (fun x_39 I_40 J_41 h_42 => ?_)
    obtain ⟨rfl, rfl⟩ := h_42
    exact g_lret (r := x_39) B K rfl ⟨rfl, rfl⟩ dX12_wordOf_233
  by_cases c_43 : a0.toInt = 7
  · skip
    have r_44 := rg_of (a := 7) (b := 7) 7 c_43 (by decide) (by decide)
    refine g_tableIn C (tgt := 234) dX12_wordOf_1 (by omega) (by omega) (off := 233) (by rw [c_43]; rfl) (by decide) ?_
    refine g_bipush C (v := 108) dX12_wordOf_234 (by decide) ?_
    refine g_bipush C (v := 101) dX12_wordOf_236 (by decide) ?_
    refine g_bipush C (v := 97) dX12_wordOf_238 (by decide) ?_
    refine g_bipush C (v := 115) dX12_wordOf_240 (by decide) ?_
    refine g_bipush C (v := 116) dX12_wordOf_242 (by decide) ?_
    refine g_iconst C (v := 0) dX12_wordOf_244 (by decide) ?_
    refine g_iconst C (v := 0) dX12_wordOf_245 (by decide) ?_
    refine g_callSL C K (c_X12_spelt W9 108 101 97 115 116 0 0 (rg_w rc_108 (by decide) (by decide)) (rg_w rc_101 (by decide) (by decide)) (rg_w rc_97 (by decide) (by decide)) (rg_w rc_115 (by decide) (by decide)) (rg_w rc_116 (by decide) (by decide)) (rg_w rc_0 (by decide) (by decide)) (rg_w rc_0 (by decide) (by decide)) hU) s_12_132 rfl ⟨rfl, rfl⟩ ⟨Nat.le_of_ble_eq_true rfl, Nat.le_of_ble_eq_true rfl⟩ (Nat.le_of_ble_eq_true rfl) ⟨Nat.le_of_ble_eq_true rfl, Nat.le_of_ble_eq_true rfl⟩ dX12_wordOf_246 rfl (st := []) (fun x_45 I_46 J_47 h_48 => ?_)
    obtain ⟨rfl, rfl⟩ := h_48
    exact g_lret (r := x_45) B K rfl ⟨rfl, rfl⟩ dX12_wordOf_249
  by_cases c_49 : a0.toInt = 8
  · skip
    have r_50 := rg_of (a := 8) (b := 8) 8 c_49 (by decide) (by decide)
    refine g_tableIn C (tgt := 250) dX12_wordOf_1 (by omega) (by omega) (off := 249) (by rw [c_49]; rfl) (by decide) ?_
    refine g_bipush C (v := 100) dX12_wordOf_250 (by decide) ?_
    refine g_bipush C (v := 111) dX12_wordOf_252 (by decide) ?_
    refine g_bipush C (v := 103) dX12_wordOf_254 (by decide) ?_
    refine g_bipush C (v := 115) dX12_wordOf_256 (by decide) ?_
    refine g_iconst C (v := 0) dX12_wordOf_258 (by decide) ?_
    refine g_iconst C (v := 0) dX12_wordOf_259 (by decide) ?_
    refine g_iconst C (v := 0) dX12_wordOf_260 (by decide) ?_
    refine g_callSL C K (c_X12_spelt W9 100 111 103 115 0 0 0 (rg_w rc_100 (by decide) (by decide)) (rg_w rc_111 (by decide) (by decide)) (rg_w rc_103 (by decide) (by decide)) (rg_w rc_115 (by decide) (by decide)) (rg_w rc_0 (by decide) (by decide)) (rg_w rc_0 (by decide) (by decide)) (rg_w rc_0 (by decide) (by decide)) hU) s_12_132 rfl ⟨rfl, rfl⟩ ⟨Nat.le_of_ble_eq_true rfl, Nat.le_of_ble_eq_true rfl⟩ (Nat.le_of_ble_eq_true rfl) ⟨Nat.le_of_ble_eq_true rfl, Nat.le_of_ble_eq_true rfl⟩ dX12_wordOf_261 rfl (st := []) (fun x_51 I_52 J_53 h_54 => ?_)
    obtain ⟨rfl, rfl⟩ := h_54
    exact g_lret (r := x_51) B K rfl ⟨rfl, rfl⟩ dX12_wordOf_264
  by_cases c_55 : a0.toInt = 9
  · skip
    have r_56 := rg_of (a := 9) (b := 9) 9 c_55 (by decide) (by decide)
    refine g_tableIn C (tgt := 265) dX12_wordOf_1 (by omega) (by omega) (off := 264) (by rw [c_55]; rfl) (by decide) ?_
    refine g_bipush C (v := 101) dX12_wordOf_265 (by decide) ?_
    refine g_bipush C (v := 97) dX12_wordOf_267 (by decide) ?_
    refine g_bipush C (v := 116) dX12_wordOf_269 (by decide) ?_
    refine g_bipush C (v := 115) dX12_wordOf_271 (by decide) ?_
    refine g_iconst C (v := 0) dX12_wordOf_273 (by decide) ?_
    refine g_iconst C (v := 0) dX12_wordOf_274 (by decide) ?_
    refine g_iconst C (v := 0) dX12_wordOf_275 (by decide) ?_
    refine g_callSL C K (c_X12_spelt W9 101 97 116 115 0 0 0 (rg_w rc_101 (by decide) (by decide)) (rg_w rc_97 (by decide) (by decide)) (rg_w rc_116 (by decide) (by decide)) (rg_w rc_115 (by decide) (by decide)) (rg_w rc_0 (by decide) (by decide)) (rg_w rc_0 (by decide) (by decide)) (rg_w rc_0 (by decide) (by decide)) hU) s_12_132 rfl ⟨rfl, rfl⟩ ⟨Nat.le_of_ble_eq_true rfl, Nat.le_of_ble_eq_true rfl⟩ (Nat.le_of_ble_eq_true rfl) ⟨Nat.le_of_ble_eq_true rfl, Nat.le_of_ble_eq_true rfl⟩ dX12_wordOf_276 rfl (st := []) (fun x_57 I_58 J_59 h_60 => ?_)
    obtain ⟨rfl, rfl⟩ := h_60
    exact g_lret (r := x_57) B K rfl ⟨rfl, rfl⟩ dX12_wordOf_279
  by_cases c_61 : a0.toInt = 10
  · skip
    have r_62 := rg_of (a := 10) (b := 10) 10 c_61 (by decide) (by decide)
    refine g_tableIn C (tgt := 280) dX12_wordOf_1 (by omega) (by omega) (off := 279) (by rw [c_61]; rfl) (by decide) ?_
    refine g_bipush C (v := 115) dX12_wordOf_280 (by decide) ?_
    refine g_bipush C (v := 101) dX12_wordOf_282 (by decide) ?_
    refine g_bipush C (v := 114) dX12_wordOf_284 (by decide) ?_
    refine g_bipush C (v := 118) dX12_wordOf_286 (by decide) ?_
    refine g_bipush C (v := 101) dX12_wordOf_288 (by decide) ?_
    refine g_bipush C (v := 100) dX12_wordOf_290 (by decide) ?_
    refine g_iconst C (v := 0) dX12_wordOf_292 (by decide) ?_
    refine g_callSL C K (c_X12_spelt W9 115 101 114 118 101 100 0 (rg_w rc_115 (by decide) (by decide)) (rg_w rc_101 (by decide) (by decide)) (rg_w rc_114 (by decide) (by decide)) (rg_w rc_118 (by decide) (by decide)) (rg_w rc_101 (by decide) (by decide)) (rg_w rc_100 (by decide) (by decide)) (rg_w rc_0 (by decide) (by decide)) hU) s_12_132 rfl ⟨rfl, rfl⟩ ⟨Nat.le_of_ble_eq_true rfl, Nat.le_of_ble_eq_true rfl⟩ (Nat.le_of_ble_eq_true rfl) ⟨Nat.le_of_ble_eq_true rfl, Nat.le_of_ble_eq_true rfl⟩ dX12_wordOf_293 rfl (st := []) (fun x_63 I_64 J_65 h_66 => ?_)
    obtain ⟨rfl, rfl⟩ := h_66
    exact g_lret (r := x_63) B K rfl ⟨rfl, rfl⟩ dX12_wordOf_296
  by_cases c_67 : a0.toInt = 11
  · skip
    have r_68 := rg_of (a := 11) (b := 11) 11 c_67 (by decide) (by decide)
    refine g_tableIn C (tgt := 297) dX12_wordOf_1 (by omega) (by omega) (off := 296) (by rw [c_67]; rfl) (by decide) ?_
    refine g_bipush C (v := 114) dX12_wordOf_297 (by decide) ?_
    refine g_bipush C (v := 105) dX12_wordOf_299 (by decide) ?_
    refine g_bipush C (v := 115) dX12_wordOf_301 (by decide) ?_
    refine g_bipush C (v := 101) dX12_wordOf_303 (by decide) ?_
    refine g_bipush C (v := 115) dX12_wordOf_305 (by decide) ?_
    refine g_iconst C (v := 0) dX12_wordOf_307 (by decide) ?_
    refine g_iconst C (v := 0) dX12_wordOf_308 (by decide) ?_
    refine g_callSL C K (c_X12_spelt W9 114 105 115 101 115 0 0 (rg_w rc_114 (by decide) (by decide)) (rg_w rc_105 (by decide) (by decide)) (rg_w rc_115 (by decide) (by decide)) (rg_w rc_101 (by decide) (by decide)) (rg_w rc_115 (by decide) (by decide)) (rg_w rc_0 (by decide) (by decide)) (rg_w rc_0 (by decide) (by decide)) hU) s_12_132 rfl ⟨rfl, rfl⟩ ⟨Nat.le_of_ble_eq_true rfl, Nat.le_of_ble_eq_true rfl⟩ (Nat.le_of_ble_eq_true rfl) ⟨Nat.le_of_ble_eq_true rfl, Nat.le_of_ble_eq_true rfl⟩ dX12_wordOf_309 rfl (st := []) (fun x_69 I_70 J_71 h_72 => ?_)
    obtain ⟨rfl, rfl⟩ := h_72
    exact g_lret (r := x_69) B K rfl ⟨rfl, rfl⟩ dX12_wordOf_312
  by_cases c_73 : a0.toInt = 12
  · skip
    have r_74 := rg_of (a := 12) (b := 12) 12 c_73 (by decide) (by decide)
    refine g_tableIn C (tgt := 313) dX12_wordOf_1 (by omega) (by omega) (off := 312) (by rw [c_73]; rfl) (by decide) ?_
    refine g_bipush C (v := 114) dX12_wordOf_313 (by decide) ?_
    refine g_bipush C (v := 101) dX12_wordOf_315 (by decide) ?_
    refine g_bipush C (v := 102) dX12_wordOf_317 (by decide) ?_
    refine g_bipush C (v := 117) dX12_wordOf_319 (by decide) ?_
    refine g_bipush C (v := 115) dX12_wordOf_321 (by decide) ?_
    refine g_bipush C (v := 101) dX12_wordOf_323 (by decide) ?_
    refine g_bipush C (v := 115) dX12_wordOf_325 (by decide) ?_
    refine g_callSL C K (c_X12_spelt W9 114 101 102 117 115 101 115 (rg_w rc_114 (by decide) (by decide)) (rg_w rc_101 (by decide) (by decide)) (rg_w rc_102 (by decide) (by decide)) (rg_w rc_117 (by decide) (by decide)) (rg_w rc_115 (by decide) (by decide)) (rg_w rc_101 (by decide) (by decide)) (rg_w rc_115 (by decide) (by decide)) hU) s_12_132 rfl ⟨rfl, rfl⟩ ⟨Nat.le_of_ble_eq_true rfl, Nat.le_of_ble_eq_true rfl⟩ (Nat.le_of_ble_eq_true rfl) ⟨Nat.le_of_ble_eq_true rfl, Nat.le_of_ble_eq_true rfl⟩ dX12_wordOf_327 rfl (st := []) (fun x_75 I_76 J_77 h_78 => ?_)
    obtain ⟨rfl, rfl⟩ := h_78
    exact g_lret (r := x_75) B K rfl ⟨rfl, rfl⟩ dX12_wordOf_330
  by_cases c_79 : a0.toInt = 13
  · skip
    have r_80 := rg_of (a := 13) (b := 13) 13 c_79 (by decide) (by decide)
    refine g_tableIn C (tgt := 331) dX12_wordOf_1 (by omega) (by omega) (off := 330) (by rw [c_79]; rfl) (by decide) ?_
    refine g_bipush C (v := 97) dX12_wordOf_331 (by decide) ?_
    refine g_bipush C (v := 99) dX12_wordOf_333 (by decide) ?_
    refine g_bipush C (v := 99) dX12_wordOf_335 (by decide) ?_
    refine g_bipush C (v := 101) dX12_wordOf_337 (by decide) ?_
    refine g_bipush C (v := 112) dX12_wordOf_339 (by decide) ?_
    refine g_bipush C (v := 116) dX12_wordOf_341 (by decide) ?_
    refine g_bipush C (v := 115) dX12_wordOf_343 (by decide) ?_
    refine g_callSL C K (c_X12_spelt W9 97 99 99 101 112 116 115 (rg_w rc_97 (by decide) (by decide)) (rg_w rc_99 (by decide) (by decide)) (rg_w rc_99 (by decide) (by decide)) (rg_w rc_101 (by decide) (by decide)) (rg_w rc_112 (by decide) (by decide)) (rg_w rc_116 (by decide) (by decide)) (rg_w rc_115 (by decide) (by decide)) hU) s_12_132 rfl ⟨rfl, rfl⟩ ⟨Nat.le_of_ble_eq_true rfl, Nat.le_of_ble_eq_true rfl⟩ (Nat.le_of_ble_eq_true rfl) ⟨Nat.le_of_ble_eq_true rfl, Nat.le_of_ble_eq_true rfl⟩ dX12_wordOf_345 rfl (st := []) (fun x_81 I_82 J_83 h_84 => ?_)
    obtain ⟨rfl, rfl⟩ := h_84
    exact g_lret (r := x_81) B K rfl ⟨rfl, rfl⟩ dX12_wordOf_348
  by_cases c_85 : a0.toInt = 14
  · skip
    have r_86 := rg_of (a := 14) (b := 14) 14 c_85 (by decide) (by decide)
    refine g_tableIn C (tgt := 349) dX12_wordOf_1 (by omega) (by omega) (off := 348) (by rw [c_85]; rfl) (by decide) ?_
    refine g_bipush C (v := 100) dX12_wordOf_349 (by decide) ?_
    refine g_bipush C (v := 105) dX12_wordOf_351 (by decide) ?_
    refine g_bipush C (v := 101) dX12_wordOf_353 (by decide) ?_
    refine g_bipush C (v := 115) dX12_wordOf_355 (by decide) ?_
    refine g_iconst C (v := 0) dX12_wordOf_357 (by decide) ?_
    refine g_iconst C (v := 0) dX12_wordOf_358 (by decide) ?_
    refine g_iconst C (v := 0) dX12_wordOf_359 (by decide) ?_
    refine g_callSL C K (c_X12_spelt W9 100 105 101 115 0 0 0 (rg_w rc_100 (by decide) (by decide)) (rg_w rc_105 (by decide) (by decide)) (rg_w rc_101 (by decide) (by decide)) (rg_w rc_115 (by decide) (by decide)) (rg_w rc_0 (by decide) (by decide)) (rg_w rc_0 (by decide) (by decide)) (rg_w rc_0 (by decide) (by decide)) hU) s_12_132 rfl ⟨rfl, rfl⟩ ⟨Nat.le_of_ble_eq_true rfl, Nat.le_of_ble_eq_true rfl⟩ (Nat.le_of_ble_eq_true rfl) ⟨Nat.le_of_ble_eq_true rfl, Nat.le_of_ble_eq_true rfl⟩ dX12_wordOf_360 rfl (st := []) (fun x_87 I_88 J_89 h_90 => ?_)
    obtain ⟨rfl, rfl⟩ := h_90
    exact g_lret (r := x_87) B K rfl ⟨rfl, rfl⟩ dX12_wordOf_363
  by_cases c_91 : a0.toInt = 15
  · skip
    have r_92 := rg_of (a := 15) (b := 15) 15 c_91 (by decide) (by decide)
    refine g_tableIn C (tgt := 364) dX12_wordOf_1 (by omega) (by omega) (off := 363) (by rw [c_91]; rfl) (by decide) ?_
    refine g_bipush C (v := 109) dX12_wordOf_364 (by decide) ?_
    refine g_bipush C (v := 101) dX12_wordOf_366 (by decide) ?_
    refine g_bipush C (v := 97) dX12_wordOf_368 (by decide) ?_
    refine g_bipush C (v := 108) dX12_wordOf_370 (by decide) ?_
    refine g_iconst C (v := 0) dX12_wordOf_372 (by decide) ?_
    refine g_iconst C (v := 0) dX12_wordOf_373 (by decide) ?_
    refine g_iconst C (v := 0) dX12_wordOf_374 (by decide) ?_
    refine g_callSL C K (c_X12_spelt W9 109 101 97 108 0 0 0 (rg_w rc_109 (by decide) (by decide)) (rg_w rc_101 (by decide) (by decide)) (rg_w rc_97 (by decide) (by decide)) (rg_w rc_108 (by decide) (by decide)) (rg_w rc_0 (by decide) (by decide)) (rg_w rc_0 (by decide) (by decide)) (rg_w rc_0 (by decide) (by decide)) hU) s_12_132 rfl ⟨rfl, rfl⟩ ⟨Nat.le_of_ble_eq_true rfl, Nat.le_of_ble_eq_true rfl⟩ (Nat.le_of_ble_eq_true rfl) ⟨Nat.le_of_ble_eq_true rfl, Nat.le_of_ble_eq_true rfl⟩ dX12_wordOf_375 rfl (st := []) (fun x_93 I_94 J_95 h_96 => ?_)
    obtain ⟨rfl, rfl⟩ := h_96
    exact g_lret (r := x_93) B K rfl ⟨rfl, rfl⟩ dX12_wordOf_378
  by_cases c_97 : a0.toInt = 16
  · skip
    have r_98 := rg_of (a := 16) (b := 16) 16 c_97 (by decide) (by decide)
    refine g_tableIn C (tgt := 379) dX12_wordOf_1 (by omega) (by omega) (off := 378) (by rw [c_97]; rfl) (by decide) ?_
    refine g_bipush C (v := 111) dX12_wordOf_379 (by decide) ?_
    refine g_bipush C (v := 114) dX12_wordOf_381 (by decide) ?_
    refine g_iconst C (v := 0) dX12_wordOf_383 (by decide) ?_
    refine g_iconst C (v := 0) dX12_wordOf_384 (by decide) ?_
    refine g_iconst C (v := 0) dX12_wordOf_385 (by decide) ?_
    refine g_iconst C (v := 0) dX12_wordOf_386 (by decide) ?_
    refine g_iconst C (v := 0) dX12_wordOf_387 (by decide) ?_
    refine g_callSL C K (c_X12_spelt W9 111 114 0 0 0 0 0 (rg_w rc_111 (by decide) (by decide)) (rg_w rc_114 (by decide) (by decide)) (rg_w rc_0 (by decide) (by decide)) (rg_w rc_0 (by decide) (by decide)) (rg_w rc_0 (by decide) (by decide)) (rg_w rc_0 (by decide) (by decide)) (rg_w rc_0 (by decide) (by decide)) hU) s_12_132 rfl ⟨rfl, rfl⟩ ⟨Nat.le_of_ble_eq_true rfl, Nat.le_of_ble_eq_true rfl⟩ (Nat.le_of_ble_eq_true rfl) ⟨Nat.le_of_ble_eq_true rfl, Nat.le_of_ble_eq_true rfl⟩ dX12_wordOf_388 rfl (st := []) (fun x_99 I_100 J_101 h_102 => ?_)
    obtain ⟨rfl, rfl⟩ := h_102
    exact g_lret (r := x_99) B K rfl ⟨rfl, rfl⟩ dX12_wordOf_391
  by_cases c_103 : a0.toInt = 17
  · skip
    have r_104 := rg_of (a := 17) (b := 17) 17 c_103 (by decide) (by decide)
    refine g_tableIn C (tgt := 392) dX12_wordOf_1 (by omega) (by omega) (off := 391) (by rw [c_103]; rfl) (by decide) ?_
    refine g_bipush C (v := 97) dX12_wordOf_392 (by decide) ?_
    refine g_bipush C (v := 110) dX12_wordOf_394 (by decide) ?_
    refine g_bipush C (v := 100) dX12_wordOf_396 (by decide) ?_
    refine g_iconst C (v := 0) dX12_wordOf_398 (by decide) ?_
    refine g_iconst C (v := 0) dX12_wordOf_399 (by decide) ?_
    refine g_iconst C (v := 0) dX12_wordOf_400 (by decide) ?_
    refine g_iconst C (v := 0) dX12_wordOf_401 (by decide) ?_
    refine g_callSL C K (c_X12_spelt W9 97 110 100 0 0 0 0 (rg_w rc_97 (by decide) (by decide)) (rg_w rc_110 (by decide) (by decide)) (rg_w rc_100 (by decide) (by decide)) (rg_w rc_0 (by decide) (by decide)) (rg_w rc_0 (by decide) (by decide)) (rg_w rc_0 (by decide) (by decide)) (rg_w rc_0 (by decide) (by decide)) hU) s_12_132 rfl ⟨rfl, rfl⟩ ⟨Nat.le_of_ble_eq_true rfl, Nat.le_of_ble_eq_true rfl⟩ (Nat.le_of_ble_eq_true rfl) ⟨Nat.le_of_ble_eq_true rfl, Nat.le_of_ble_eq_true rfl⟩ dX12_wordOf_402 rfl (st := []) (fun x_105 I_106 J_107 h_108 => ?_)
    obtain ⟨rfl, rfl⟩ := h_108
    exact g_lret (r := x_105) B K rfl ⟨rfl, rfl⟩ dX12_wordOf_405
  by_cases c_109 : a0.toInt = 18
  · skip
    have r_110 := rg_of (a := 18) (b := 18) 18 c_109 (by decide) (by decide)
    refine g_tableIn C (tgt := 406) dX12_wordOf_1 (by omega) (by omega) (off := 405) (by rw [c_109]; rfl) (by decide) ?_
    refine g_bipush C (v := 110) dX12_wordOf_406 (by decide) ?_
    refine g_bipush C (v := 111) dX12_wordOf_408 (by decide) ?_
    refine g_bipush C (v := 116) dX12_wordOf_410 (by decide) ?_
    refine g_iconst C (v := 0) dX12_wordOf_412 (by decide) ?_
    refine g_iconst C (v := 0) dX12_wordOf_413 (by decide) ?_
    refine g_iconst C (v := 0) dX12_wordOf_414 (by decide) ?_
    refine g_iconst C (v := 0) dX12_wordOf_415 (by decide) ?_
    refine g_callSL C K (c_X12_spelt W9 110 111 116 0 0 0 0 (rg_w rc_110 (by decide) (by decide)) (rg_w rc_111 (by decide) (by decide)) (rg_w rc_116 (by decide) (by decide)) (rg_w rc_0 (by decide) (by decide)) (rg_w rc_0 (by decide) (by decide)) (rg_w rc_0 (by decide) (by decide)) (rg_w rc_0 (by decide) (by decide)) hU) s_12_132 rfl ⟨rfl, rfl⟩ ⟨Nat.le_of_ble_eq_true rfl, Nat.le_of_ble_eq_true rfl⟩ (Nat.le_of_ble_eq_true rfl) ⟨Nat.le_of_ble_eq_true rfl, Nat.le_of_ble_eq_true rfl⟩ dX12_wordOf_416 rfl (st := []) (fun x_111 I_112 J_113 h_114 => ?_)
    obtain ⟨rfl, rfl⟩ := h_114
    exact g_lret (r := x_111) B K rfl ⟨rfl, rfl⟩ dX12_wordOf_419
  by_cases c_115 : a0.toInt = 19
  · skip
    have r_116 := rg_of (a := 19) (b := 19) 19 c_115 (by decide) (by decide)
    refine g_tableIn C (tgt := 420) dX12_wordOf_1 (by omega) (by omega) (off := 419) (by rw [c_115]; rfl) (by decide) ?_
    refine g_bipush C (v := 100) dX12_wordOf_420 (by decide) ?_
    refine g_bipush C (v := 101) dX12_wordOf_422 (by decide) ?_
    refine g_bipush C (v := 97) dX12_wordOf_424 (by decide) ?_
    refine g_bipush C (v := 100) dX12_wordOf_426 (by decide) ?_
    refine g_iconst C (v := 0) dX12_wordOf_428 (by decide) ?_
    refine g_iconst C (v := 0) dX12_wordOf_429 (by decide) ?_
    refine g_iconst C (v := 0) dX12_wordOf_430 (by decide) ?_
    refine g_callSL C K (c_X12_spelt W9 100 101 97 100 0 0 0 (rg_w rc_100 (by decide) (by decide)) (rg_w rc_101 (by decide) (by decide)) (rg_w rc_97 (by decide) (by decide)) (rg_w rc_100 (by decide) (by decide)) (rg_w rc_0 (by decide) (by decide)) (rg_w rc_0 (by decide) (by decide)) (rg_w rc_0 (by decide) (by decide)) hU) s_12_132 rfl ⟨rfl, rfl⟩ ⟨Nat.le_of_ble_eq_true rfl, Nat.le_of_ble_eq_true rfl⟩ (Nat.le_of_ble_eq_true rfl) ⟨Nat.le_of_ble_eq_true rfl, Nat.le_of_ble_eq_true rfl⟩ dX12_wordOf_431 rfl (st := []) (fun x_117 I_118 J_119 h_120 => ?_)
    obtain ⟨rfl, rfl⟩ := h_120
    exact g_lret (r := x_117) B K rfl ⟨rfl, rfl⟩ dX12_wordOf_434
  by_cases c_121 : a0.toInt = 20
  · skip
    have r_122 := rg_of (a := 20) (b := 20) 20 c_121 (by decide) (by decide)
    refine g_tableIn C (tgt := 435) dX12_wordOf_1 (by omega) (by omega) (off := 434) (by rw [c_121]; rfl) (by decide) ?_
    refine g_bipush C (v := 114) dX12_wordOf_435 (by decide) ?_
    refine g_bipush C (v := 101) dX12_wordOf_437 (by decide) ?_
    refine g_bipush C (v := 102) dX12_wordOf_439 (by decide) ?_
    refine g_bipush C (v := 117) dX12_wordOf_441 (by decide) ?_
    refine g_bipush C (v := 115) dX12_wordOf_443 (by decide) ?_
    refine g_bipush C (v := 101) dX12_wordOf_445 (by decide) ?_
    refine g_bipush C (v := 100) dX12_wordOf_447 (by decide) ?_
    refine g_callSL C K (c_X12_spelt W9 114 101 102 117 115 101 100 (rg_w rc_114 (by decide) (by decide)) (rg_w rc_101 (by decide) (by decide)) (rg_w rc_102 (by decide) (by decide)) (rg_w rc_117 (by decide) (by decide)) (rg_w rc_115 (by decide) (by decide)) (rg_w rc_101 (by decide) (by decide)) (rg_w rc_100 (by decide) (by decide)) hU) s_12_132 rfl ⟨rfl, rfl⟩ ⟨Nat.le_of_ble_eq_true rfl, Nat.le_of_ble_eq_true rfl⟩ (Nat.le_of_ble_eq_true rfl) ⟨Nat.le_of_ble_eq_true rfl, Nat.le_of_ble_eq_true rfl⟩ dX12_wordOf_449 rfl (st := []) (fun x_123 I_124 J_125 h_126 => ?_)
    obtain ⟨rfl, rfl⟩ := h_126
    exact g_lret (r := x_123) B K rfl ⟨rfl, rfl⟩ dX12_wordOf_452
  by_cases c_127 : a0.toInt = 21
  · skip
    have r_128 := rg_of (a := 21) (b := 21) 21 c_127 (by decide) (by decide)
    refine g_tableIn C (tgt := 453) dX12_wordOf_1 (by omega) (by omega) (off := 452) (by rw [c_127]; rfl) (by decide) ?_
    refine g_bipush C (v := 99) dX12_wordOf_453 (by decide) ?_
    refine g_bipush C (v := 108) dX12_wordOf_455 (by decide) ?_
    refine g_bipush C (v := 101) dX12_wordOf_457 (by decide) ?_
    refine g_bipush C (v := 97) dX12_wordOf_459 (by decide) ?_
    refine g_bipush C (v := 110) dX12_wordOf_461 (by decide) ?_
    refine g_iconst C (v := 0) dX12_wordOf_463 (by decide) ?_
    refine g_iconst C (v := 0) dX12_wordOf_464 (by decide) ?_
    refine g_callSL C K (c_X12_spelt W9 99 108 101 97 110 0 0 (rg_w rc_99 (by decide) (by decide)) (rg_w rc_108 (by decide) (by decide)) (rg_w rc_101 (by decide) (by decide)) (rg_w rc_97 (by decide) (by decide)) (rg_w rc_110 (by decide) (by decide)) (rg_w rc_0 (by decide) (by decide)) (rg_w rc_0 (by decide) (by decide)) hU) s_12_132 rfl ⟨rfl, rfl⟩ ⟨Nat.le_of_ble_eq_true rfl, Nat.le_of_ble_eq_true rfl⟩ (Nat.le_of_ble_eq_true rfl) ⟨Nat.le_of_ble_eq_true rfl, Nat.le_of_ble_eq_true rfl⟩ dX12_wordOf_465 rfl (st := []) (fun x_129 I_130 J_131 h_132 => ?_)
    obtain ⟨rfl, rfl⟩ := h_132
    exact g_lret (r := x_129) B K rfl ⟨rfl, rfl⟩ dX12_wordOf_468
  by_cases c_133 : a0.toInt = 22
  · skip
    have r_134 := rg_of (a := 22) (b := 22) 22 c_133 (by decide) (by decide)
    refine g_tableIn C (tgt := 469) dX12_wordOf_1 (by omega) (by omega) (off := 468) (by rw [c_133]; rfl) (by decide) ?_
    refine g_bipush C (v := 111) dX12_wordOf_469 (by decide) ?_
    refine g_bipush C (v := 102) dX12_wordOf_471 (by decide) ?_
    refine g_iconst C (v := 0) dX12_wordOf_473 (by decide) ?_
    refine g_iconst C (v := 0) dX12_wordOf_474 (by decide) ?_
    refine g_iconst C (v := 0) dX12_wordOf_475 (by decide) ?_
    refine g_iconst C (v := 0) dX12_wordOf_476 (by decide) ?_
    refine g_iconst C (v := 0) dX12_wordOf_477 (by decide) ?_
    refine g_callSL C K (c_X12_spelt W9 111 102 0 0 0 0 0 (rg_w rc_111 (by decide) (by decide)) (rg_w rc_102 (by decide) (by decide)) (rg_w rc_0 (by decide) (by decide)) (rg_w rc_0 (by decide) (by decide)) (rg_w rc_0 (by decide) (by decide)) (rg_w rc_0 (by decide) (by decide)) (rg_w rc_0 (by decide) (by decide)) hU) s_12_132 rfl ⟨rfl, rfl⟩ ⟨Nat.le_of_ble_eq_true rfl, Nat.le_of_ble_eq_true rfl⟩ (Nat.le_of_ble_eq_true rfl) ⟨Nat.le_of_ble_eq_true rfl, Nat.le_of_ble_eq_true rfl⟩ dX12_wordOf_478 rfl (st := []) (fun x_135 I_136 J_137 h_138 => ?_)
    obtain ⟨rfl, rfl⟩ := h_138
    exact g_lret (r := x_135) B K rfl ⟨rfl, rfl⟩ dX12_wordOf_481
  by_cases c_139 : a0.toInt = 23
  · skip
    have r_140 := rg_of (a := 23) (b := 23) 23 c_139 (by decide) (by decide)
    refine g_tableIn C (tgt := 482) dX12_wordOf_1 (by omega) (by omega) (off := 481) (by rw [c_139]; rfl) (by decide) ?_
    refine g_bipush C (v := 104) dX12_wordOf_482 (by decide) ?_
    refine g_bipush C (v := 97) dX12_wordOf_484 (by decide) ?_
    refine g_bipush C (v := 115) dX12_wordOf_486 (by decide) ?_
    refine g_iconst C (v := 0) dX12_wordOf_488 (by decide) ?_
    refine g_iconst C (v := 0) dX12_wordOf_489 (by decide) ?_
    refine g_iconst C (v := 0) dX12_wordOf_490 (by decide) ?_
    refine g_iconst C (v := 0) dX12_wordOf_491 (by decide) ?_
    refine g_callSL C K (c_X12_spelt W9 104 97 115 0 0 0 0 (rg_w rc_104 (by decide) (by decide)) (rg_w rc_97 (by decide) (by decide)) (rg_w rc_115 (by decide) (by decide)) (rg_w rc_0 (by decide) (by decide)) (rg_w rc_0 (by decide) (by decide)) (rg_w rc_0 (by decide) (by decide)) (rg_w rc_0 (by decide) (by decide)) hU) s_12_132 rfl ⟨rfl, rfl⟩ ⟨Nat.le_of_ble_eq_true rfl, Nat.le_of_ble_eq_true rfl⟩ (Nat.le_of_ble_eq_true rfl) ⟨Nat.le_of_ble_eq_true rfl, Nat.le_of_ble_eq_true rfl⟩ dX12_wordOf_492 rfl (st := []) (fun x_141 I_142 J_143 h_144 => ?_)
    obtain ⟨rfl, rfl⟩ := h_144
    exact g_lret (r := x_141) B K rfl ⟨rfl, rfl⟩ dX12_wordOf_495
  by_cases c_145 : a0.toInt = 24
  · skip
    have r_146 := rg_of (a := 24) (b := 24) 24 c_145 (by decide) (by decide)
    refine g_tableIn C (tgt := 496) dX12_wordOf_1 (by omega) (by omega) (off := 495) (by rw [c_145]; rfl) (by decide) ?_
    refine g_bipush C (v := 119) dX12_wordOf_496 (by decide) ?_
    refine g_bipush C (v := 97) dX12_wordOf_498 (by decide) ?_
    refine g_bipush C (v := 110) dX12_wordOf_500 (by decide) ?_
    refine g_bipush C (v := 116) dX12_wordOf_502 (by decide) ?_
    refine g_bipush C (v := 115) dX12_wordOf_504 (by decide) ?_
    refine g_iconst C (v := 0) dX12_wordOf_506 (by decide) ?_
    refine g_iconst C (v := 0) dX12_wordOf_507 (by decide) ?_
    refine g_callSL C K (c_X12_spelt W9 119 97 110 116 115 0 0 (rg_w rc_119 (by decide) (by decide)) (rg_w rc_97 (by decide) (by decide)) (rg_w rc_110 (by decide) (by decide)) (rg_w rc_116 (by decide) (by decide)) (rg_w rc_115 (by decide) (by decide)) (rg_w rc_0 (by decide) (by decide)) (rg_w rc_0 (by decide) (by decide)) hU) s_12_132 rfl ⟨rfl, rfl⟩ ⟨Nat.le_of_ble_eq_true rfl, Nat.le_of_ble_eq_true rfl⟩ (Nat.le_of_ble_eq_true rfl) ⟨Nat.le_of_ble_eq_true rfl, Nat.le_of_ble_eq_true rfl⟩ dX12_wordOf_508 rfl (st := []) (fun x_147 I_148 J_149 h_150 => ?_)
    obtain ⟨rfl, rfl⟩ := h_150
    exact g_lret (r := x_147) B K rfl ⟨rfl, rfl⟩ dX12_wordOf_511
  by_cases c_151 : a0.toInt = 25
  · skip
    have r_152 := rg_of (a := 25) (b := 25) 25 c_151 (by decide) (by decide)
    refine g_tableIn C (tgt := 512) dX12_wordOf_1 (by omega) (by omega) (off := 511) (by rw [c_151]; rfl) (by decide) ?_
    refine g_bipush C (v := 101) dX12_wordOf_512 (by decide) ?_
    refine g_bipush C (v := 97) dX12_wordOf_514 (by decide) ?_
    refine g_bipush C (v := 116) dX12_wordOf_516 (by decide) ?_
    refine g_bipush C (v := 101) dX12_wordOf_518 (by decide) ?_
    refine g_bipush C (v := 110) dX12_wordOf_520 (by decide) ?_
    refine g_iconst C (v := 0) dX12_wordOf_522 (by decide) ?_
    refine g_iconst C (v := 0) dX12_wordOf_523 (by decide) ?_
    refine g_callSL C K (c_X12_spelt W9 101 97 116 101 110 0 0 (rg_w rc_101 (by decide) (by decide)) (rg_w rc_97 (by decide) (by decide)) (rg_w rc_116 (by decide) (by decide)) (rg_w rc_101 (by decide) (by decide)) (rg_w rc_110 (by decide) (by decide)) (rg_w rc_0 (by decide) (by decide)) (rg_w rc_0 (by decide) (by decide)) hU) s_12_132 rfl ⟨rfl, rfl⟩ ⟨Nat.le_of_ble_eq_true rfl, Nat.le_of_ble_eq_true rfl⟩ (Nat.le_of_ble_eq_true rfl) ⟨Nat.le_of_ble_eq_true rfl, Nat.le_of_ble_eq_true rfl⟩ dX12_wordOf_524 rfl (st := []) (fun x_153 I_154 J_155 h_156 => ?_)
    obtain ⟨rfl, rfl⟩ := h_156
    exact g_lret (r := x_153) B K rfl ⟨rfl, rfl⟩ dX12_wordOf_527
  by_cases c_157 : a0.toInt = 26
  · skip
    have r_158 := rg_of (a := 26) (b := 26) 26 c_157 (by decide) (by decide)
    refine g_tableIn C (tgt := 528) dX12_wordOf_1 (by omega) (by omega) (off := 527) (by rw [c_157]; rfl) (by decide) ?_
    refine g_bipush C (v := 104) dX12_wordOf_528 (by decide) ?_
    refine g_bipush C (v := 117) dX12_wordOf_530 (by decide) ?_
    refine g_bipush C (v := 110) dX12_wordOf_532 (by decide) ?_
    refine g_bipush C (v := 103) dX12_wordOf_534 (by decide) ?_
    refine g_bipush C (v := 101) dX12_wordOf_536 (by decide) ?_
    refine g_bipush C (v := 114) dX12_wordOf_538 (by decide) ?_
    refine g_iconst C (v := 0) dX12_wordOf_540 (by decide) ?_
    refine g_callSL C K (c_X12_spelt W9 104 117 110 103 101 114 0 (rg_w rc_104 (by decide) (by decide)) (rg_w rc_117 (by decide) (by decide)) (rg_w rc_110 (by decide) (by decide)) (rg_w rc_103 (by decide) (by decide)) (rg_w rc_101 (by decide) (by decide)) (rg_w rc_114 (by decide) (by decide)) (rg_w rc_0 (by decide) (by decide)) hU) s_12_132 rfl ⟨rfl, rfl⟩ ⟨Nat.le_of_ble_eq_true rfl, Nat.le_of_ble_eq_true rfl⟩ (Nat.le_of_ble_eq_true rfl) ⟨Nat.le_of_ble_eq_true rfl, Nat.le_of_ble_eq_true rfl⟩ dX12_wordOf_541 rfl (st := []) (fun x_159 I_160 J_161 h_162 => ?_)
    obtain ⟨rfl, rfl⟩ := h_162
    exact g_lret (r := x_159) B K rfl ⟨rfl, rfl⟩ dX12_wordOf_544
  have n_164 : ¬ a0 = 0 := (fun q => c_1 (by rw [q]; decide))
  have r_165 := ne_lo (lo := 1) n_164 ra0 rc_0 rfl (by decide)
  have n_166 : ¬ a0 = 1 := (fun q => c_7 (by rw [q]; decide))
  have r_167 := ne_lo (lo := 2) n_166 r_165 rc_1 rfl (by decide)
  have n_168 : ¬ a0 = 2 := (fun q => c_13 (by rw [q]; decide))
  have r_169 := ne_lo (lo := 3) n_168 r_167 rc_2 rfl (by decide)
  have n_170 : ¬ a0 = 3 := (fun q => c_19 (by rw [q]; decide))
  have r_171 := ne_lo (lo := 4) n_170 r_169 rc_3 rfl (by decide)
  have n_172 : ¬ a0 = 4 := (fun q => c_25 (by rw [q]; decide))
  have r_173 := ne_lo (lo := 5) n_172 r_171 rc_4 rfl (by decide)
  have n_174 : ¬ a0 = 5 := (fun q => c_31 (by rw [q]; decide))
  have r_175 := ne_lo (lo := 6) n_174 r_173 rc_5 rfl (by decide)
  have n_176 : ¬ a0 = 6 := (fun q => c_37 (by rw [q]; decide))
  have r_177 := ne_lo (lo := 7) n_176 r_175 rc_6 rfl (by decide)
  have n_178 : ¬ a0 = 7 := (fun q => c_43 (by rw [q]; decide))
  have r_179 := ne_lo (lo := 8) n_178 r_177 rc_7 rfl (by decide)
  have n_180 : ¬ a0 = 8 := (fun q => c_49 (by rw [q]; decide))
  have r_181 := ne_lo (lo := 9) n_180 r_179 rc_8 rfl (by decide)
  have n_182 : ¬ a0 = 9 := (fun q => c_55 (by rw [q]; decide))
  have r_183 := ne_lo (lo := 10) n_182 r_181 rc_9 rfl (by decide)
  have n_184 : ¬ a0 = 10 := (fun q => c_61 (by rw [q]; decide))
  have r_185 := ne_lo (lo := 11) n_184 r_183 rc_10 rfl (by decide)
  have n_186 : ¬ a0 = 11 := (fun q => c_67 (by rw [q]; decide))
  have r_187 := ne_lo (lo := 12) n_186 r_185 rc_11 rfl (by decide)
  have n_188 : ¬ a0 = 12 := (fun q => c_73 (by rw [q]; decide))
  have r_189 := ne_lo (lo := 13) n_188 r_187 rc_12 rfl (by decide)
  have n_190 : ¬ a0 = 13 := (fun q => c_79 (by rw [q]; decide))
  have r_191 := ne_lo (lo := 14) n_190 r_189 rc_13 rfl (by decide)
  have n_192 : ¬ a0 = 14 := (fun q => c_85 (by rw [q]; decide))
  have r_193 := ne_lo (lo := 15) n_192 r_191 rc_14 rfl (by decide)
  have n_194 : ¬ a0 = 15 := (fun q => c_91 (by rw [q]; decide))
  have r_195 := ne_lo (lo := 16) n_194 r_193 rc_15 rfl (by decide)
  have n_196 : ¬ a0 = 16 := (fun q => c_97 (by rw [q]; decide))
  have r_197 := ne_lo (lo := 17) n_196 r_195 rc_16 rfl (by decide)
  have n_198 : ¬ a0 = 17 := (fun q => c_103 (by rw [q]; decide))
  have r_199 := ne_lo (lo := 18) n_198 r_197 rc_17 rfl (by decide)
  have n_200 : ¬ a0 = 18 := (fun q => c_109 (by rw [q]; decide))
  have r_201 := ne_lo (lo := 19) n_200 r_199 rc_18 rfl (by decide)
  have n_202 : ¬ a0 = 19 := (fun q => c_115 (by rw [q]; decide))
  have r_203 := ne_lo (lo := 20) n_202 r_201 rc_19 rfl (by decide)
  have n_204 : ¬ a0 = 20 := (fun q => c_121 (by rw [q]; decide))
  have r_205 := ne_lo (lo := 21) n_204 r_203 rc_20 rfl (by decide)
  have n_206 : ¬ a0 = 21 := (fun q => c_127 (by rw [q]; decide))
  have r_207 := ne_lo (lo := 22) n_206 r_205 rc_21 rfl (by decide)
  have n_208 : ¬ a0 = 22 := (fun q => c_133 (by rw [q]; decide))
  have r_209 := ne_lo (lo := 23) n_208 r_207 rc_22 rfl (by decide)
  have n_210 : ¬ a0 = 23 := (fun q => c_139 (by rw [q]; decide))
  have r_211 := ne_lo (lo := 24) n_210 r_209 rc_23 rfl (by decide)
  have n_212 : ¬ a0 = 24 := (fun q => c_145 (by rw [q]; decide))
  have r_213 := ne_lo (lo := 25) n_212 r_211 rc_24 rfl (by decide)
  have n_214 : ¬ a0 = 25 := (fun q => c_151 (by rw [q]; decide))
  have r_215 := ne_lo (lo := 26) n_214 r_213 rc_25 rfl (by decide)
  have n_216 : ¬ a0 = 26 := (fun q => c_157 (by rw [q]; decide))
  have r_217 := ne_lo (lo := 27) n_216 r_215 rc_26 rfl (by decide)
  obtain ⟨q_1631, q_1632⟩ := id (r_217)
  refine g_tableOut C (tgt := 545) dX12_wordOf_1 (by omega) (by decide) ?_
  refine g_bipush C (v := 110) dX12_wordOf_545 (by decide) ?_
  refine g_bipush C (v := 117) dX12_wordOf_547 (by decide) ?_
  refine g_bipush C (v := 109) dX12_wordOf_549 (by decide) ?_
  refine g_bipush C (v := 98) dX12_wordOf_551 (by decide) ?_
  refine g_bipush C (v := 101) dX12_wordOf_553 (by decide) ?_
  refine g_bipush C (v := 114) dX12_wordOf_555 (by decide) ?_
  refine g_iconst C (v := 0) dX12_wordOf_557 (by decide) ?_
  refine g_callSL C K (c_X12_spelt W9 110 117 109 98 101 114 0 (rg_w rc_110 (by decide) (by decide)) (rg_w rc_117 (by decide) (by decide)) (rg_w rc_109 (by decide) (by decide)) (rg_w rc_98 (by decide) (by decide)) (rg_w rc_101 (by decide) (by decide)) (rg_w rc_114 (by decide) (by decide)) (rg_w rc_0 (by decide) (by decide)) hU) s_12_132 rfl ⟨rfl, rfl⟩ ⟨Nat.le_of_ble_eq_true rfl, Nat.le_of_ble_eq_true rfl⟩ (Nat.le_of_ble_eq_true rfl) ⟨Nat.le_of_ble_eq_true rfl, Nat.le_of_ble_eq_true rfl⟩ dX12_wordOf_558 rfl (st := []) (fun x_218 I_219 J_220 h_221 => ?_)
  obtain ⟨rfl, rfl⟩ := h_221
  exact g_lret (r := x_218) B K rfl ⟨rfl, rfl⟩ dX12_wordOf_561
