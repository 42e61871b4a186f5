theorem dX12_bad_0 : decode cX12_bad 0 = .ok (.aload_n 0, 1) := by decide +kernel
theorem dX12_bad_1 : decode cX12_bad 1 = .ok (.aload_n 0, 1) := by decide +kernel
theorem dX12_bad_2 : decode cX12_bad 2 = .ok (.getfield 104, 3) := by decide +kernel
theorem dX12_bad_5 : decode cX12_bad 5 = .ok (.iconst 1, 1) := by decide +kernel
theorem dX12_bad_6 : decode cX12_bad 6 = .ok (.if_icmp .ne 7, 3) := by decide +kernel
theorem dX12_bad_9 : decode cX12_bad 9 = .ok (.iconst 1, 1) := by decide +kernel
theorem dX12_bad_10 : decode cX12_bad 10 = .ok (.goto 4, 3) := by decide +kernel
theorem dX12_bad_13 : decode cX12_bad 13 = .ok (.iload_n 1, 1) := by decide +kernel
theorem dX12_bad_14 : decode cX12_bad 14 = .ok (.putfield 140, 3) := by decide +kernel
theorem dX12_bad_17 : decode cX12_bad 17 = .ok (.aload_n 0, 1) := by decide +kernel
theorem dX12_bad_18 : decode cX12_bad 18 = .ok (.aload_n 0, 1) := by decide +kernel
theorem dX12_bad_19 : decode cX12_bad 19 = .ok (.getfield 98, 3) := by decide +kernel
theorem dX12_bad_22 : decode cX12_bad 22 = .ok (.putfield 143, 3) := by decide +kernel
theorem dX12_bad_25 : decode cX12_bad 25 = .ok (.iconst 0, 1) := by decide +kernel
theorem dX12_bad_26 : decode cX12_bad 26 = .ok (.ireturn, 1) := by decide +kernel
theorem dX12_begin_0 : decode cX12_begin 0 = .ok (.aload_n 0, 1) := by decide +kernel
theorem dX12_begin_1 : decode cX12_begin 1 = .ok (.iconst 0, 1) := by decide +kernel
theorem dX12_begin_2 : decode cX12_begin 2 = .ok (.putfield 82, 3) := by decide +kernel
theorem dX12_begin_5 : decode cX12_begin 5 = .ok (.aload_n 0, 1) := by decide +kernel
theorem dX12_begin_6 : decode cX12_begin 6 = .ok (.aload_n 0, 1) := by decide +kernel
theorem dX12_begin_7 : decode cX12_begin 7 = .ok (.invokevirtual 162, 3) := by decide +kernel
theorem dX12_begin_10 : decode cX12_begin 10 = .ok (.putfield 92, 3) := by decide +kernel
theorem dX12_begin_13 : decode cX12_begin 13 = .ok (.aload_n 0, 1) := by decide +kernel
theorem dX12_begin_14 : decode cX12_begin 14 = .ok (.iload_n 1, 1) := by decide +kernel
theorem dX12_begin_15 : decode cX12_begin 15 = .ok (.putfield 101, 3) := by decide +kernel
theorem dX12_begin_18 : decode cX12_begin 18 = .ok (.aload_n 0, 1) := by decide +kernel
theorem dX12_begin_19 : decode cX12_begin 19 = .ok (.iconst 0, 1) := by decide +kernel
theorem dX12_begin_20 : decode cX12_begin 20 = .ok (.putfield 140, 3) := by decide +kernel
theorem dX12_begin_23 : decode cX12_begin 23 = .ok (.aload_n 0, 1) := by decide +kernel
theorem dX12_begin_24 : decode cX12_begin 24 = .ok (.iconst 0, 1) := by decide +kernel
theorem dX12_begin_25 : decode cX12_begin 25 = .ok (.putfield 95, 3) := by decide +kernel
theorem dX12_begin_28 : decode cX12_begin 28 = .ok (.aload_n 0, 1) := by decide +kernel
theorem dX12_begin_29 : decode cX12_begin 29 = .ok (.invokevirtual 156, 3) := by decide +kernel
theorem dX12_begin_32 : decode cX12_begin 32 = .ok (.return_, 1) := by decide +kernel
theorem dX12_come_0 : decode cX12_come 0 = .ok (.bipush 24, 2) := by decide +kernel
theorem dX12_come_2 : decode cX12_come 2 = .ok (.istore_n 2, 1) := by decide +kernel
theorem dX12_come_3 : decode cX12_come 3 = .ok (.iload_n 2, 1) := by decide +kernel
theorem dX12_come_4 : decode cX12_come 4 = .ok (.ifCond .lt 35, 3) := by decide +kernel
theorem dX12_come_7 : decode cX12_come 7 = .ok (.aload_n 0, 1) := by decide +kernel
theorem dX12_come_8 : decode cX12_come 8 = .ok (.getfield 7, 3) := by decide +kernel
theorem dX12_come_11 : decode cX12_come 11 = .ok (.aload_n 0, 1) := by decide +kernel
theorem dX12_come_12 : decode cX12_come 12 = .ok (.getfield 85, 3) := by decide +kernel
theorem dX12_come_15 : decode cX12_come 15 = .ok (.iload_n 1, 1) := by decide +kernel
theorem dX12_come_16 : decode cX12_come 16 = .ok (.iload_n 2, 1) := by decide +kernel
theorem dX12_come_17 : decode cX12_come 17 = .ok (.iushr, 1) := by decide +kernel
theorem dX12_come_18 : decode cX12_come 18 = .ok (.sipush 255, 3) := by decide +kernel
theorem dX12_come_21 : decode cX12_come 21 = .ok (.iand, 1) := by decide +kernel
theorem dX12_come_22 : decode cX12_come 22 = .ok (.iastore, 1) := by decide +kernel
theorem dX12_come_23 : decode cX12_come 23 = .ok (.aload_n 0, 1) := by decide +kernel
theorem dX12_come_24 : decode cX12_come 24 = .ok (.dup, 1) := by decide +kernel
theorem dX12_come_25 : decode cX12_come 25 = .ok (.getfield 85, 3) := by decide +kernel
theorem dX12_come_28 : decode cX12_come 28 = .ok (.iconst 1, 1) := by decide +kernel
theorem dX12_come_29 : decode cX12_come 29 = .ok (.iadd, 1) := by decide +kernel
theorem dX12_come_30 : decode cX12_come 30 = .ok (.putfield 85, 3) := by decide +kernel
theorem dX12_come_33 : decode cX12_come 33 = .ok (.iinc 2 (-8), 3) := by decide +kernel
theorem dX12_come_36 : decode cX12_come 36 = .ok (.goto (-33), 3) := by decide +kernel
theorem dX12_come_39 : decode cX12_come 39 = .ok (.return_, 1) := by decide +kernel
theorem dX12_end_0 : decode cX12_end 0 = .ok (.aload_n 0, 1) := by decide +kernel
theorem dX12_end_1 : decode cX12_end 1 = .ok (.iconst 0, 1) := by decide +kernel
theorem dX12_end_2 : decode cX12_end 2 = .ok (.putfield 82, 3) := by decide +kernel
theorem dX12_end_5 : decode cX12_end 5 = .ok (.iload_n 1, 1) := by decide +kernel
theorem dX12_end_6 : decode cX12_end 6 = .ok (.ifCond .lt 11, 3) := by decide +kernel
theorem dX12_end_9 : decode cX12_end 9 = .ok (.iload_n 1, 1) := by decide +kernel
theorem dX12_end_10 : decode cX12_end 10 = .ok (.aload_n 0, 1) := by decide +kernel
theorem dX12_end_11 : decode cX12_end 11 = .ok (.getfield 85, 3) := by decide +kernel
theorem dX12_end_14 : decode cX12_end 14 = .ok (.if_icmp .le 5, 3) := by decide +kernel
theorem dX12_end_17 : decode cX12_end 17 = .ok (.iconst 0, 1) := by decide +kernel
theorem dX12_end_18 : decode cX12_end 18 = .ok (.ireturn, 1) := by decide +kernel
theorem dX12_end_19 : decode cX12_end 19 = .ok (.aload_n 0, 1) := by decide +kernel
theorem dX12_end_20 : decode cX12_end 20 = .ok (.iload_n 1, 1) := by decide +kernel
theorem dX12_end_21 : decode cX12_end 21 = .ok (.putfield 85, 3) := by decide +kernel
theorem dX12_end_24 : decode cX12_end 24 = .ok (.iconst 1, 1) := by decide +kernel
theorem dX12_end_25 : decode cX12_end 25 = .ok (.ireturn, 1) := by decide +kernel
theorem dX12_feed_0 : decode cX12_feed 0 = .ok (.aload_n 0, 1) := by decide +kernel
theorem dX12_feed_1 : decode cX12_feed 1 = .ok (.iconst 0, 1) := by decide +kernel
theorem dX12_feed_2 : decode cX12_feed 2 = .ok (.putfield 82, 3) := by decide +kernel
theorem dX12_feed_5 : decode cX12_feed 5 = .ok (.aload_n 0, 1) := by decide +kernel
theorem dX12_feed_6 : decode cX12_feed 6 = .ok (.getfield 85, 3) := by decide +kernel
theorem dX12_feed_9 : decode cX12_feed 9 = .ok (.bipush 20, 2) := by decide +kernel
theorem dX12_feed_11 : decode cX12_feed 11 = .ok (.iadd, 1) := by decide +kernel
theorem dX12_feed_12 : decode cX12_feed 12 = .ok (.sipush 940, 3) := by decide +kernel
theorem dX12_feed_15 : decode cX12_feed 15 = .ok (.if_icmp .le 5, 3) := by decide +kernel
theorem dX12_feed_18 : decode cX12_feed 18 = .ok (.iconst (-1), 1) := by decide +kernel
theorem dX12_feed_19 : decode cX12_feed 19 = .ok (.ireturn, 1) := by decide +kernel
theorem dX12_feed_20 : decode cX12_feed 20 = .ok (.aload_n 0, 1) := by decide +kernel
theorem dX12_feed_21 : decode cX12_feed 21 = .ok (.iload_n 1, 1) := by decide +kernel
theorem dX12_feed_22 : decode cX12_feed 22 = .ok (.invokevirtual 88, 3) := by decide +kernel
theorem dX12_feed_25 : decode cX12_feed 25 = .ok (.aload_n 0, 1) := by decide +kernel
theorem dX12_feed_26 : decode cX12_feed 26 = .ok (.iload_n 2, 1) := by decide +kernel
theorem dX12_feed_27 : decode cX12_feed 27 = .ok (.invokevirtual 88, 3) := by decide +kernel
theorem dX12_feed_30 : decode cX12_feed 30 = .ok (.aload_n 0, 1) := by decide +kernel
theorem dX12_feed_31 : decode cX12_feed 31 = .ok (.iload_n 3, 1) := by decide +kernel
theorem dX12_feed_32 : decode cX12_feed 32 = .ok (.invokevirtual 88, 3) := by decide +kernel
theorem dX12_feed_35 : decode cX12_feed 35 = .ok (.aload_n 0, 1) := by decide +kernel
theorem dX12_feed_36 : decode cX12_feed 36 = .ok (.iload 4, 2) := by decide +kernel
theorem dX12_feed_38 : decode cX12_feed 38 = .ok (.invokevirtual 88, 3) := by decide +kernel
theorem dX12_feed_41 : decode cX12_feed 41 = .ok (.aload_n 0, 1) := by decide +kernel
theorem dX12_feed_42 : decode cX12_feed 42 = .ok (.iload 5, 2) := by decide +kernel
theorem dX12_feed_44 : decode cX12_feed 44 = .ok (.invokevirtual 88, 3) := by decide +kernel
theorem dX12_feed_47 : decode cX12_feed 47 = .ok (.aload_n 0, 1) := by decide +kernel
theorem dX12_feed_48 : decode cX12_feed 48 = .ok (.getfield 85, 3) := by decide +kernel
theorem dX12_feed_51 : decode cX12_feed 51 = .ok (.ireturn, 1) := by decide +kernel
theorem dX12_go_0 : decode cX12_go 0 = .ok (.aload_n 0, 1) := by decide +kernel
theorem dX12_go_1 : decode cX12_go 1 = .ok (.getfield 95, 3) := by decide +kernel
theorem dX12_go_4 : decode cX12_go 4 = .ok (.aload_n 0, 1) := by decide +kernel
theorem dX12_go_5 : decode cX12_go 5 = .ok (.getfield 92, 3) := by decide +kernel
theorem dX12_go_8 : decode cX12_go 8 = .ok (.if_icmp .ge 44, 3) := by decide +kernel
theorem dX12_go_11 : decode cX12_go 11 = .ok (.aload_n 0, 1) := by decide +kernel
theorem dX12_go_12 : decode cX12_go 12 = .ok (.getfield 7, 3) := by decide +kernel
theorem dX12_go_15 : decode cX12_go 15 = .ok (.aload_n 0, 1) := by decide +kernel
theorem dX12_go_16 : decode cX12_go 16 = .ok (.getfield 95, 3) := by decide +kernel
theorem dX12_go_19 : decode cX12_go 19 = .ok (.iaload, 1) := by decide +kernel
theorem dX12_go_20 : decode cX12_go 20 = .ok (.bipush 32, 2) := by decide +kernel
theorem dX12_go_22 : decode cX12_go 22 = .ok (.if_icmp .eq 17, 3) := by decide +kernel
theorem dX12_go_25 : decode cX12_go 25 = .ok (.aload_n 0, 1) := by decide +kernel
theorem dX12_go_26 : decode cX12_go 26 = .ok (.getfield 7, 3) := by decide +kernel
theorem dX12_go_29 : decode cX12_go 29 = .ok (.aload_n 0, 1) := by decide +kernel
theorem dX12_go_30 : decode cX12_go 30 = .ok (.getfield 95, 3) := by decide +kernel
theorem dX12_go_33 : decode cX12_go 33 = .ok (.iaload, 1) := by decide +kernel
theorem dX12_go_34 : decode cX12_go 34 = .ok (.bipush 10, 2) := by decide +kernel
theorem dX12_go_36 : decode cX12_go 36 = .ok (.if_icmp .ne 16, 3) := by decide +kernel
theorem dX12_go_39 : decode cX12_go 39 = .ok (.aload_n 0, 1) := by decide +kernel
theorem dX12_go_40 : decode cX12_go 40 = .ok (.dup, 1) := by decide +kernel
theorem dX12_go_41 : decode cX12_go 41 = .ok (.getfield 95, 3) := by decide +kernel
theorem dX12_go_44 : decode cX12_go 44 = .ok (.iconst 1, 1) := by decide +kernel
theorem dX12_go_45 : decode cX12_go 45 = .ok (.iadd, 1) := by decide +kernel
theorem dX12_go_46 : decode cX12_go 46 = .ok (.putfield 95, 3) := by decide +kernel
theorem dX12_go_49 : decode cX12_go 49 = .ok (.goto (-49), 3) := by decide +kernel
theorem dX12_go_52 : decode cX12_go 52 = .ok (.aload_n 0, 1) := by decide +kernel
theorem dX12_go_53 : decode cX12_go 53 = .ok (.aload_n 0, 1) := by decide +kernel
theorem dX12_go_54 : decode cX12_go 54 = .ok (.getfield 95, 3) := by decide +kernel
theorem dX12_go_57 : decode cX12_go 57 = .ok (.putfield 98, 3) := by decide +kernel
theorem dX12_go_60 : decode cX12_go 60 = .ok (.aload_n 0, 1) := by decide +kernel
theorem dX12_go_61 : decode cX12_go 61 = .ok (.getfield 92, 3) := by decide +kernel
theorem dX12_go_64 : decode cX12_go 64 = .ok (.aload_n 0, 1) := by decide +kernel
theorem dX12_go_65 : decode cX12_go 65 = .ok (.getfield 101, 3) := by decide +kernel
theorem dX12_go_68 : decode cX12_go 68 = .ok (.if_icmp .le 28, 3) := by decide +kernel
theorem dX12_go_71 : decode cX12_go 71 = .ok (.aload_n 0, 1) := by decide +kernel
theorem dX12_go_72 : decode cX12_go 72 = .ok (.getfield 98, 3) := by decide +kernel
theorem dX12_go_75 : decode cX12_go 75 = .ok (.aload_n 0, 1) := by decide +kernel
theorem dX12_go_76 : decode cX12_go 76 = .ok (.getfield 101, 3) := by decide +kernel
theorem dX12_go_79 : decode cX12_go 79 = .ok (.if_icmp .lt 17, 3) := by decide +kernel
theorem dX12_go_82 : decode cX12_go 82 = .ok (.aload_n 0, 1) := by decide +kernel
theorem dX12_go_83 : decode cX12_go 83 = .ok (.aload_n 0, 1) := by decide +kernel
theorem dX12_go_84 : decode cX12_go 84 = .ok (.getfield 101, 3) := by decide +kernel
theorem dX12_go_87 : decode cX12_go 87 = .ok (.putfield 98, 3) := by decide +kernel
theorem dX12_go_90 : decode cX12_go 90 = .ok (.aload_n 0, 1) := by decide +kernel
theorem dX12_go_91 : decode cX12_go 91 = .ok (.iconst 1, 1) := by decide +kernel
theorem dX12_go_92 : decode cX12_go 92 = .ok (.putfield 104, 3) := by decide +kernel
theorem dX12_go_95 : decode cX12_go 95 = .ok (.return_, 1) := by decide +kernel
theorem dX12_go_96 : decode cX12_go 96 = .ok (.aload_n 0, 1) := by decide +kernel
theorem dX12_go_97 : decode cX12_go 97 = .ok (.getfield 95, 3) := by decide +kernel
theorem dX12_go_100 : decode cX12_go 100 = .ok (.aload_n 0, 1) := by decide +kernel
theorem dX12_go_101 : decode cX12_go 101 = .ok (.getfield 92, 3) := by decide +kernel
theorem dX12_go_104 : decode cX12_go 104 = .ok (.if_icmp .lt 9, 3) := by decide +kernel
theorem dX12_go_107 : decode cX12_go 107 = .ok (.aload_n 0, 1) := by decide +kernel
theorem dX12_go_108 : decode cX12_go 108 = .ok (.iconst 0, 1) := by decide +kernel
theorem dX12_go_109 : decode cX12_go 109 = .ok (.putfield 104, 3) := by decide +kernel
theorem dX12_go_112 : decode cX12_go 112 = .ok (.return_, 1) := by decide +kernel
theorem dX12_go_113 : decode cX12_go 113 = .ok (.aload_n 0, 1) := by decide +kernel
theorem dX12_go_114 : decode cX12_go 114 = .ok (.getfield 7, 3) := by decide +kernel
theorem dX12_go_117 : decode cX12_go 117 = .ok (.aload_n 0, 1) := by decide +kernel
theorem dX12_go_118 : decode cX12_go 118 = .ok (.getfield 95, 3) := by decide +kernel
theorem dX12_go_121 : decode cX12_go 121 = .ok (.iaload, 1) := by decide +kernel
theorem dX12_go_122 : decode cX12_go 122 = .ok (.istore_n 1, 1) := by decide +kernel
theorem dX12_go_123 : decode cX12_go 123 = .ok (.iload_n 1, 1) := by decide +kernel
theorem dX12_go_124 : decode cX12_go 124 = .ok (.invokestatic 107, 3) := by decide +kernel
theorem dX12_go_127 : decode cX12_go 127 = .ok (.ifCond .ne 71, 3) := by decide +kernel
theorem dX12_go_130 : decode cX12_go 130 = .ok (.iload_n 1, 1) := by decide +kernel
theorem dX12_go_131 : decode cX12_go 131 = .ok (.invokestatic 111, 3) := by decide +kernel
theorem dX12_go_134 : decode cX12_go 134 = .ok (.ifCond .ne 64, 3) := by decide +kernel
theorem dX12_go_137 : decode cX12_go 137 = .ok (.aload_n 0, 1) := by decide +kernel
theorem dX12_go_138 : decode cX12_go 138 = .ok (.iload_n 1, 1) := by decide +kernel
theorem dX12_go_139 : decode cX12_go 139 = .ok (.bipush 59, 2) := by decide +kernel
theorem dX12_go_141 : decode cX12_go 141 = .ok (.if_icmp .eq 33, 3) := by decide +kernel
theorem dX12_go_144 : decode cX12_go 144 = .ok (.iload_n 1, 1) := by decide +kernel
theorem dX12_go_145 : decode cX12_go 145 = .ok (.bipush 60, 2) := by decide +kernel
theorem dX12_go_147 : decode cX12_go 147 = .ok (.if_icmp .eq 27, 3) := by decide +kernel
theorem dX12_go_150 : decode cX12_go 150 = .ok (.iload_n 1, 1) := by decide +kernel
theorem dX12_go_151 : decode cX12_go 151 = .ok (.bipush 61, 2) := by decide +kernel
theorem dX12_go_153 : decode cX12_go 153 = .ok (.if_icmp .eq 21, 3) := by decide +kernel
theorem dX12_go_156 : decode cX12_go 156 = .ok (.iload_n 1, 1) := by decide +kernel
theorem dX12_go_157 : decode cX12_go 157 = .ok (.bipush 62, 2) := by decide +kernel
theorem dX12_go_159 : decode cX12_go 159 = .ok (.if_icmp .eq 15, 3) := by decide +kernel
theorem dX12_go_162 : decode cX12_go 162 = .ok (.iload_n 1, 1) := by decide +kernel
theorem dX12_go_163 : decode cX12_go 163 = .ok (.bipush 40, 2) := by decide +kernel
theorem dX12_go_165 : decode cX12_go 165 = .ok (.if_icmp .eq 9, 3) := by decide +kernel
theorem dX12_go_168 : decode cX12_go 168 = .ok (.iload_n 1, 1) := by decide +kernel
theorem dX12_go_169 : decode cX12_go 169 = .ok (.bipush 41, 2) := by decide +kernel
theorem dX12_go_171 : decode cX12_go 171 = .ok (.if_icmp .ne 7, 3) := by decide +kernel
theorem dX12_go_174 : decode cX12_go 174 = .ok (.iconst 4, 1) := by decide +kernel
theorem dX12_go_175 : decode cX12_go 175 = .ok (.goto 4, 3) := by decide +kernel
theorem dX12_go_178 : decode cX12_go 178 = .ok (.iconst 1, 1) := by decide +kernel
theorem dX12_go_179 : decode cX12_go 179 = .ok (.putfield 104, 3) := by decide +kernel
theorem dX12_go_182 : decode cX12_go 182 = .ok (.aload_n 0, 1) := by decide +kernel
theorem dX12_go_183 : decode cX12_go 183 = .ok (.iload_n 1, 1) := by decide +kernel
theorem dX12_go_184 : decode cX12_go 184 = .ok (.putfield 114, 3) := by decide +kernel
theorem dX12_go_187 : decode cX12_go 187 = .ok (.aload_n 0, 1) := by decide +kernel
theorem dX12_go_188 : decode cX12_go 188 = .ok (.dup, 1) := by decide +kernel
theorem dX12_go_189 : decode cX12_go 189 = .ok (.getfield 95, 3) := by decide +kernel
theorem dX12_go_192 : decode cX12_go 192 = .ok (.iconst 1, 1) := by decide +kernel
theorem dX12_go_193 : decode cX12_go 193 = .ok (.iadd, 1) := by decide +kernel
theorem dX12_go_194 : decode cX12_go 194 = .ok (.putfield 95, 3) := by decide +kernel
theorem dX12_go_197 : decode cX12_go 197 = .ok (.return_, 1) := by decide +kernel
theorem dX12_go_198 : decode cX12_go 198 = .ok (.iload_n 1, 1) := by decide +kernel
theorem dX12_go_199 : decode cX12_go 199 = .ok (.invokestatic 107, 3) := by decide +kernel
theorem dX12_go_202 : decode cX12_go 202 = .ok (.istore_n 2, 1) := by decide +kernel
theorem dX12_go_203 : decode cX12_go 203 = .ok (.iconst 1, 1) := by decide +kernel
theorem dX12_go_204 : decode cX12_go 204 = .ok (.istore_n 3, 1) := by decide +kernel
theorem dX12_go_205 : decode cX12_go 205 = .ok (.aload_n 0, 1) := by decide +kernel
theorem dX12_go_206 : decode cX12_go 206 = .ok (.lconst 0, 1) := by decide +kernel
theorem dX12_go_207 : decode cX12_go 207 = .ok (.putfield 117, 3) := by decide +kernel
theorem dX12_go_210 : decode cX12_go 210 = .ok (.aload_n 0, 1) := by decide +kernel
theorem dX12_go_211 : decode cX12_go 211 = .ok (.iconst 0, 1) := by decide +kernel
theorem dX12_go_212 : decode cX12_go 212 = .ok (.putfield 121, 3) := by decide +kernel
theorem dX12_go_215 : decode cX12_go 215 = .ok (.aload_n 0, 1) := by decide +kernel
theorem dX12_go_216 : decode cX12_go 216 = .ok (.aload_n 0, 1) := by decide +kernel
theorem dX12_go_217 : decode cX12_go 217 = .ok (.getfield 95, 3) := by decide +kernel
theorem dX12_go_220 : decode cX12_go 220 = .ok (.invokevirtual 124, 3) := by decide +kernel
theorem dX12_go_223 : decode cX12_go 223 = .ok (.invokestatic 107, 3) := by decide +kernel
theorem dX12_go_226 : decode cX12_go 226 = .ok (.ifCond .ne 17, 3) := by decide +kernel
theorem dX12_go_229 : decode cX12_go 229 = .ok (.aload_n 0, 1) := by decide +kernel
theorem dX12_go_230 : decode cX12_go 230 = .ok (.aload_n 0, 1) := by decide +kernel
theorem dX12_go_231 : decode cX12_go 231 = .ok (.getfield 95, 3) := by decide +kernel
theorem dX12_go_234 : decode cX12_go 234 = .ok (.invokevirtual 124, 3) := by decide +kernel
theorem dX12_go_237 : decode cX12_go 237 = .ok (.invokestatic 111, 3) := by decide +kernel
theorem dX12_go_240 : decode cX12_go 240 = .ok (.ifCond .eq 110, 3) := by decide +kernel
theorem dX12_go_243 : decode cX12_go 243 = .ok (.aload_n 0, 1) := by decide +kernel
theorem dX12_go_244 : decode cX12_go 244 = .ok (.getfield 7, 3) := by decide +kernel
theorem dX12_go_247 : decode cX12_go 247 = .ok (.aload_n 0, 1) := by decide +kernel
theorem dX12_go_248 : decode cX12_go 248 = .ok (.getfield 95, 3) := by decide +kernel
theorem dX12_go_251 : decode cX12_go 251 = .ok (.iaload, 1) := by decide +kernel
theorem dX12_go_252 : decode cX12_go 252 = .ok (.istore 4, 2) := by decide +kernel
theorem dX12_go_254 : decode cX12_go 254 = .ok (.iload_n 3, 1) := by decide +kernel
theorem dX12_go_255 : decode cX12_go 255 = .ok (.ifCond .eq 16, 3) := by decide +kernel
theorem dX12_go_258 : decode cX12_go 258 = .ok (.iload 4, 2) := by decide +kernel
theorem dX12_go_260 : decode cX12_go 260 = .ok (.invokestatic 107, 3) := by decide +kernel
theorem dX12_go_263 : decode cX12_go 263 = .ok (.iload_n 2, 1) := by decide +kernel
theorem dX12_go_264 : decode cX12_go 264 = .ok (.if_icmp .ne 7, 3) := by decide +kernel
theorem dX12_go_267 : decode cX12_go 267 = .ok (.iconst 1, 1) := by decide +kernel
theorem dX12_go_268 : decode cX12_go 268 = .ok (.goto 4, 3) := by decide +kernel
theorem dX12_go_271 : decode cX12_go 271 = .ok (.iconst 0, 1) := by decide +kernel
theorem dX12_go_272 : decode cX12_go 272 = .ok (.istore_n 3, 1) := by decide +kernel
theorem dX12_go_273 : decode cX12_go 273 = .ok (.aload_n 0, 1) := by decide +kernel
theorem dX12_go_274 : decode cX12_go 274 = .ok (.getfield 95, 3) := by decide +kernel
theorem dX12_go_277 : decode cX12_go 277 = .ok (.aload_n 0, 1) := by decide +kernel
theorem dX12_go_278 : decode cX12_go 278 = .ok (.getfield 98, 3) := by decide +kernel
theorem dX12_go_281 : decode cX12_go 281 = .ok (.isub, 1) := by decide +kernel
theorem dX12_go_282 : decode cX12_go 282 = .ok (.bipush 7, 2) := by decide +kernel
theorem dX12_go_284 : decode cX12_go 284 = .ok (.if_icmp .ge 23, 3) := by decide +kernel
theorem dX12_go_287 : decode cX12_go 287 = .ok (.aload_n 0, 1) := by decide +kernel
theorem dX12_go_288 : decode cX12_go 288 = .ok (.ldc2_w 128, 3) := by decide +kernel
theorem dX12_go_291 : decode cX12_go 291 = .ok (.aload_n 0, 1) := by decide +kernel
theorem dX12_go_292 : decode cX12_go 292 = .ok (.getfield 117, 3) := by decide +kernel
theorem dX12_go_295 : decode cX12_go 295 = .ok (.lmul, 1) := by decide +kernel
theorem dX12_go_296 : decode cX12_go 296 = .ok (.iload 4, 2) := by decide +kernel
theorem dX12_go_298 : decode cX12_go 298 = .ok (.i2l, 1) := by decide +kernel
theorem dX12_go_299 : decode cX12_go 299 = .ok (.ladd, 1) := by decide +kernel
theorem dX12_go_300 : decode cX12_go 300 = .ok (.ldc2_w 130, 3) := by decide +kernel
theorem dX12_go_303 : decode cX12_go 303 = .ok (.lsub, 1) := by decide +kernel
theorem dX12_go_304 : decode cX12_go 304 = .ok (.putfield 117, 3) := by decide +kernel
theorem dX12_go_307 : decode cX12_go 307 = .ok (.aload_n 0, 1) := by decide +kernel
theorem dX12_go_308 : decode cX12_go 308 = .ok (.getfield 95, 3) := by decide +kernel
theorem dX12_go_311 : decode cX12_go 311 = .ok (.aload_n 0, 1) := by decide +kernel
theorem dX12_go_312 : decode cX12_go 312 = .ok (.getfield 98, 3) := by decide +kernel
theorem dX12_go_315 : decode cX12_go 315 = .ok (.isub, 1) := by decide +kernel
theorem dX12_go_316 : decode cX12_go 316 = .ok (.iconst 3, 1) := by decide +kernel
theorem dX12_go_317 : decode cX12_go 317 = .ok (.if_icmp .ge 20, 3) := by decide +kernel
theorem dX12_go_320 : decode cX12_go 320 = .ok (.aload_n 0, 1) := by decide +kernel
theorem dX12_go_321 : decode cX12_go 321 = .ok (.bipush 10, 2) := by decide +kernel
theorem dX12_go_323 : decode cX12_go 323 = .ok (.aload_n 0, 1) := by decide +kernel
theorem dX12_go_324 : decode cX12_go 324 = .ok (.getfield 121, 3) := by decide +kernel
theorem dX12_go_327 : decode cX12_go 327 = .ok (.imul, 1) := by decide +kernel
theorem dX12_go_328 : decode cX12_go 328 = .ok (.iload 4, 2) := by decide +kernel
theorem dX12_go_330 : decode cX12_go 330 = .ok (.iadd, 1) := by decide +kernel
theorem dX12_go_331 : decode cX12_go 331 = .ok (.bipush 48, 2) := by decide +kernel
theorem dX12_go_333 : decode cX12_go 333 = .ok (.isub, 1) := by decide +kernel
theorem dX12_go_334 : decode cX12_go 334 = .ok (.putfield 121, 3) := by decide +kernel
theorem dX12_go_337 : decode cX12_go 337 = .ok (.aload_n 0, 1) := by decide +kernel
theorem dX12_go_338 : decode cX12_go 338 = .ok (.dup, 1) := by decide +kernel
theorem dX12_go_339 : decode cX12_go 339 = .ok (.getfield 95, 3) := by decide +kernel
theorem dX12_go_342 : decode cX12_go 342 = .ok (.iconst 1, 1) := by decide +kernel
theorem dX12_go_343 : decode cX12_go 343 = .ok (.iadd, 1) := by decide +kernel
theorem dX12_go_344 : decode cX12_go 344 = .ok (.putfield 95, 3) := by decide +kernel
theorem dX12_go_347 : decode cX12_go 347 = .ok (.goto (-132), 3) := by decide +kernel
theorem dX12_go_350 : decode cX12_go 350 = .ok (.aload_n 0, 1) := by decide +kernel
theorem dX12_go_351 : decode cX12_go 351 = .ok (.iload_n 3, 1) := by decide +kernel
theorem dX12_go_352 : decode cX12_go 352 = .ok (.ifCond .eq 25, 3) := by decide +kernel
theorem dX12_go_355 : decode cX12_go 355 = .ok (.aload_n 0, 1) := by decide +kernel
theorem dX12_go_356 : decode cX12_go 356 = .ok (.getfield 95, 3) := by decide +kernel
theorem dX12_go_359 : decode cX12_go 359 = .ok (.aload_n 0, 1) := by decide +kernel
theorem dX12_go_360 : decode cX12_go 360 = .ok (.getfield 98, 3) := by decide +kernel
theorem dX12_go_363 : decode cX12_go 363 = .ok (.isub, 1) := by decide +kernel
theorem dX12_go_364 : decode cX12_go 364 = .ok (.iload_n 2, 1) := by decide +kernel
theorem dX12_go_365 : decode cX12_go 365 = .ok (.ifCond .eq 8, 3) := by decide +kernel
theorem dX12_go_368 : decode cX12_go 368 = .ok (.bipush 7, 2) := by decide +kernel
theorem dX12_go_370 : decode cX12_go 370 = .ok (.goto 4, 3) := by decide +kernel
theorem dX12_go_373 : decode cX12_go 373 = .ok (.iconst 3, 1) := by decide +kernel
theorem dX12_go_374 : decode cX12_go 374 = .ok (.if_icmp .le 7, 3) := by decide +kernel
theorem dX12_go_377 : decode cX12_go 377 = .ok (.iconst 1, 1) := by decide +kernel
theorem dX12_go_378 : decode cX12_go 378 = .ok (.goto 12, 3) := by decide +kernel
theorem dX12_go_381 : decode cX12_go 381 = .ok (.iload_n 2, 1) := by decide +kernel
theorem dX12_go_382 : decode cX12_go 382 = .ok (.ifCond .eq 7, 3) := by decide +kernel
theorem dX12_go_385 : decode cX12_go 385 = .ok (.iconst 2, 1) := by decide +kernel
theorem dX12_go_386 : decode cX12_go 386 = .ok (.goto 4, 3) := by decide +kernel
theorem dX12_go_389 : decode cX12_go 389 = .ok (.iconst 3, 1) := by decide +kernel
theorem dX12_go_390 : decode cX12_go 390 = .ok (.putfield 104, 3) := by decide +kernel
theorem dX12_go_393 : decode cX12_go 393 = .ok (.return_, 1) := by decide +kernel
theorem dX12_isDigit_0 : decode cX12_isDigit 0 = .ok (.iload_n 0, 1) := by decide +kernel
theorem dX12_isDigit_1 : decode cX12_isDigit 1 = .ok (.bipush 48, 2) := by decide +kernel
theorem dX12_isDigit_3 : decode cX12_isDigit 3 = .ok (.if_icmp .lt 13, 3) := by decide +kernel
theorem dX12_isDigit_6 : decode cX12_isDigit 6 = .ok (.iload_n 0, 1) := by decide +kernel
theorem dX12_isDigit_7 : decode cX12_isDigit 7 = .ok (.bipush 57, 2) := by decide +kernel
theorem dX12_isDigit_9 : decode cX12_isDigit 9 = .ok (.if_icmp .gt 7, 3) := by decide +kernel
theorem dX12_isDigit_12 : decode cX12_isDigit 12 = .ok (.iconst 1, 1) := by decide +kernel
theorem dX12_isDigit_13 : decode cX12_isDigit 13 = .ok (.goto 4, 3) := by decide +kernel
theorem dX12_isDigit_16 : decode cX12_isDigit 16 = .ok (.iconst 0, 1) := by decide +kernel
theorem dX12_isDigit_17 : decode cX12_isDigit 17 = .ok (.ireturn, 1) := by decide +kernel
theorem dX12_isLetter_0 : decode cX12_isLetter 0 = .ok (.iload_n 0, 1) := by decide +kernel
theorem dX12_isLetter_1 : decode cX12_isLetter 1 = .ok (.bipush 97, 2) := by decide +kernel
theorem dX12_isLetter_3 : decode cX12_isLetter 3 = .ok (.if_icmp .lt 13, 3) := by decide +kernel
theorem dX12_isLetter_6 : decode cX12_isLetter 6 = .ok (.iload_n 0, 1) := by decide +kernel
theorem dX12_isLetter_7 : decode cX12_isLetter 7 = .ok (.bipush 122, 2) := by decide +kernel
theorem dX12_isLetter_9 : decode cX12_isLetter 9 = .ok (.if_icmp .gt 7, 3) := by decide +kernel
theorem dX12_isLetter_12 : decode cX12_isLetter 12 = .ok (.iconst 1, 1) := by decide +kernel
theorem dX12_isLetter_13 : decode cX12_isLetter 13 = .ok (.goto 4, 3) := by decide +kernel
theorem dX12_isLetter_16 : decode cX12_isLetter 16 = .ok (.iconst 0, 1) := by decide +kernel
theorem dX12_isLetter_17 : decode cX12_isLetter 17 = .ok (.ireturn, 1) := by decide +kernel
theorem dX12_isSign_0 : decode cX12_isSign 0 = .ok (.aload_n 0, 1) := by decide +kernel
theorem dX12_isSign_1 : decode cX12_isSign 1 = .ok (.getfield 104, 3) := by decide +kernel
theorem dX12_isSign_4 : decode cX12_isSign 4 = .ok (.iconst 4, 1) := by decide +kernel
theorem dX12_isSign_5 : decode cX12_isSign 5 = .ok (.if_icmp .ne 15, 3) := by decide +kernel
theorem dX12_isSign_8 : decode cX12_isSign 8 = .ok (.aload_n 0, 1) := by decide +kernel
theorem dX12_isSign_9 : decode cX12_isSign 9 = .ok (.getfield 114, 3) := by decide +kernel
theorem dX12_isSign_12 : decode cX12_isSign 12 = .ok (.iload_n 1, 1) := by decide +kernel
theorem dX12_isSign_13 : decode cX12_isSign 13 = .ok (.if_icmp .ne 7, 3) := by decide +kernel
theorem dX12_isSign_16 : decode cX12_isSign 16 = .ok (.iconst 1, 1) := by decide +kernel
theorem dX12_isSign_17 : decode cX12_isSign 17 = .ok (.goto 4, 3) := by decide +kernel
theorem dX12_isSign_20 : decode cX12_isSign 20 = .ok (.iconst 0, 1) := by decide +kernel
theorem dX12_isSign_21 : decode cX12_isSign 21 = .ok (.ireturn, 1) := by decide +kernel
theorem dX12_readEnd_0 : decode cX12_readEnd 0 = .ok (.aload_n 0, 1) := by decide +kernel
theorem dX12_readEnd_1 : decode cX12_readEnd 1 = .ok (.bipush 59, 2) := by decide +kernel
theorem dX12_readEnd_3 : decode cX12_readEnd 3 = .ok (.invokevirtual 159, 3) := by decide +kernel
theorem dX12_readEnd_6 : decode cX12_readEnd 6 = .ok (.ifCond .ne 9, 3) := by decide +kernel
theorem dX12_readEnd_9 : decode cX12_readEnd 9 = .ok (.aload_n 0, 1) := by decide +kernel
theorem dX12_readEnd_10 : decode cX12_readEnd 10 = .ok (.iconst 1, 1) := by decide +kernel
theorem dX12_readEnd_11 : decode cX12_readEnd 11 = .ok (.invokevirtual 146, 3) := by decide +kernel
theorem dX12_readEnd_14 : decode cX12_readEnd 14 = .ok (.ireturn, 1) := by decide +kernel
theorem dX12_readEnd_15 : decode cX12_readEnd 15 = .ok (.aload_n 0, 1) := by decide +kernel
theorem dX12_readEnd_16 : decode cX12_readEnd 16 = .ok (.invokevirtual 156, 3) := by decide +kernel
theorem dX12_readEnd_19 : decode cX12_readEnd 19 = .ok (.iconst 1, 1) := by decide +kernel
theorem dX12_readEnd_20 : decode cX12_readEnd 20 = .ok (.ireturn, 1) := by decide +kernel
theorem dX12_spelt_0 : decode cX12_spelt 0 = .ok (.ldc2_w 128, 3) := by decide +kernel
theorem dX12_spelt_3 : decode cX12_spelt 3 = .ok (.iload_n 0, 1) := by decide +kernel
theorem dX12_spelt_4 : decode cX12_spelt 4 = .ok (.i2l, 1) := by decide +kernel
theorem dX12_spelt_5 : decode cX12_spelt 5 = .ok (.ldc2_w 130, 3) := by decide +kernel
theorem dX12_spelt_8 : decode cX12_spelt 8 = .ok (.lsub, 1) := by decide +kernel
theorem dX12_spelt_9 : decode cX12_spelt 9 = .ok (.lmul, 1) := by decide +kernel
theorem dX12_spelt_10 : decode cX12_spelt 10 = .ok (.iload_n 1, 1) := by decide +kernel
theorem dX12_spelt_11 : decode cX12_spelt 11 = .ok (.i2l, 1) := by decide +kernel
theorem dX12_spelt_12 : decode cX12_spelt 12 = .ok (.ladd, 1) := by decide +kernel
theorem dX12_spelt_13 : decode cX12_spelt 13 = .ok (.ldc2_w 130, 3) := by decide +kernel
theorem dX12_spelt_16 : decode cX12_spelt 16 = .ok (.lsub, 1) := by decide +kernel
theorem dX12_spelt_17 : decode cX12_spelt 17 = .ok (.lstore 7, 2) := by decide +kernel
theorem dX12_spelt_19 : decode cX12_spelt 19 = .ok (.iload_n 2, 1) := by decide +kernel
theorem dX12_spelt_20 : decode cX12_spelt 20 = .ok (.ifCond .le 18, 3) := by decide +kernel
theorem dX12_spelt_23 : decode cX12_spelt 23 = .ok (.ldc2_w 128, 3) := by decide +kernel
theorem dX12_spelt_26 : decode cX12_spelt 26 = .ok (.lload 7, 2) := by decide +kernel
theorem dX12_spelt_28 : decode cX12_spelt 28 = .ok (.lmul, 1) := by decide +kernel
theorem dX12_spelt_29 : decode cX12_spelt 29 = .ok (.iload_n 2, 1) := by decide +kernel
theorem dX12_spelt_30 : decode cX12_spelt 30 = .ok (.i2l, 1) := by decide +kernel
theorem dX12_spelt_31 : decode cX12_spelt 31 = .ok (.ladd, 1) := by decide +kernel
theorem dX12_spelt_32 : decode cX12_spelt 32 = .ok (.ldc2_w 130, 3) := by decide +kernel
theorem dX12_spelt_35 : decode cX12_spelt 35 = .ok (.lsub, 1) := by decide +kernel
theorem dX12_spelt_36 : decode cX12_spelt 36 = .ok (.lstore 7, 2) := by decide +kernel
theorem dX12_spelt_38 : decode cX12_spelt 38 = .ok (.iload_n 3, 1) := by decide +kernel
theorem dX12_spelt_39 : decode cX12_spelt 39 = .ok (.ifCond .le 18, 3) := by decide +kernel
theorem dX12_spelt_42 : decode cX12_spelt 42 = .ok (.ldc2_w 128, 3) := by decide +kernel
theorem dX12_spelt_45 : decode cX12_spelt 45 = .ok (.lload 7, 2) := by decide +kernel
theorem dX12_spelt_47 : decode cX12_spelt 47 = .ok (.lmul, 1) := by decide +kernel
theorem dX12_spelt_48 : decode cX12_spelt 48 = .ok (.iload_n 3, 1) := by decide +kernel
theorem dX12_spelt_49 : decode cX12_spelt 49 = .ok (.i2l, 1) := by decide +kernel
theorem dX12_spelt_50 : decode cX12_spelt 50 = .ok (.ladd, 1) := by decide +kernel
theorem dX12_spelt_51 : decode cX12_spelt 51 = .ok (.ldc2_w 130, 3) := by decide +kernel
theorem dX12_spelt_54 : decode cX12_spelt 54 = .ok (.lsub, 1) := by decide +kernel
theorem dX12_spelt_55 : decode cX12_spelt 55 = .ok (.lstore 7, 2) := by decide +kernel
theorem dX12_spelt_57 : decode cX12_spelt 57 = .ok (.iload 4, 2) := by decide +kernel
theorem dX12_spelt_59 : decode cX12_spelt 59 = .ok (.ifCond .le 19, 3) := by decide +kernel
theorem dX12_spelt_62 : decode cX12_spelt 62 = .ok (.ldc2_w 128, 3) := by decide +kernel
theorem dX12_spelt_65 : decode cX12_spelt 65 = .ok (.lload 7, 2) := by decide +kernel
theorem dX12_spelt_67 : decode cX12_spelt 67 = .ok (.lmul, 1) := by decide +kernel
theorem dX12_spelt_68 : decode cX12_spelt 68 = .ok (.iload 4, 2) := by decide +kernel
theorem dX12_spelt_70 : decode cX12_spelt 70 = .ok (.i2l, 1) := by decide +kernel
theorem dX12_spelt_71 : decode cX12_spelt 71 = .ok (.ladd, 1) := by decide +kernel
theorem dX12_spelt_72 : decode cX12_spelt 72 = .ok (.ldc2_w 130, 3) := by decide +kernel
theorem dX12_spelt_75 : decode cX12_spelt 75 = .ok (.lsub, 1) := by decide +kernel
theorem dX12_spelt_76 : decode cX12_spelt 76 = .ok (.lstore 7, 2) := by decide +kernel
theorem dX12_spelt_78 : decode cX12_spelt 78 = .ok (.iload 5, 2) := by decide +kernel
theorem dX12_spelt_80 : decode cX12_spelt 80 = .ok (.ifCond .le 19, 3) := by decide +kernel
theorem dX12_spelt_83 : decode cX12_spelt 83 = .ok (.ldc2_w 128, 3) := by decide +kernel
theorem dX12_spelt_86 : decode cX12_spelt 86 = .ok (.lload 7, 2) := by decide +kernel
theorem dX12_spelt_88 : decode cX12_spelt 88 = .ok (.lmul, 1) := by decide +kernel
theorem dX12_spelt_89 : decode cX12_spelt 89 = .ok (.iload 5, 2) := by decide +kernel
theorem dX12_spelt_91 : decode cX12_spelt 91 = .ok (.i2l, 1) := by decide +kernel
theorem dX12_spelt_92 : decode cX12_spelt 92 = .ok (.ladd, 1) := by decide +kernel
theorem dX12_spelt_93 : decode cX12_spelt 93 = .ok (.ldc2_w 130, 3) := by decide +kernel
theorem dX12_spelt_96 : decode cX12_spelt 96 = .ok (.lsub, 1) := by decide +kernel
theorem dX12_spelt_97 : decode cX12_spelt 97 = .ok (.lstore 7, 2) := by decide +kernel
theorem dX12_spelt_99 : decode cX12_spelt 99 = .ok (.iload 6, 2) := by decide +kernel
theorem dX12_spelt_101 : decode cX12_spelt 101 = .ok (.ifCond .le 19, 3) := by decide +kernel
theorem dX12_spelt_104 : decode cX12_spelt 104 = .ok (.ldc2_w 128, 3) := by decide +kernel
theorem dX12_spelt_107 : decode cX12_spelt 107 = .ok (.lload 7, 2) := by decide +kernel
theorem dX12_spelt_109 : decode cX12_spelt 109 = .ok (.lmul, 1) := by decide +kernel
theorem dX12_spelt_110 : decode cX12_spelt 110 = .ok (.iload 6, 2) := by decide +kernel
theorem dX12_spelt_112 : decode cX12_spelt 112 = .ok (.i2l, 1) := by decide +kernel
theorem dX12_spelt_113 : decode cX12_spelt 113 = .ok (.ladd, 1) := by decide +kernel
theorem dX12_spelt_114 : decode cX12_spelt 114 = .ok (.ldc2_w 130, 3) := by decide +kernel
theorem dX12_spelt_117 : decode cX12_spelt 117 = .ok (.lsub, 1) := by decide +kernel
theorem dX12_spelt_118 : decode cX12_spelt 118 = .ok (.lstore 7, 2) := by decide +kernel
theorem dX12_spelt_120 : decode cX12_spelt 120 = .ok (.lload 7, 2) := by decide +kernel
theorem dX12_spelt_122 : decode cX12_spelt 122 = .ok (.lreturn, 1) := by decide +kernel
theorem dX12_take_0 : decode cX12_take 0 = .ok (.aload_n 0, 1) := by decide +kernel
theorem dX12_take_1 : decode cX12_take 1 = .ok (.getfield 85, 3) := by decide +kernel
theorem dX12_take_4 : decode cX12_take 4 = .ok (.istore_n 1, 1) := by decide +kernel
theorem dX12_take_5 : decode cX12_take 5 = .ok (.aload_n 0, 1) := by decide +kernel
theorem dX12_take_6 : decode cX12_take 6 = .ok (.iconst 0, 1) := by decide +kernel
theorem dX12_take_7 : decode cX12_take 7 = .ok (.putfield 85, 3) := by decide +kernel
theorem dX12_take_10 : decode cX12_take 10 = .ok (.iload_n 1, 1) := by decide +kernel
theorem dX12_take_11 : decode cX12_take 11 = .ok (.ireturn, 1) := by decide +kernel
theorem dX12_tapeAt_0 : decode cX12_tapeAt 0 = .ok (.iload_n 1, 1) := by decide +kernel
theorem dX12_tapeAt_1 : decode cX12_tapeAt 1 = .ok (.aload_n 0, 1) := by decide +kernel
theorem dX12_tapeAt_2 : decode cX12_tapeAt 2 = .ok (.getfield 92, 3) := by decide +kernel
theorem dX12_tapeAt_5 : decode cX12_tapeAt 5 = .ok (.if_icmp .ge 12, 3) := by decide +kernel
theorem dX12_tapeAt_8 : decode cX12_tapeAt 8 = .ok (.aload_n 0, 1) := by decide +kernel
theorem dX12_tapeAt_9 : decode cX12_tapeAt 9 = .ok (.getfield 7, 3) := by decide +kernel
theorem dX12_tapeAt_12 : decode cX12_tapeAt 12 = .ok (.iload_n 1, 1) := by decide +kernel
theorem dX12_tapeAt_13 : decode cX12_tapeAt 13 = .ok (.iaload, 1) := by decide +kernel
theorem dX12_tapeAt_14 : decode cX12_tapeAt 14 = .ok (.goto 4, 3) := by decide +kernel
theorem dX12_tapeAt_17 : decode cX12_tapeAt 17 = .ok (.iconst 0, 1) := by decide +kernel
theorem dX12_tapeAt_18 : decode cX12_tapeAt 18 = .ok (.ireturn, 1) := by decide +kernel
theorem dX12_wordOf_0 : decode cX12_wordOf 0 = .ok (.iload_n 0, 1) := by decide +kernel
theorem dX12_wordOf_1 : decode cX12_wordOf 1 = .ok (.tableswitch 544 0 26 #[123, 140, 155, 172, 188, 202, 217, 233, 249, 264, 279, 296, 312, 330, 348, 363, 378, 391, 405, 419, 434, 452, 468, 481, 495, 511, 527], 123) := by decide +kernel
theorem dX12_wordOf_124 : decode cX12_wordOf 124 = .ok (.bipush 112, 2) := by decide +kernel
theorem dX12_wordOf_126 : decode cX12_wordOf 126 = .ok (.bipush 101, 2) := by decide +kernel
theorem dX12_wordOf_128 : decode cX12_wordOf 128 = .ok (.bipush 114, 2) := by decide +kernel
theorem dX12_wordOf_130 : decode cX12_wordOf 130 = .ok (.bipush 115, 2) := by decide +kernel
theorem dX12_wordOf_132 : decode cX12_wordOf 132 = .ok (.bipush 111, 2) := by decide +kernel
theorem dX12_wordOf_134 : decode cX12_wordOf 134 = .ok (.bipush 110, 2) := by decide +kernel
theorem dX12_wordOf_136 : decode cX12_wordOf 136 = .ok (.iconst 0, 1) := by decide +kernel
theorem dX12_wordOf_137 : decode cX12_wordOf 137 = .ok (.invokestatic 132, 3) := by decide +kernel
theorem dX12_wordOf_140 : decode cX12_wordOf 140 = .ok (.lreturn, 1) := by decide +kernel
theorem dX12_wordOf_141 : decode cX12_wordOf 141 = .ok (.bipush 100, 2) := by decide +kernel
theorem dX12_wordOf_143 : decode cX12_wordOf 143 = .ok (.bipush 105, 2) := by decide +kernel
theorem dX12_wordOf_145 : decode cX12_wordOf 145 = .ok (.bipush 115, 2) := by decide +kernel
theorem dX12_wordOf_147 : decode cX12_wordOf 147 = .ok (.bipush 104, 2) := by decide +kernel
theorem dX12_wordOf_149 : decode cX12_wordOf 149 = .ok (.iconst 0, 1) := by decide +kernel
theorem dX12_wordOf_150 : decode cX12_wordOf 150 = .ok (.iconst 0, 1) := by decide +kernel
theorem dX12_wordOf_151 : decode cX12_wordOf 151 = .ok (.iconst 0, 1) := by decide +kernel
theorem dX12_wordOf_152 : decode cX12_wordOf 152 = .ok (.invokestatic 132, 3) := by decide +kernel
theorem dX12_wordOf_155 : decode cX12_wordOf 155 = .ok (.lreturn, 1) := by decide +kernel
theorem dX12_wordOf_156 : decode cX12_wordOf 156 = .ok (.bipush 115, 2) := by decide +kernel
theorem dX12_wordOf_158 : decode cX12_wordOf 158 = .ok (.bipush 112, 2) := by decide +kernel
theorem dX12_wordOf_160 : decode cX12_wordOf 160 = .ok (.bipush 111, 2) := by decide +kernel
theorem dX12_wordOf_162 : decode cX12_wordOf 162 = .ok (.bipush 105, 2) := by decide +kernel
theorem dX12_wordOf_164 : decode cX12_wordOf 164 = .ok (.bipush 108, 2) := by decide +kernel
theorem dX12_wordOf_166 : decode cX12_wordOf 166 = .ok (.bipush 115, 2) := by decide +kernel
theorem dX12_wordOf_168 : decode cX12_wordOf 168 = .ok (.iconst 0, 1) := by decide +kernel
theorem dX12_wordOf_169 : decode cX12_wordOf 169 = .ok (.invokestatic 132, 3) := by decide +kernel
theorem dX12_wordOf_172 : decode cX12_wordOf 172 = .ok (.lreturn, 1) := by decide +kernel
theorem dX12_wordOf_173 : decode cX12_wordOf 173 = .ok (.bipush 112, 2) := by decide +kernel
theorem dX12_wordOf_175 : decode cX12_wordOf 175 = .ok (.bipush 108, 2) := by decide +kernel
theorem dX12_wordOf_177 : decode cX12_wordOf 177 = .ok (.bipush 97, 2) := by decide +kernel
theorem dX12_wordOf_179 : decode cX12_wordOf 179 = .ok (.bipush 116, 2) := by decide +kernel
theorem dX12_wordOf_181 : decode cX12_wordOf 181 = .ok (.bipush 101, 2) := by decide +kernel
theorem dX12_wordOf_183 : decode cX12_wordOf 183 = .ok (.iconst 0, 1) := by decide +kernel
theorem dX12_wordOf_184 : decode cX12_wordOf 184 = .ok (.iconst 0, 1) := by decide +kernel
theorem dX12_wordOf_185 : decode cX12_wordOf 185 = .ok (.invokestatic 132, 3) := by decide +kernel
theorem dX12_wordOf_188 : decode cX12_wordOf 188 = .ok (.lreturn, 1) := by decide +kernel
theorem dX12_wordOf_189 : decode cX12_wordOf 189 = .ok (.bipush 108, 2) := by decide +kernel
theorem dX12_wordOf_191 : decode cX12_wordOf 191 = .ok (.bipush 97, 2) := by decide +kernel
theorem dX12_wordOf_193 : decode cX12_wordOf 193 = .ok (.bipush 119, 2) := by decide +kernel
theorem dX12_wordOf_195 : decode cX12_wordOf 195 = .ok (.iconst 0, 1) := by decide +kernel
theorem dX12_wordOf_196 : decode cX12_wordOf 196 = .ok (.iconst 0, 1) := by decide +kernel
theorem dX12_wordOf_197 : decode cX12_wordOf 197 = .ok (.iconst 0, 1) := by decide +kernel
theorem dX12_wordOf_198 : decode cX12_wordOf 198 = .ok (.iconst 0, 1) := by decide +kernel
theorem dX12_wordOf_199 : decode cX12_wordOf 199 = .ok (.invokestatic 132, 3) := by decide +kernel
theorem dX12_wordOf_202 : decode cX12_wordOf 202 = .ok (.lreturn, 1) := by decide +kernel
theorem dX12_wordOf_203 : decode cX12_wordOf 203 = .ok (.bipush 110, 2) := by decide +kernel
theorem dX12_wordOf_205 : decode cX12_wordOf 205 = .ok (.bipush 101, 2) := by decide +kernel
theorem dX12_wordOf_207 : decode cX12_wordOf 207 = .ok (.bipush 120, 2) := by decide +kernel
theorem dX12_wordOf_209 : decode cX12_wordOf 209 = .ok (.bipush 116, 2) := by decide +kernel
theorem dX12_wordOf_211 : decode cX12_wordOf 211 = .ok (.iconst 0, 1) := by decide +kernel
theorem dX12_wordOf_212 : decode cX12_wordOf 212 = .ok (.iconst 0, 1) := by decide +kernel
theorem dX12_wordOf_213 : decode cX12_wordOf 213 = .ok (.iconst 0, 1) := by decide +kernel
theorem dX12_wordOf_214 : decode cX12_wordOf 214 = .ok (.invokestatic 132, 3) := by decide +kernel
theorem dX12_wordOf_217 : decode cX12_wordOf 217 = .ok (.lreturn, 1) := by decide +kernel
theorem dX12_wordOf_218 : decode cX12_wordOf 218 = .ok (.bipush 99, 2) := by decide +kernel
theorem dX12_wordOf_220 : decode cX12_wordOf 220 = .ok (.bipush 104, 2) := by decide +kernel
theorem dX12_wordOf_222 : decode cX12_wordOf 222 = .ok (.bipush 105, 2) := by decide +kernel
theorem dX12_wordOf_224 : decode cX12_wordOf 224 = .ok (.bipush 108, 2) := by decide +kernel
theorem dX12_wordOf_226 : decode cX12_wordOf 226 = .ok (.bipush 100, 2) := by decide +kernel
theorem dX12_wordOf_228 : decode cX12_wordOf 228 = .ok (.iconst 0, 1) := by decide +kernel
theorem dX12_wordOf_229 : decode cX12_wordOf 229 = .ok (.iconst 0, 1) := by decide +kernel
theorem dX12_wordOf_230 : decode cX12_wordOf 230 = .ok (.invokestatic 132, 3) := by decide +kernel
theorem dX12_wordOf_233 : decode cX12_wordOf 233 = .ok (.lreturn, 1) := by decide +kernel
theorem dX12_wordOf_234 : decode cX12_wordOf 234 = .ok (.bipush 108, 2) := by decide +kernel
theorem dX12_wordOf_236 : decode cX12_wordOf 236 = .ok (.bipush 101, 2) := by decide +kernel
theorem dX12_wordOf_238 : decode cX12_wordOf 238 = .ok (.bipush 97, 2) := by decide +kernel
theorem dX12_wordOf_240 : decode cX12_wordOf 240 = .ok (.bipush 115, 2) := by decide +kernel
theorem dX12_wordOf_242 : decode cX12_wordOf 242 = .ok (.bipush 116, 2) := by decide +kernel
theorem dX12_wordOf_244 : decode cX12_wordOf 244 = .ok (.iconst 0, 1) := by decide +kernel
theorem dX12_wordOf_245 : decode cX12_wordOf 245 = .ok (.iconst 0, 1) := by decide +kernel
theorem dX12_wordOf_246 : decode cX12_wordOf 246 = .ok (.invokestatic 132, 3) := by decide +kernel
theorem dX12_wordOf_249 : decode cX12_wordOf 249 = .ok (.lreturn, 1) := by decide +kernel
theorem dX12_wordOf_250 : decode cX12_wordOf 250 = .ok (.bipush 100, 2) := by decide +kernel
theorem dX12_wordOf_252 : decode cX12_wordOf 252 = .ok (.bipush 111, 2) := by decide +kernel
theorem dX12_wordOf_254 : decode cX12_wordOf 254 = .ok (.bipush 103, 2) := by decide +kernel
theorem dX12_wordOf_256 : decode cX12_wordOf 256 = .ok (.bipush 115, 2) := by decide +kernel
theorem dX12_wordOf_258 : decode cX12_wordOf 258 = .ok (.iconst 0, 1) := by decide +kernel
theorem dX12_wordOf_259 : decode cX12_wordOf 259 = .ok (.iconst 0, 1) := by decide +kernel
theorem dX12_wordOf_260 : decode cX12_wordOf 260 = .ok (.iconst 0, 1) := by decide +kernel
theorem dX12_wordOf_261 : decode cX12_wordOf 261 = .ok (.invokestatic 132, 3) := by decide +kernel
theorem dX12_wordOf_264 : decode cX12_wordOf 264 = .ok (.lreturn, 1) := by decide +kernel
theorem dX12_wordOf_265 : decode cX12_wordOf 265 = .ok (.bipush 101, 2) := by decide +kernel
theorem dX12_wordOf_267 : decode cX12_wordOf 267 = .ok (.bipush 97, 2) := by decide +kernel
theorem dX12_wordOf_269 : decode cX12_wordOf 269 = .ok (.bipush 116, 2) := by decide +kernel
theorem dX12_wordOf_271 : decode cX12_wordOf 271 = .ok (.bipush 115, 2) := by decide +kernel
theorem dX12_wordOf_273 : decode cX12_wordOf 273 = .ok (.iconst 0, 1) := by decide +kernel
theorem dX12_wordOf_274 : decode cX12_wordOf 274 = .ok (.iconst 0, 1) := by decide +kernel
theorem dX12_wordOf_275 : decode cX12_wordOf 275 = .ok (.iconst 0, 1) := by decide +kernel
theorem dX12_wordOf_276 : decode cX12_wordOf 276 = .ok (.invokestatic 132, 3) := by decide +kernel
theorem dX12_wordOf_279 : decode cX12_wordOf 279 = .ok (.lreturn, 1) := by decide +kernel
theorem dX12_wordOf_280 : decode cX12_wordOf 280 = .ok (.bipush 115, 2) := by decide +kernel
theorem dX12_wordOf_282 : decode cX12_wordOf 282 = .ok (.bipush 101, 2) := by decide +kernel
theorem dX12_wordOf_284 : decode cX12_wordOf 284 = .ok (.bipush 114, 2) := by decide +kernel
theorem dX12_wordOf_286 : decode cX12_wordOf 286 = .ok (.bipush 118, 2) := by decide +kernel
theorem dX12_wordOf_288 : decode cX12_wordOf 288 = .ok (.bipush 101, 2) := by decide +kernel
theorem dX12_wordOf_290 : decode cX12_wordOf 290 = .ok (.bipush 100, 2) := by decide +kernel
theorem dX12_wordOf_292 : decode cX12_wordOf 292 = .ok (.iconst 0, 1) := by decide +kernel
theorem dX12_wordOf_293 : decode cX12_wordOf 293 = .ok (.invokestatic 132, 3) := by decide +kernel
theorem dX12_wordOf_296 : decode cX12_wordOf 296 = .ok (.lreturn, 1) := by decide +kernel
theorem dX12_wordOf_297 : decode cX12_wordOf 297 = .ok (.bipush 114, 2) := by decide +kernel
theorem dX12_wordOf_299 : decode cX12_wordOf 299 = .ok (.bipush 105, 2) := by decide +kernel
theorem dX12_wordOf_301 : decode cX12_wordOf 301 = .ok (.bipush 115, 2) := by decide +kernel
theorem dX12_wordOf_303 : decode cX12_wordOf 303 = .ok (.bipush 101, 2) := by decide +kernel
theorem dX12_wordOf_305 : decode cX12_wordOf 305 = .ok (.bipush 115, 2) := by decide +kernel
theorem dX12_wordOf_307 : decode cX12_wordOf 307 = .ok (.iconst 0, 1) := by decide +kernel
theorem dX12_wordOf_308 : decode cX12_wordOf 308 = .ok (.iconst 0, 1) := by decide +kernel
theorem dX12_wordOf_309 : decode cX12_wordOf 309 = .ok (.invokestatic 132, 3) := by decide +kernel
theorem dX12_wordOf_312 : decode cX12_wordOf 312 = .ok (.lreturn, 1) := by decide +kernel
theorem dX12_wordOf_313 : decode cX12_wordOf 313 = .ok (.bipush 114, 2) := by decide +kernel
theorem dX12_wordOf_315 : decode cX12_wordOf 315 = .ok (.bipush 101, 2) := by decide +kernel
theorem dX12_wordOf_317 : decode cX12_wordOf 317 = .ok (.bipush 102, 2) := by decide +kernel
theorem dX12_wordOf_319 : decode cX12_wordOf 319 = .ok (.bipush 117, 2) := by decide +kernel
theorem dX12_wordOf_321 : decode cX12_wordOf 321 = .ok (.bipush 115, 2) := by decide +kernel
theorem dX12_wordOf_323 : decode cX12_wordOf 323 = .ok (.bipush 101, 2) := by decide +kernel
theorem dX12_wordOf_325 : decode cX12_wordOf 325 = .ok (.bipush 115, 2) := by decide +kernel
theorem dX12_wordOf_327 : decode cX12_wordOf 327 = .ok (.invokestatic 132, 3) := by decide +kernel
theorem dX12_wordOf_330 : decode cX12_wordOf 330 = .ok (.lreturn, 1) := by decide +kernel
theorem dX12_wordOf_331 : decode cX12_wordOf 331 = .ok (.bipush 97, 2) := by decide +kernel
theorem dX12_wordOf_333 : decode cX12_wordOf 333 = .ok (.bipush 99, 2) := by decide +kernel
theorem dX12_wordOf_335 : decode cX12_wordOf 335 = .ok (.bipush 99, 2) := by decide +kernel
theorem dX12_wordOf_337 : decode cX12_wordOf 337 = .ok (.bipush 101, 2) := by decide +kernel
theorem dX12_wordOf_339 : decode cX12_wordOf 339 = .ok (.bipush 112, 2) := by decide +kernel
theorem dX12_wordOf_341 : decode cX12_wordOf 341 = .ok (.bipush 116, 2) := by decide +kernel
theorem dX12_wordOf_343 : decode cX12_wordOf 343 = .ok (.bipush 115, 2) := by decide +kernel
theorem dX12_wordOf_345 : decode cX12_wordOf 345 = .ok (.invokestatic 132, 3) := by decide +kernel
theorem dX12_wordOf_348 : decode cX12_wordOf 348 = .ok (.lreturn, 1) := by decide +kernel
theorem dX12_wordOf_349 : decode cX12_wordOf 349 = .ok (.bipush 100, 2) := by decide +kernel
theorem dX12_wordOf_351 : decode cX12_wordOf 351 = .ok (.bipush 105, 2) := by decide +kernel
theorem dX12_wordOf_353 : decode cX12_wordOf 353 = .ok (.bipush 101, 2) := by decide +kernel
theorem dX12_wordOf_355 : decode cX12_wordOf 355 = .ok (.bipush 115, 2) := by decide +kernel
theorem dX12_wordOf_357 : decode cX12_wordOf 357 = .ok (.iconst 0, 1) := by decide +kernel
theorem dX12_wordOf_358 : decode cX12_wordOf 358 = .ok (.iconst 0, 1) := by decide +kernel
theorem dX12_wordOf_359 : decode cX12_wordOf 359 = .ok (.iconst 0, 1) := by decide +kernel
theorem dX12_wordOf_360 : decode cX12_wordOf 360 = .ok (.invokestatic 132, 3) := by decide +kernel
theorem dX12_wordOf_363 : decode cX12_wordOf 363 = .ok (.lreturn, 1) := by decide +kernel
theorem dX12_wordOf_364 : decode cX12_wordOf 364 = .ok (.bipush 109, 2) := by decide +kernel
theorem dX12_wordOf_366 : decode cX12_wordOf 366 = .ok (.bipush 101, 2) := by decide +kernel
theorem dX12_wordOf_368 : decode cX12_wordOf 368 = .ok (.bipush 97, 2) := by decide +kernel
theorem dX12_wordOf_370 : decode cX12_wordOf 370 = .ok (.bipush 108, 2) := by decide +kernel
theorem dX12_wordOf_372 : decode cX12_wordOf 372 = .ok (.iconst 0, 1) := by decide +kernel
theorem dX12_wordOf_373 : decode cX12_wordOf 373 = .ok (.iconst 0, 1) := by decide +kernel
theorem dX12_wordOf_374 : decode cX12_wordOf 374 = .ok (.iconst 0, 1) := by decide +kernel
theorem dX12_wordOf_375 : decode cX12_wordOf 375 = .ok (.invokestatic 132, 3) := by decide +kernel
theorem dX12_wordOf_378 : decode cX12_wordOf 378 = .ok (.lreturn, 1) := by decide +kernel
theorem dX12_wordOf_379 : decode cX12_wordOf 379 = .ok (.bipush 111, 2) := by decide +kernel
theorem dX12_wordOf_381 : decode cX12_wordOf 381 = .ok (.bipush 114, 2) := by decide +kernel
theorem dX12_wordOf_383 : decode cX12_wordOf 383 = .ok (.iconst 0, 1) := by decide +kernel
theorem dX12_wordOf_384 : decode cX12_wordOf 384 = .ok (.iconst 0, 1) := by decide +kernel
theorem dX12_wordOf_385 : decode cX12_wordOf 385 = .ok (.iconst 0, 1) := by decide +kernel
theorem dX12_wordOf_386 : decode cX12_wordOf 386 = .ok (.iconst 0, 1) := by decide +kernel
theorem dX12_wordOf_387 : decode cX12_wordOf 387 = .ok (.iconst 0, 1) := by decide +kernel
theorem dX12_wordOf_388 : decode cX12_wordOf 388 = .ok (.invokestatic 132, 3) := by decide +kernel
theorem dX12_wordOf_391 : decode cX12_wordOf 391 = .ok (.lreturn, 1) := by decide +kernel
theorem dX12_wordOf_392 : decode cX12_wordOf 392 = .ok (.bipush 97, 2) := by decide +kernel
theorem dX12_wordOf_394 : decode cX12_wordOf 394 = .ok (.bipush 110, 2) := by decide +kernel
theorem dX12_wordOf_396 : decode cX12_wordOf 396 = .ok (.bipush 100, 2) := by decide +kernel
theorem dX12_wordOf_398 : decode cX12_wordOf 398 = .ok (.iconst 0, 1) := by decide +kernel
theorem dX12_wordOf_399 : decode cX12_wordOf 399 = .ok (.iconst 0, 1) := by decide +kernel
theorem dX12_wordOf_400 : decode cX12_wordOf 400 = .ok (.iconst 0, 1) := by decide +kernel
theorem dX12_wordOf_401 : decode cX12_wordOf 401 = .ok (.iconst 0, 1) := by decide +kernel
theorem dX12_wordOf_402 : decode cX12_wordOf 402 = .ok (.invokestatic 132, 3) := by decide +kernel
theorem dX12_wordOf_405 : decode cX12_wordOf 405 = .ok (.lreturn, 1) := by decide +kernel
theorem dX12_wordOf_406 : decode cX12_wordOf 406 = .ok (.bipush 110, 2) := by decide +kernel
theorem dX12_wordOf_408 : decode cX12_wordOf 408 = .ok (.bipush 111, 2) := by decide +kernel
theorem dX12_wordOf_410 : decode cX12_wordOf 410 = .ok (.bipush 116, 2) := by decide +kernel
theorem dX12_wordOf_412 : decode cX12_wordOf 412 = .ok (.iconst 0, 1) := by decide +kernel
theorem dX12_wordOf_413 : decode cX12_wordOf 413 = .ok (.iconst 0, 1) := by decide +kernel
theorem dX12_wordOf_414 : decode cX12_wordOf 414 = .ok (.iconst 0, 1) := by decide +kernel
theorem dX12_wordOf_415 : decode cX12_wordOf 415 = .ok (.iconst 0, 1) := by decide +kernel
theorem dX12_wordOf_416 : decode cX12_wordOf 416 = .ok (.invokestatic 132, 3) := by decide +kernel
theorem dX12_wordOf_419 : decode cX12_wordOf 419 = .ok (.lreturn, 1) := by decide +kernel
theorem dX12_wordOf_420 : decode cX12_wordOf 420 = .ok (.bipush 100, 2) := by decide +kernel
theorem dX12_wordOf_422 : decode cX12_wordOf 422 = .ok (.bipush 101, 2) := by decide +kernel
theorem dX12_wordOf_424 : decode cX12_wordOf 424 = .ok (.bipush 97, 2) := by decide +kernel
theorem dX12_wordOf_426 : decode cX12_wordOf 426 = .ok (.bipush 100, 2) := by decide +kernel
theorem dX12_wordOf_428 : decode cX12_wordOf 428 = .ok (.iconst 0, 1) := by decide +kernel
theorem dX12_wordOf_429 : decode cX12_wordOf 429 = .ok (.iconst 0, 1) := by decide +kernel
theorem dX12_wordOf_430 : decode cX12_wordOf 430 = .ok (.iconst 0, 1) := by decide +kernel
theorem dX12_wordOf_431 : decode cX12_wordOf 431 = .ok (.invokestatic 132, 3) := by decide +kernel
theorem dX12_wordOf_434 : decode cX12_wordOf 434 = .ok (.lreturn, 1) := by decide +kernel
theorem dX12_wordOf_435 : decode cX12_wordOf 435 = .ok (.bipush 114, 2) := by decide +kernel
theorem dX12_wordOf_437 : decode cX12_wordOf 437 = .ok (.bipush 101, 2) := by decide +kernel
theorem dX12_wordOf_439 : decode cX12_wordOf 439 = .ok (.bipush 102, 2) := by decide +kernel
theorem dX12_wordOf_441 : decode cX12_wordOf 441 = .ok (.bipush 117, 2) := by decide +kernel
theorem dX12_wordOf_443 : decode cX12_wordOf 443 = .ok (.bipush 115, 2) := by decide +kernel
theorem dX12_wordOf_445 : decode cX12_wordOf 445 = .ok (.bipush 101, 2) := by decide +kernel
theorem dX12_wordOf_447 : decode cX12_wordOf 447 = .ok (.bipush 100, 2) := by decide +kernel
theorem dX12_wordOf_449 : decode cX12_wordOf 449 = .ok (.invokestatic 132, 3) := by decide +kernel
theorem dX12_wordOf_452 : decode cX12_wordOf 452 = .ok (.lreturn, 1) := by decide +kernel
theorem dX12_wordOf_453 : decode cX12_wordOf 453 = .ok (.bipush 99, 2) := by decide +kernel
theorem dX12_wordOf_455 : decode cX12_wordOf 455 = .ok (.bipush 108, 2) := by decide +kernel
theorem dX12_wordOf_457 : decode cX12_wordOf 457 = .ok (.bipush 101, 2) := by decide +kernel
theorem dX12_wordOf_459 : decode cX12_wordOf 459 = .ok (.bipush 97, 2) := by decide +kernel
theorem dX12_wordOf_461 : decode cX12_wordOf 461 = .ok (.bipush 110, 2) := by decide +kernel
theorem dX12_wordOf_463 : decode cX12_wordOf 463 = .ok (.iconst 0, 1) := by decide +kernel
theorem dX12_wordOf_464 : decode cX12_wordOf 464 = .ok (.iconst 0, 1) := by decide +kernel
theorem dX12_wordOf_465 : decode cX12_wordOf 465 = .ok (.invokestatic 132, 3) := by decide +kernel
theorem dX12_wordOf_468 : decode cX12_wordOf 468 = .ok (.lreturn, 1) := by decide +kernel
theorem dX12_wordOf_469 : decode cX12_wordOf 469 = .ok (.bipush 111, 2) := by decide +kernel
theorem dX12_wordOf_471 : decode cX12_wordOf 471 = .ok (.bipush 102, 2) := by decide +kernel
theorem dX12_wordOf_473 : decode cX12_wordOf 473 = .ok (.iconst 0, 1) := by decide +kernel
theorem dX12_wordOf_474 : decode cX12_wordOf 474 = .ok (.iconst 0, 1) := by decide +kernel
theorem dX12_wordOf_475 : decode cX12_wordOf 475 = .ok (.iconst 0, 1) := by decide +kernel
theorem dX12_wordOf_476 : decode cX12_wordOf 476 = .ok (.iconst 0, 1) := by decide +kernel
theorem dX12_wordOf_477 : decode cX12_wordOf 477 = .ok (.iconst 0, 1) := by decide +kernel
theorem dX12_wordOf_478 : decode cX12_wordOf 478 = .ok (.invokestatic 132, 3) := by decide +kernel
theorem dX12_wordOf_481 : decode cX12_wordOf 481 = .ok (.lreturn, 1) := by decide +kernel
theorem dX12_wordOf_482 : decode cX12_wordOf 482 = .ok (.bipush 104, 2) := by decide +kernel
theorem dX12_wordOf_484 : decode cX12_wordOf 484 = .ok (.bipush 97, 2) := by decide +kernel
theorem dX12_wordOf_486 : decode cX12_wordOf 486 = .ok (.bipush 115, 2) := by decide +kernel
theorem dX12_wordOf_488 : decode cX12_wordOf 488 = .ok (.iconst 0, 1) := by decide +kernel
theorem dX12_wordOf_489 : decode cX12_wordOf 489 = .ok (.iconst 0, 1) := by decide +kernel
theorem dX12_wordOf_490 : decode cX12_wordOf 490 = .ok (.iconst 0, 1) := by decide +kernel
theorem dX12_wordOf_491 : decode cX12_wordOf 491 = .ok (.iconst 0, 1) := by decide +kernel
theorem dX12_wordOf_492 : decode cX12_wordOf 492 = .ok (.invokestatic 132, 3) := by decide +kernel
theorem dX12_wordOf_495 : decode cX12_wordOf 495 = .ok (.lreturn, 1) := by decide +kernel
theorem dX12_wordOf_496 : decode cX12_wordOf 496 = .ok (.bipush 119, 2) := by decide +kernel
theorem dX12_wordOf_498 : decode cX12_wordOf 498 = .ok (.bipush 97, 2) := by decide +kernel
theorem dX12_wordOf_500 : decode cX12_wordOf 500 = .ok (.bipush 110, 2) := by decide +kernel
theorem dX12_wordOf_502 : decode cX12_wordOf 502 = .ok (.bipush 116, 2) := by decide +kernel
theorem dX12_wordOf_504 : decode cX12_wordOf 504 = .ok (.bipush 115, 2) := by decide +kernel
theorem dX12_wordOf_506 : decode cX12_wordOf 506 = .ok (.iconst 0, 1) := by decide +kernel
theorem dX12_wordOf_507 : decode cX12_wordOf 507 = .ok (.iconst 0, 1) := by decide +kernel
theorem dX12_wordOf_508 : decode cX12_wordOf 508 = .ok (.invokestatic 132, 3) := by decide +kernel
theorem dX12_wordOf_511 : decode cX12_wordOf 511 = .ok (.lreturn, 1) := by decide +kernel
theorem dX12_wordOf_512 : decode cX12_wordOf 512 = .ok (.bipush 101, 2) := by decide +kernel
theorem dX12_wordOf_514 : decode cX12_wordOf 514 = .ok (.bipush 97, 2) := by decide +kernel
theorem dX12_wordOf_516 : decode cX12_wordOf 516 = .ok (.bipush 116, 2) := by decide +kernel
theorem dX12_wordOf_518 : decode cX12_wordOf 518 = .ok (.bipush 101, 2) := by decide +kernel
theorem dX12_wordOf_520 : decode cX12_wordOf 520 = .ok (.bipush 110, 2) := by decide +kernel
theorem dX12_wordOf_522 : decode cX12_wordOf 522 = .ok (.iconst 0, 1) := by decide +kernel
theorem dX12_wordOf_523 : decode cX12_wordOf 523 = .ok (.iconst 0, 1) := by decide +kernel
theorem dX12_wordOf_524 : decode cX12_wordOf 524 = .ok (.invokestatic 132, 3) := by decide +kernel
theorem dX12_wordOf_527 : decode cX12_wordOf 527 = .ok (.lreturn, 1) := by decide +kernel
theorem dX12_wordOf_528 : decode cX12_wordOf 528 = .ok (.bipush 104, 2) := by decide +kernel
theorem dX12_wordOf_530 : decode cX12_wordOf 530 = .ok (.bipush 117, 2) := by decide +kernel
theorem dX12_wordOf_532 : decode cX12_wordOf 532 = .ok (.bipush 110, 2) := by decide +kernel
theorem dX12_wordOf_534 : decode cX12_wordOf 534 = .ok (.bipush 103, 2) := by decide +kernel
theorem dX12_wordOf_536 : decode cX12_wordOf 536 = .ok (.bipush 101, 2) := by decide +kernel
theorem dX12_wordOf_538 : decode cX12_wordOf 538 = .ok (.bipush 114, 2) := by decide +kernel
theorem dX12_wordOf_540 : decode cX12_wordOf 540 = .ok (.iconst 0, 1) := by decide +kernel
theorem dX12_wordOf_541 : decode cX12_wordOf 541 = .ok (.invokestatic 132, 3) := by decide +kernel
theorem dX12_wordOf_544 : decode cX12_wordOf 544 = .ok (.lreturn, 1) := by decide +kernel
theorem dX12_wordOf_545 : decode cX12_wordOf 545 = .ok (.bipush 110, 2) := by decide +kernel
theorem dX12_wordOf_547 : decode cX12_wordOf 547 = .ok (.bipush 117, 2) := by decide +kernel
theorem dX12_wordOf_549 : decode cX12_wordOf 549 = .ok (.bipush 109, 2) := by decide +kernel
theorem dX12_wordOf_551 : decode cX12_wordOf 551 = .ok (.bipush 98, 2) := by decide +kernel
theorem dX12_wordOf_553 : decode cX12_wordOf 553 = .ok (.bipush 101, 2) := by decide +kernel
theorem dX12_wordOf_555 : decode cX12_wordOf 555 = .ok (.bipush 114, 2) := by decide +kernel
theorem dX12_wordOf_557 : decode cX12_wordOf 557 = .ok (.iconst 0, 1) := by decide +kernel
theorem dX12_wordOf_558 : decode cX12_wordOf 558 = .ok (.invokestatic 132, 3) := by decide +kernel
theorem dX12_wordOf_561 : decode cX12_wordOf 561 = .ok (.lreturn, 1) := by decide +kernel
theorem rc_12 : Rg 12 12 12 := ⟨by decide, by decide⟩
theorem rc_13 : Rg 13 13 13 := ⟨by decide, by decide⟩
theorem rc_21 : Rg 21 21 21 := ⟨by decide, by decide⟩
theorem rc_22 : Rg 22 22 22 := ⟨by decide, by decide⟩
theorem rc_25 : Rg 25 25 25 := ⟨by decide, by decide⟩
theorem rc_26 : Rg 26 26 26 := ⟨by decide, by decide⟩
theorem rc_98 : Rg 98 98 98 := ⟨by decide, by decide⟩
theorem rc_104 : Rg 104 104 104 := ⟨by decide, by decide⟩
theorem rc_105 : Rg 105 105 105 := ⟨by decide, by decide⟩
theorem rc_108 : Rg 108 108 108 := ⟨by decide, by decide⟩
theorem rc_109 : Rg 109 109 109 := ⟨by decide, by decide⟩
theorem rc_110 : Rg 110 110 110 := ⟨by decide, by decide⟩
theorem rc_111 : Rg 111 111 111 := ⟨by decide, by decide⟩
theorem rc_112 : Rg 112 112 112 := ⟨by decide, by decide⟩
theorem rc_114 : Rg 114 114 114 := ⟨by decide, by decide⟩
theorem rc_115 : Rg 115 115 115 := ⟨by decide, by decide⟩
theorem rc_116 : Rg 116 116 116 := ⟨by decide, by decide⟩
theorem rc_117 : Rg 117 117 117 := ⟨by decide, by decide⟩
theorem rc_118 : Rg 118 118 118 := ⟨by decide, by decide⟩
theorem rc_119 : Rg 119 119 119 := ⟨by decide, by decide⟩
theorem rc_120 : Rg 120 120 120 := ⟨by decide, by decide⟩
set_option maxRecDepth 100000 in
set_option maxHeartbeats 8000000 in
theorem c_X12_come {l : Launch} {D : va_G} {cy : Nat → ClassId} {L : List Nat} {κ ln : Nat → Nat} {R : Nat → Nat → Option Nat} {I : Nat → Nat → Int32} {J : Nat → Nat → Int64} {ow : Nat → Nat × Nat} (W9 : ∀ a ∈ L, Shp L κ ln R ow a) {x : Nat} (hLx : x ∈ L) (hkx : κ x = 12) (a0 : Int32) (hU : Iw L κ R ow I) (hp0 : Rg 0 936 (I x 2)) : CtV l yX12_come cX12_come 3 none { frames := 0, cells := 0, slots := 0, locals := 0 } D cy L κ ln R I J [.ref x, .int a0] (fun I2 J2 => Iw L κ R ow I2 ∧ Fq L κ ow [1202, 82100] I I2 ∧ Fq L κ ow [] J J2 ∧ ((MTf R I2 J2 x, NRf R I2 J2 x) = mCome a0 (MTf R I J x) (NRf R I J x)) ∧ (I2 x 2).toInt = (I x 2).toInt + 4) := by
  refine CtV.of (by decide +kernel) (Nat.le_of_ble_eq_true rfl) ?_
  intro p e s m below meth c B K
  have C := B.1
  have hF : Fq L κ ow [1202, 82100] I I := fq_rf
  have hG : Fq L κ ow [] J J := fq_rf
  obtain ⟨xp0, hxp0, rxp0⟩ : ∃ z, I x 2 = z ∧ Rg 0 936 z := ⟨_, rfl, hp0⟩
  obtain ⟨b_1, hb_1, hb_1L, hb_1k, hb_1n, hb_1o⟩ := shp_a (W9 x hLx) hkx 1 14 940 rfl (by decide)
  have emqx : ∀ I J, MTf R I J x = MTq I J x b_1 := fun I J => by simp only [MTf, rr_, Option.getD_some, hb_1]
  have wmqx : mqw_ L κ ow x b_1 := ⟨⟨hLx, hb_1L⟩, ⟨(ro_o hkx (by decide)), (ro_a hb_1k (by decide) hb_1o hkx rfl)⟩⟩
  obtain ⟨s_2, hs_2⟩ : ∃ z, MTq I J x b_1 = z := ⟨_, rfl⟩
  obtain ⟨b_3, hb_3, hb_3L, hb_3k, hb_3n, hb_3o⟩ := shp_a (W9 x hLx) hkx 15 14 72 rfl (by decide)
  obtain ⟨b_4, hb_4, hb_4L, hb_4k, hb_4n, hb_4o⟩ := shp_a (W9 x hLx) hkx 20 15 13 rfl (by decide)
  have enqx : ∀ I J, NRf R I J x = NRq I J x b_3 b_4 := fun I J => by simp only [NRf, rr_, Option.getD_some, hb_3, hb_4]
  have wnqx : nqw_ L κ ow x b_3 b_4 := ⟨⟨hLx, hb_3L, hb_4L⟩, ⟨(ro_o hkx (by decide)), (ro_a hb_3k (by decide) hb_3o hkx rfl), (ro_a hb_4k (by decide) hb_4o hkx rfl)⟩⟩
  obtain ⟨s_5, hs_5⟩ : ∃ z, NRq I J x b_3 b_4 = z := ⟨_, rfl⟩
  refine g_lo (is := [0, 1]) (lo2 := [(0, .ref x), (1, .int a0)]) rfl ?_
  refine g_bipush C (v := 24) dX12_come_0 (by decide) ?_
  refine g_istore_n C dX12_come_2 rfl (by decide) (lo2 := [(2, .int 24), (0, .ref x), (1, .int a0)]) rfl ?_
  refine g_iload_n C 0 dX12_come_3 rfl rfl ?_
  refine g_if_lt C (tgt := 39) dX12_come_4 (by decide) (fun h_6 => ?_) (fun h_6 => ?_)
  · skip
    exact absurd (h_6) (by decide)
  · skip
    refine g_aload_n C 1 dX12_come_7 rfl rfl ?_
    refine g_getR C K hLx hkx f_12_7 hb_1 dX12_come_8 ?_
    refine g_aload_n C 1 dX12_come_11 rfl rfl ?_
    have f_7 : s_5.taped = xp0 := (congrArg NR_.taped hs_5).symm.trans hxp0
    refine g_getI C K hLx hkx f_12_85 (v := xp0) hxp0 dX12_come_12 ?_
    refine g_iload_n C 2 dX12_come_15 rfl rfl ?_
    refine g_iload_n C 0 dX12_come_16 rfl rfl ?_
    obtain ⟨x_8, hx_8, rx_8⟩ := ex_any (z0 := (Int32.toUInt32 (a0) >>> (Int32.toUInt32 (24) &&& Int32.toUInt32 31)).toInt32)
    refine g_iushr C (v := x_8) dX12_come_17 hx_8 ?_
    refine g_sipush C (v := 255) dX12_come_18 (by decide) ?_
    obtain ⟨x_9, hx_9, rx_9⟩ := ex_andr (x := x_8) (y := 255) (b := 255) (rg_w rc_255 (by decide) (by decide))
    refine g_iand C (v := x_9) dX12_come_21 hx_9 ?_
    refine h_iast C K hb_1L hb_1k (xp0.toNatClampNeg) (rfl) (ix_0 rxp0 (by decide)) (ix_lt rxp0 (by decide) hb_1n (by decide)) dX12_come_22 (fun I_10 hI_10 => ?_)
    have hU_11 := iw_put W9 hU hI_10 (ro_a hb_1k (by decide) hb_1o hkx rfl) (lo := 0) (hi := 255) (rfl) (rx_9) rfl
    have hF_12 := fq_puta hF hI_10 (ro_a hb_1k (by decide) hb_1o hkx rfl) (by decide) (by decide)
    have hs_13 : MTq I_10 J x b_1 = (MT_.w_tp s_2 (up1 (s_2.tp) (xp0.toNatClampNeg) (x_9))) := by rw [hI_10]; exact ((mq_tp wmqx).trans (congrArg (fun z : MT_ => MT_.w_tp z (up1 (z.tp) (xp0.toNatClampNeg) (x_9))) hs_2)).trans rfl
    have hs_14 : NRq I_10 J x b_3 b_4 = s_5 := by rw [hI_10]; exact (nq_oI wnqx (ro_a hb_1k (by decide) hb_1o hkx rfl) (by decide)).trans hs_5
    refine g_aload_n C 1 dX12_come_23 rfl rfl ?_
    refine g_dup C dX12_come_24 rfl ?_
    refine g_getI C K hLx hkx f_12_85 (v := xp0) (kp_k (κ := κ) hI_10 (by rw [hkx, hb_1k]; decide) hxp0) dX12_come_25 ?_
    refine g_iconst C (v := 1) dX12_come_28 (by decide) ?_
    obtain ⟨x_15, hx_15, rx_15, tx_15⟩ := ex_add 1 937 rxp0 rc_1 (by decide) (by decide) (by decide) (by decide)
    refine g_iadd C (v := x_15) dX12_come_29 hx_15 ?_
    refine h_putI C K hLx hkx f_12_85 p_12_2 dX12_come_30 (fun I_16 hI_16 => ?_)
    have hU_17 := iw_put W9 hU_11 hI_16 (ro_o hkx (by decide)) (lo := 0) (hi := 940) (rfl) (rg_w rx_15 (by decide) (by decide)) rfl
    have hF_18 := fq_puto hF_12 hI_16 hkx (by decide) (by decide)
    have hs_19 : MTq I_16 J x b_1 = (MT_.w_tp s_2 (up1 (s_2.tp) (xp0.toNatClampNeg) (x_9))) := by rw [hI_16]; exact (mq_uIt wmqx (by decide)).trans hs_13
    have hs_20 : NRq I_16 J x b_3 b_4 = (NR_.w_taped s_5 (x_15)) := by rw [hI_16]; exact ((nq_taped wnqx).trans (congrArg (fun z : NR_ => NR_.w_taped z (x_15)) hs_14)).trans rfl
    refine g_iinc C dX12_come_33 (k := 0) (v := 16) rfl (by decide) (by decide) (lo2 := [(2, .int 16), (0, .ref x), (1, .int a0)]) rfl ?_
    refine g_goto C (tgt := 3) dX12_come_36 (by decide) ?_
    refine g_iload_n C 0 dX12_come_3 rfl rfl ?_
    refine g_if_lt C (tgt := 39) dX12_come_4 (by decide) (fun h_21 => ?_) (fun h_21 => ?_)
    · skip
      exact absurd (h_21) (by decide)
    · skip
      refine g_aload_n C 1 dX12_come_7 rfl rfl ?_
      refine g_getR C K hLx hkx f_12_7 hb_1 dX12_come_8 ?_
      refine g_aload_n C 1 dX12_come_11 rfl rfl ?_
      refine g_getI C K hLx hkx f_12_85 (v := x_15) (kp_s hI_16) dX12_come_12 ?_
      refine g_iload_n C 2 dX12_come_15 rfl rfl ?_
      refine g_iload_n C 0 dX12_come_16 rfl rfl ?_
      obtain ⟨x_22, hx_22, rx_22⟩ := ex_any (z0 := (Int32.toUInt32 (a0) >>> (Int32.toUInt32 (16) &&& Int32.toUInt32 31)).toInt32)
      refine g_iushr C (v := x_22) dX12_come_17 hx_22 ?_
      refine g_sipush C (v := 255) dX12_come_18 (by decide) ?_
      obtain ⟨x_23, hx_23, rx_23⟩ := ex_andr (x := x_22) (y := 255) (b := 255) (rg_w rc_255 (by decide) (by decide))
      refine g_iand C (v := x_23) dX12_come_21 hx_23 ?_
      refine h_iast C K hb_1L hb_1k (x_15.toNatClampNeg) (rfl) (ix_0 rx_15 (by decide)) (ix_lt rx_15 (by decide) hb_1n (by decide)) dX12_come_22 (fun I_24 hI_24 => ?_)
      have hU_25 := iw_put W9 hU_17 hI_24 (ro_a hb_1k (by decide) hb_1o hkx rfl) (lo := 0) (hi := 255) (rfl) (rx_23) rfl
      have hF_26 := fq_puta hF_18 hI_24 (ro_a hb_1k (by decide) hb_1o hkx rfl) (by decide) (by decide)
      have hs_27 : MTq I_24 J x b_1 = (MT_.w_tp s_2 (up1 (up1 (s_2.tp) (xp0.toNatClampNeg) (x_9)) (x_15.toNatClampNeg) (x_23))) := by rw [hI_24]; exact ((mq_tp wmqx).trans (congrArg (fun z : MT_ => MT_.w_tp z (up1 (z.tp) (x_15.toNatClampNeg) (x_23))) hs_19)).trans rfl
      have hs_28 : NRq I_24 J x b_3 b_4 = (NR_.w_taped s_5 (x_15)) := by rw [hI_24]; exact (nq_oI wnqx (ro_a hb_1k (by decide) hb_1o hkx rfl) (by decide)).trans hs_20
      refine g_aload_n C 1 dX12_come_23 rfl rfl ?_
      refine g_dup C dX12_come_24 rfl ?_
      refine g_getI C K hLx hkx f_12_85 (v := x_15) (kp_k (κ := κ) hI_24 (by rw [hkx, hb_1k]; decide) (kp_s hI_16)) dX12_come_25 ?_
      refine g_iconst C (v := 1) dX12_come_28 (by decide) ?_
      obtain ⟨x_29, hx_29, rx_29, tx_29⟩ := ex_add 2 938 rx_15 rc_1 (by decide) (by decide) (by decide) (by decide)
      refine g_iadd C (v := x_29) dX12_come_29 hx_29 ?_
      refine h_putI C K hLx hkx f_12_85 p_12_2 dX12_come_30 (fun I_30 hI_30 => ?_)
      have hU_31 := iw_put W9 hU_25 hI_30 (ro_o hkx (by decide)) (lo := 0) (hi := 940) (rfl) (rg_w rx_29 (by decide) (by decide)) rfl
      have hF_32 := fq_puto hF_26 hI_30 hkx (by decide) (by decide)
      have hs_33 : MTq I_30 J x b_1 = (MT_.w_tp s_2 (up1 (up1 (s_2.tp) (xp0.toNatClampNeg) (x_9)) (x_15.toNatClampNeg) (x_23))) := by rw [hI_30]; exact (mq_uIt wmqx (by decide)).trans hs_27
      have hs_34 : NRq I_30 J x b_3 b_4 = (NR_.w_taped s_5 (x_29)) := by rw [hI_30]; exact ((nq_taped wnqx).trans (congrArg (fun z : NR_ => NR_.w_taped z (x_29)) hs_28)).trans rfl
      refine g_iinc C dX12_come_33 (k := 0) (v := 8) rfl (by decide) (by decide) (lo2 := [(2, .int 8), (0, .ref x), (1, .int a0)]) rfl ?_
      refine g_goto C (tgt := 3) dX12_come_36 (by decide) ?_
      refine g_iload_n C 0 dX12_come_3 rfl rfl ?_
      refine g_if_lt C (tgt := 39) dX12_come_4 (by decide) (fun h_35 => ?_) (fun h_35 => ?_)
      · skip
        exact absurd (h_35) (by decide)
      · skip
        refine g_aload_n C 1 dX12_come_7 rfl rfl ?_
        refine g_getR C K hLx hkx f_12_7 hb_1 dX12_come_8 ?_
        refine g_aload_n C 1 dX12_come_11 rfl rfl ?_
        refine g_getI C K hLx hkx f_12_85 (v := x_29) (kp_s hI_30) dX12_come_12 ?_
        refine g_iload_n C 2 dX12_come_15 rfl rfl ?_
        refine g_iload_n C 0 dX12_come_16 rfl rfl ?_
        obtain ⟨x_36, hx_36, rx_36⟩ := ex_ushr8 (x := a0)
        refine g_iushr C (v := x_36) dX12_come_17 hx_36 ?_
        refine g_sipush C (v := 255) dX12_come_18 (by decide) ?_
        obtain ⟨x_37, hx_37, rx_37⟩ := ex_andr (x := x_36) (y := 255) (b := 255) (rg_w rc_255 (by decide) (by decide))
        refine g_iand C (v := x_37) dX12_come_21 hx_37 ?_
        refine h_iast C K hb_1L hb_1k (x_29.toNatClampNeg) (rfl) (ix_0 rx_29 (by decide)) (ix_lt rx_29 (by decide) hb_1n (by decide)) dX12_come_22 (fun I_38 hI_38 => ?_)
        have hU_39 := iw_put W9 hU_31 hI_38 (ro_a hb_1k (by decide) hb_1o hkx rfl) (lo := 0) (hi := 255) (rfl) (rx_37) rfl
        have hF_40 := fq_puta hF_32 hI_38 (ro_a hb_1k (by decide) hb_1o hkx rfl) (by decide) (by decide)
        have hs_41 : MTq I_38 J x b_1 = (MT_.w_tp s_2 (up1 (up1 (up1 (s_2.tp) (xp0.toNatClampNeg) (x_9)) (x_15.toNatClampNeg) (x_23)) (x_29.toNatClampNeg) (x_37))) := by rw [hI_38]; exact ((mq_tp wmqx).trans (congrArg (fun z : MT_ => MT_.w_tp z (up1 (z.tp) (x_29.toNatClampNeg) (x_37))) hs_33)).trans rfl
        have hs_42 : NRq I_38 J x b_3 b_4 = (NR_.w_taped s_5 (x_29)) := by rw [hI_38]; exact (nq_oI wnqx (ro_a hb_1k (by decide) hb_1o hkx rfl) (by decide)).trans hs_34
        refine g_aload_n C 1 dX12_come_23 rfl rfl ?_
        refine g_dup C dX12_come_24 rfl ?_
        refine g_getI C K hLx hkx f_12_85 (v := x_29) (kp_k (κ := κ) hI_38 (by rw [hkx, hb_1k]; decide) (kp_s hI_30)) dX12_come_25 ?_
        refine g_iconst C (v := 1) dX12_come_28 (by decide) ?_
        obtain ⟨x_43, hx_43, rx_43, tx_43⟩ := ex_add 3 939 rx_29 rc_1 (by decide) (by decide) (by decide) (by decide)
        refine g_iadd C (v := x_43) dX12_come_29 hx_43 ?_
        refine h_putI C K hLx hkx f_12_85 p_12_2 dX12_come_30 (fun I_44 hI_44 => ?_)
        have hU_45 := iw_put W9 hU_39 hI_44 (ro_o hkx (by decide)) (lo := 0) (hi := 940) (rfl) (rg_w rx_43 (by decide) (by decide)) rfl
        have hF_46 := fq_puto hF_40 hI_44 hkx (by decide) (by decide)
        have hs_47 : MTq I_44 J x b_1 = (MT_.w_tp s_2 (up1 (up1 (up1 (s_2.tp) (xp0.toNatClampNeg) (x_9)) (x_15.toNatClampNeg) (x_23)) (x_29.toNatClampNeg) (x_37))) := by rw [hI_44]; exact (mq_uIt wmqx (by decide)).trans hs_41
        have hs_48 : NRq I_44 J x b_3 b_4 = (NR_.w_taped s_5 (x_43)) := by rw [hI_44]; exact ((nq_taped wnqx).trans (congrArg (fun z : NR_ => NR_.w_taped z (x_43)) hs_42)).trans rfl
        refine g_iinc C dX12_come_33 (k := 0) (v := 0) rfl (by decide) (by decide) (lo2 := [(2, .int 0), (0, .ref x), (1, .int a0)]) rfl ?_
        refine g_goto C (tgt := 3) dX12_come_36 (by decide) ?_
        refine g_iload_n C 0 dX12_come_3 rfl rfl ?_
        refine g_if_lt C (tgt := 39) dX12_come_4 (by decide) (fun h_49 => ?_) (fun h_49 => ?_)
        · skip
          exact absurd (h_49) (by decide)
        · skip
          refine g_aload_n C 1 dX12_come_7 rfl rfl ?_
          refine g_getR C K hLx hkx f_12_7 hb_1 dX12_come_8 ?_
          refine g_aload_n C 1 dX12_come_11 rfl rfl ?_
          refine g_getI C K hLx hkx f_12_85 (v := x_43) (kp_s hI_44) dX12_come_12 ?_
          refine g_iload_n C 2 dX12_come_15 rfl rfl ?_
          refine g_iload_n C 0 dX12_come_16 rfl rfl ?_
          obtain ⟨x_50, hx_50, rx_50⟩ := ex_any (z0 := (Int32.toUInt32 (a0) >>> (Int32.toUInt32 (0) &&& Int32.toUInt32 31)).toInt32)
          refine g_iushr C (v := x_50) dX12_come_17 hx_50 ?_
          refine g_sipush C (v := 255) dX12_come_18 (by decide) ?_
          obtain ⟨x_51, hx_51, rx_51⟩ := ex_andr (x := x_50) (y := 255) (b := 255) (rg_w rc_255 (by decide) (by decide))
          refine g_iand C (v := x_51) dX12_come_21 hx_51 ?_
          refine h_iast C K hb_1L hb_1k (x_43.toNatClampNeg) (rfl) (ix_0 rx_43 (by decide)) (ix_lt rx_43 (by decide) hb_1n (by decide)) dX12_come_22 (fun I_52 hI_52 => ?_)
          have hU_53 := iw_put W9 hU_45 hI_52 (ro_a hb_1k (by decide) hb_1o hkx rfl) (lo := 0) (hi := 255) (rfl) (rx_51) rfl
          have hF_54 := fq_puta hF_46 hI_52 (ro_a hb_1k (by decide) hb_1o hkx rfl) (by decide) (by decide)
          have hs_55 : MTq I_52 J x b_1 = (MT_.w_tp s_2 (up1 (up1 (up1 (up1 (s_2.tp) (xp0.toNatClampNeg) (x_9)) (x_15.toNatClampNeg) (x_23)) (x_29.toNatClampNeg) (x_37)) (x_43.toNatClampNeg) (x_51))) := by rw [hI_52]; exact ((mq_tp wmqx).trans (congrArg (fun z : MT_ => MT_.w_tp z (up1 (z.tp) (x_43.toNatClampNeg) (x_51))) hs_47)).trans rfl
          have hs_56 : NRq I_52 J x b_3 b_4 = (NR_.w_taped s_5 (x_43)) := by rw [hI_52]; exact (nq_oI wnqx (ro_a hb_1k (by decide) hb_1o hkx rfl) (by decide)).trans hs_48
          refine g_aload_n C 1 dX12_come_23 rfl rfl ?_
          refine g_dup C dX12_come_24 rfl ?_
          refine g_getI C K hLx hkx f_12_85 (v := x_43) (kp_k (κ := κ) hI_52 (by rw [hkx, hb_1k]; decide) (kp_s hI_44)) dX12_come_25 ?_
          refine g_iconst C (v := 1) dX12_come_28 (by decide) ?_
          obtain ⟨x_57, hx_57, rx_57, tx_57⟩ := ex_add 4 940 rx_43 rc_1 (by decide) (by decide) (by decide) (by decide)
          refine g_iadd C (v := x_57) dX12_come_29 hx_57 ?_
          refine h_putI C K hLx hkx f_12_85 p_12_2 dX12_come_30 (fun I_58 hI_58 => ?_)
          have hU_59 := iw_put W9 hU_53 hI_58 (ro_o hkx (by decide)) (lo := 0) (hi := 940) (rfl) (rg_w rx_57 (by decide) (by decide)) rfl
          have hF_60 := fq_puto hF_54 hI_58 hkx (by decide) (by decide)
          have hs_61 : MTq I_58 J x b_1 = (MT_.w_tp s_2 (up1 (up1 (up1 (up1 (s_2.tp) (xp0.toNatClampNeg) (x_9)) (x_15.toNatClampNeg) (x_23)) (x_29.toNatClampNeg) (x_37)) (x_43.toNatClampNeg) (x_51))) := by rw [hI_58]; exact (mq_uIt wmqx (by decide)).trans hs_55
          have hs_62 : NRq I_58 J x b_3 b_4 = (NR_.w_taped s_5 (x_57)) := by rw [hI_58]; exact ((nq_taped wnqx).trans (congrArg (fun z : NR_ => NR_.w_taped z (x_57)) hs_56)).trans rfl
          refine g_iinc C dX12_come_33 (k := 0) (v := (-8)) rfl (by decide) (by decide) (lo2 := [(2, .int (-8)), (0, .ref x), (1, .int a0)]) rfl ?_
          refine g_goto C (tgt := 3) dX12_come_36 (by decide) ?_
          refine g_iload_n C 0 dX12_come_3 rfl rfl ?_
          refine g_if_lt C (tgt := 39) dX12_come_4 (by decide) (fun h_63 => ?_) (fun h_63 => ?_)
          · skip
            exact g_vret B K rfl ⟨hU_59, hF_60, hG, (by simp only [mCome, mPutB, emqx, hs_61, hs_2, enqx, hs_62, hs_5, h_6, (nlt h_6), f_7, hx_8, hx_9, hx_15, h_21, (nlt h_21), hx_22, hx_23, hx_29, h_35, (nlt h_35), hx_36, hx_37, hx_43, h_49, (nlt h_49), hx_50, hx_51, hx_57, h_63, if_true, if_false, mqM_tp, mqM_size, mqM_limit, mqM_to, mqM_frm, mqM_kind, mqM_number, mqM_sign, mqM_word, MT_.w_tp, MT_.w_size, MT_.w_limit, MT_.w_to, MT_.w_frm, MT_.w_kind, MT_.w_number, MT_.w_sign, MT_.w_word, nqM_rd, nqM_rn, nqM_taped, nqM_mfault, nqM_mplace, nqM_told, nqM_hl, nqM_hd, NR_.w_rd, NR_.w_rn, NR_.w_taped, NR_.w_mfault, NR_.w_mplace, NR_.w_told, NR_.w_hl, NR_.w_hd]), (cm_4 (kp_s hI_58) hxp0 (by have := (ti_k tx_57 rc_1); have := (ti_k tx_43 rc_1); have := (ti_k tx_29 rc_1); have := (ti_k tx_15 rc_1); omega))⟩ dX12_come_39
          · skip
            exact absurd (nlt h_63) (by decide)
set_option maxRecDepth 100000 in
set_option maxHeartbeats 8000000 in
theorem c_X12_feed {l : Launch} {D : va_G} {cy : Nat → ClassId} {L : List Nat} {κ ln : Nat → Nat} {R : Nat → Nat → Option Nat} {I : Nat → Nat → Int32} {J : Nat → Nat → Int64} {ow : Nat → Nat × Nat} (W9 : ∀ a ∈ L, Shp L κ ln R ow a) {x : Nat} (hLx : x ∈ L) (hkx : κ x = 12) (a0 : Int32) (a1 : Int32) (a2 : Int32) (a3 : Int32) (a4 : Int32) (hU : Iw L κ R ow I) : CtI l yX12_feed cX12_feed 6 (some .int) { frames := 1, cells := 0, slots := 0, locals := 22 } D cy L κ ln R I J [.ref x, .int a0, .int a1, .int a2, .int a3, .int a4] (fun r I2 J2 => Iw L κ R ow I2 ∧ Fq L κ ow [1200, 1202, 82100] I I2 ∧ Fq L κ ow [] J J2 ∧ Rg (-1) 940 r ∧ ((r, MTf R I2 J2 x, NRf R I2 J2 x) = mFeed a0 a1 a2 a3 a4 (MTf R I J x) (NRf R I J x))) := by
  refine CtI.of (by decide +kernel) (Nat.le_of_ble_eq_true rfl) ?_
  intro p e s m below meth c B K
  have C := B.1
  have hF : Fq L κ ow [1200, 1202, 82100] I I := fq_rf
  have hG : Fq L κ ow [] J J := fq_rf
  obtain ⟨b_1, hb_1, hb_1L, hb_1k, hb_1n, hb_1o⟩ := shp_a (W9 x hLx) hkx 1 14 940 rfl (by decide)
  have emqx : ∀ I J, MTf R I J x = MTq I J x b_1 := fun I J => by simp only [MTf, rr_, Option.getD_some, hb_1]
  have wmqx : mqw_ L κ ow x b_1 := ⟨⟨hLx, hb_1L⟩, ⟨(ro_o hkx (by decide)), (ro_a hb_1k (by decide) hb_1o hkx rfl)⟩⟩
  obtain ⟨s_2, hs_2⟩ : ∃ z, MTq I J x b_1 = z := ⟨_, rfl⟩
  obtain ⟨b_3, hb_3, hb_3L, hb_3k, hb_3n, hb_3o⟩ := shp_a (W9 x hLx) hkx 15 14 72 rfl (by decide)
  obtain ⟨b_4, hb_4, hb_4L, hb_4k, hb_4n, hb_4o⟩ := shp_a (W9 x hLx) hkx 20 15 13 rfl (by decide)
  have enqx : ∀ I J, NRf R I J x = NRq I J x b_3 b_4 := fun I J => by simp only [NRf, rr_, Option.getD_some, hb_3, hb_4]
  have wnqx : nqw_ L κ ow x b_3 b_4 := ⟨⟨hLx, hb_3L, hb_4L⟩, ⟨(ro_o hkx (by decide)), (ro_a hb_3k (by decide) hb_3o hkx rfl), (ro_a hb_4k (by decide) hb_4o hkx rfl)⟩⟩
  obtain ⟨s_5, hs_5⟩ : ∃ z, NRq I J x b_3 b_4 = z := ⟨_, rfl⟩
  refine g_lo (is := [0, 1, 2, 3, 4, 5]) (lo2 := [(0, .ref x), (1, .int a0), (2, .int a1), (3, .int a2), (4, .int a3), (5, .int a4)]) rfl ?_
  refine g_aload_n C 0 dX12_feed_0 rfl rfl ?_
  refine g_iconst C (v := 0) dX12_feed_1 (by decide) ?_
  refine h_putI C K hLx hkx f_12_82 p_12_0 dX12_feed_2 (fun I_6 hI_6 => ?_)
  have hU_7 := iw_put W9 hU hI_6 (ro_o hkx (by decide)) (lo := (-2147483648)) (hi := 2147483647) (rfl) (rg_all _) rfl
  have hF_8 := fq_puto hF hI_6 hkx (by decide) (by decide)
  have hs_9 : MTq I_6 J x b_1 = s_2 := by rw [hI_6]; exact (mq_uIt wmqx (by decide)).trans hs_2
  have hs_10 : NRq I_6 J x b_3 b_4 = s_5 := by rw [hI_6]; exact (nq_uIt wnqx (by decide)).trans hs_5
  refine g_aload_n C 0 dX12_feed_5 rfl rfl ?_
  obtain ⟨x_11, hx_11, rx_11⟩ := ex_getw (I := I_6) (a := x) (j := 2) (lo := 0) (hi := 940) hU_7.1 hLx (ro_o hkx (by decide)) rfl
  have f_12 : s_5.taped = x_11 := (congrArg NR_.taped hs_10).symm.trans hx_11
  refine g_getI C K hLx hkx f_12_85 (v := x_11) hx_11 dX12_feed_6 ?_
  refine g_bipush C (v := 20) dX12_feed_9 (by decide) ?_
  obtain ⟨x_13, hx_13, rx_13, tx_13⟩ := ex_add 20 960 rx_11 rc_20 (by decide) (by decide) (by decide) (by decide)
  refine g_iadd C (v := x_13) dX12_feed_11 hx_13 ?_
  refine g_sipush C (v := 940) dX12_feed_12 (by decide) ?_
  refine g_icmp_le C (tgt := 20) dX12_feed_15 (by decide) (fun h_14 => ?_) (fun h_14 => ?_)
  · skip
    have r_15 := le_l (h_14) rx_13 rc_940
    have r_16 := rg_der (k := 20) (lo := 0) (hi := 920) (ti_k tx_13 rc_20) r_15 rx_11 (by decide) (by decide)
    refine g_aload_n C 0 dX12_feed_20 rfl rfl ?_
    refine g_iload_n C 1 dX12_feed_21 rfl rfl ?_
    refine g_callVV C K (c_X12_come W9 hLx hkx a0  hU_7  (eq_rg hx_11 (rg_w r_16 (by decide) (by decide)))) hLx hkx (by decide) rfl v_12_88 rfl ⟨rfl, rfl⟩ ⟨Nat.le_of_ble_eq_true rfl, Nat.le_of_ble_eq_true rfl⟩ (Nat.le_of_ble_eq_true rfl) ⟨Nat.le_of_ble_eq_true rfl, Nat.le_of_ble_eq_true rfl⟩ dX12_feed_22 rfl (st := []) (fun I_18 J_19 h_20 => ?_)
    obtain ⟨hUI_18, hFI_18, hGJ_19, fx_17, ex_17⟩ := h_20
    have hF_21 := fq_tr hF_8 hFI_18 (by decide)
    have hG_22 := fq_tr hG hGJ_19 (by decide)
    obtain ⟨s_24, hs_24⟩ : ∃ z, MTq I_18 J_19 x b_1 = z := ⟨_, rfl⟩
    obtain ⟨s_25, hs_25⟩ : ∃ z, NRq I_18 J_19 x b_3 b_4 = z := ⟨_, rfl⟩
    have c_23 : mCome (a0) (s_2) (s_5) = (s_24, s_25) := by have q := fx_17; simp only [emqx, enqx, hs_9, hs_10, hs_24, hs_25] at q; exact q.symm
    obtain ⟨x_26, hx_26, rx_26, tx_26⟩ := cm_x 4 924 ex_17 hx_11 r_16 (by decide) (by decide)
    refine g_aload_n C 0 dX12_feed_25 rfl rfl ?_
    refine g_iload_n C 2 dX12_feed_26 rfl rfl ?_
    have f_27 : s_25.taped = x_26 := (congrArg NR_.taped hs_25).symm.trans hx_26
    refine g_callVV C K (c_X12_come W9 hLx hkx a1  hUI_18  (eq_rg hx_26 (rg_w rx_26 (by decide) (by decide)))) hLx hkx (by decide) rfl v_12_88 rfl ⟨rfl, rfl⟩ ⟨Nat.le_of_ble_eq_true rfl, Nat.le_of_ble_eq_true rfl⟩ (Nat.le_of_ble_eq_true rfl) ⟨Nat.le_of_ble_eq_true rfl, Nat.le_of_ble_eq_true rfl⟩ dX12_feed_27 rfl (st := []) (fun I_29 J_30 h_31 => ?_)
    obtain ⟨hUI_29, hFI_29, hGJ_30, fx_28, ex_28⟩ := h_31
    have hF_32 := fq_tr hF_21 hFI_29 (by decide)
    have hG_33 := fq_tr hG_22 hGJ_30 (by decide)
    obtain ⟨s_35, hs_35⟩ : ∃ z, MTq I_29 J_30 x b_1 = z := ⟨_, rfl⟩
    obtain ⟨s_36, hs_36⟩ : ∃ z, NRq I_29 J_30 x b_3 b_4 = z := ⟨_, rfl⟩
    have c_34 : mCome (a1) (s_24) (s_25) = (s_35, s_36) := by have q := fx_28; simp only [emqx, enqx, hs_24, hs_25, hs_35, hs_36] at q; exact q.symm
    obtain ⟨x_37, hx_37, rx_37, tx_37⟩ := cm_x 8 928 ex_28 hx_26 rx_26 (by decide) (by decide)
    refine g_aload_n C 0 dX12_feed_30 rfl rfl ?_
    refine g_iload_n C 3 dX12_feed_31 rfl rfl ?_
    have f_38 : s_36.taped = x_37 := (congrArg NR_.taped hs_36).symm.trans hx_37
    refine g_callVV C K (c_X12_come W9 hLx hkx a2  hUI_29  (eq_rg hx_37 (rg_w rx_37 (by decide) (by decide)))) hLx hkx (by decide) rfl v_12_88 rfl ⟨rfl, rfl⟩ ⟨Nat.le_of_ble_eq_true rfl, Nat.le_of_ble_eq_true rfl⟩ (Nat.le_of_ble_eq_true rfl) ⟨Nat.le_of_ble_eq_true rfl, Nat.le_of_ble_eq_true rfl⟩ dX12_feed_32 rfl (st := []) (fun I_40 J_41 h_42 => ?_)
    obtain ⟨hUI_40, hFI_40, hGJ_41, fx_39, ex_39⟩ := h_42
    have hF_43 := fq_tr hF_32 hFI_40 (by decide)
    have hG_44 := fq_tr hG_33 hGJ_41 (by decide)
    obtain ⟨s_46, hs_46⟩ : ∃ z, MTq I_40 J_41 x b_1 = z := ⟨_, rfl⟩
    obtain ⟨s_47, hs_47⟩ : ∃ z, NRq I_40 J_41 x b_3 b_4 = z := ⟨_, rfl⟩
    have c_45 : mCome (a2) (s_35) (s_36) = (s_46, s_47) := by have q := fx_39; simp only [emqx, enqx, hs_35, hs_36, hs_46, hs_47] at q; exact q.symm
    obtain ⟨x_48, hx_48, rx_48, tx_48⟩ := cm_x 12 932 ex_39 hx_37 rx_37 (by decide) (by decide)
    refine g_aload_n C 0 dX12_feed_35 rfl rfl ?_
    refine g_iload C 4 dX12_feed_36 rfl ?_
    have f_49 : s_47.taped = x_48 := (congrArg NR_.taped hs_47).symm.trans hx_48
    refine g_callVV C K (c_X12_come W9 hLx hkx a3  hUI_40  (eq_rg hx_48 (rg_w rx_48 (by decide) (by decide)))) hLx hkx (by decide) rfl v_12_88 rfl ⟨rfl, rfl⟩ ⟨Nat.le_of_ble_eq_true rfl, Nat.le_of_ble_eq_true rfl⟩ (Nat.le_of_ble_eq_true rfl) ⟨Nat.le_of_ble_eq_true rfl, Nat.le_of_ble_eq_true rfl⟩ dX12_feed_38 rfl (st := []) (fun I_51 J_52 h_53 => ?_)
    obtain ⟨hUI_51, hFI_51, hGJ_52, fx_50, ex_50⟩ := h_53
    have hF_54 := fq_tr hF_43 hFI_51 (by decide)
    have hG_55 := fq_tr hG_44 hGJ_52 (by decide)
    obtain ⟨s_57, hs_57⟩ : ∃ z, MTq I_51 J_52 x b_1 = z := ⟨_, rfl⟩
    obtain ⟨s_58, hs_58⟩ : ∃ z, NRq I_51 J_52 x b_3 b_4 = z := ⟨_, rfl⟩
    have c_56 : mCome (a3) (s_46) (s_47) = (s_57, s_58) := by have q := fx_50; simp only [emqx, enqx, hs_46, hs_47, hs_57, hs_58] at q; exact q.symm
    obtain ⟨x_59, hx_59, rx_59, tx_59⟩ := cm_x 16 936 ex_50 hx_48 rx_48 (by decide) (by decide)
    refine g_aload_n C 0 dX12_feed_41 rfl rfl ?_
    refine g_iload C 5 dX12_feed_42 rfl ?_
    have f_60 : s_58.taped = x_59 := (congrArg NR_.taped hs_58).symm.trans hx_59
    refine g_callVV C K (c_X12_come W9 hLx hkx a4  hUI_51  (eq_rg hx_59 (rg_w rx_59 (by decide) (by decide)))) hLx hkx (by decide) rfl v_12_88 rfl ⟨rfl, rfl⟩ ⟨Nat.le_of_ble_eq_true rfl, Nat.le_of_ble_eq_true rfl⟩ (Nat.le_of_ble_eq_true rfl) ⟨Nat.le_of_ble_eq_true rfl, Nat.le_of_ble_eq_true rfl⟩ dX12_feed_44 rfl (st := []) (fun I_62 J_63 h_64 => ?_)
    obtain ⟨hUI_62, hFI_62, hGJ_63, fx_61, ex_61⟩ := h_64
    have hF_65 := fq_tr hF_54 hFI_62 (by decide)
    have hG_66 := fq_tr hG_55 hGJ_63 (by decide)
    obtain ⟨s_68, hs_68⟩ : ∃ z, MTq I_62 J_63 x b_1 = z := ⟨_, rfl⟩
    obtain ⟨s_69, hs_69⟩ : ∃ z, NRq I_62 J_63 x b_3 b_4 = z := ⟨_, rfl⟩
    have c_67 : mCome (a4) (s_57) (s_58) = (s_68, s_69) := by have q := fx_61; simp only [emqx, enqx, hs_57, hs_58, hs_68, hs_69] at q; exact q.symm
    obtain ⟨x_70, hx_70, rx_70, tx_70⟩ := cm_x 20 940 ex_61 hx_59 rx_59 (by decide) (by decide)
    refine g_aload_n C 0 dX12_feed_47 rfl rfl ?_
    have f_71 : s_69.taped = x_70 := (congrArg NR_.taped hs_69).symm.trans hx_70
    refine g_getI C K hLx hkx f_12_85 (v := x_70) hx_70 dX12_feed_48 ?_
    exact g_zret (ty := .int) (r := x_70) B K rfl (rfl) ⟨hUI_62, hF_65, hG_66, rg_w rx_70 (by decide) (by decide), (by simp only [mFeed, emqx, hs_68, hs_2, enqx, hs_69, hs_5, hx_11, f_12, hx_13, h_14, c_23, hx_26, f_27, c_34, hx_37, f_38, c_45, hx_48, f_49, c_56, hx_59, f_60, c_67, hx_70, f_71, if_true, if_false, mqM_tp, mqM_size, mqM_limit, mqM_to, mqM_frm, mqM_kind, mqM_number, mqM_sign, mqM_word, MT_.w_tp, MT_.w_size, MT_.w_limit, MT_.w_to, MT_.w_frm, MT_.w_kind, MT_.w_number, MT_.w_sign, MT_.w_word, nqM_rd, nqM_rn, nqM_taped, nqM_mfault, nqM_mplace, nqM_told, nqM_hl, nqM_hd, NR_.w_rd, NR_.w_rn, NR_.w_taped, NR_.w_mfault, NR_.w_mplace, NR_.w_told, NR_.w_hl, NR_.w_hd])⟩ dX12_feed_51
  · skip
    have r_72 := lt_r (lo := 941) (nle h_14) rc_940 rx_13 (by decide)
    have r_73 := rg_der (k := 20) (lo := 921) (hi := 940) (ti_k tx_13 rc_20) r_72 rx_11 (by decide) (by decide)
    refine g_iconst C (v := (-1)) dX12_feed_18 (by decide) ?_
    exact g_zret (ty := .int) (r := (-1)) B K rfl (rfl) ⟨hU_7, hF_8, hG, rg_w rc_m1 (by decide) (by decide), (by simp only [mFeed, emqx, hs_9, hs_2, enqx, hs_10, hs_5, hx_11, f_12, hx_13, h_14, (nle h_14), if_true, if_false, mqM_tp, mqM_size, mqM_limit, mqM_to, mqM_frm, mqM_kind, mqM_number, mqM_sign, mqM_word, MT_.w_tp, MT_.w_size, MT_.w_limit, MT_.w_to, MT_.w_frm, MT_.w_kind, MT_.w_number, MT_.w_sign, MT_.w_word, nqM_rd, nqM_rn, nqM_taped, nqM_mfault, nqM_mplace, nqM_told, nqM_hl, nqM_hd, NR_.w_rd, NR_.w_rn, NR_.w_taped, NR_.w_mfault, NR_.w_mplace, NR_.w_told, NR_.w_hl, NR_.w_hd])⟩ dX12_feed_19
set_option maxRecDepth 100000 in
set_option maxHeartbeats 8000000 in
theorem c_X12_end {l : Launch} {D : va_G} {cy : Nat → ClassId} {L : List Nat} {κ ln : Nat → Nat} {R : Nat → Nat → Option Nat} {I : Nat → Nat → Int32} {J : Nat → Nat → Int64} {ow : Nat → Nat × Nat} (W9 : ∀ a ∈ L, Shp L κ ln R ow a) {x : Nat} (hLx : x ∈ L) (hkx : κ x = 12) (a0 : Int32) (hU : Iw L κ R ow I) : CtI l yX12_end cX12_end 2 (some .boolean) { frames := 0, cells := 0, slots := 0, locals := 0 } D cy L κ ln R I J [.ref x, .int a0] (fun r I2 J2 => Iw L κ R ow I2 ∧ Fq L κ ow [1200, 1202] I I2 ∧ Fq L κ ow [] J J2 ∧ Rg 0 1 r) := by
  refine CtI.of (by decide +kernel) (Nat.le_of_ble_eq_true rfl) ?_
  intro p e s m below meth c B K
  have C := B.1
  have hF : Fq L κ ow [1200, 1202] I I := fq_rf
  have hG : Fq L κ ow [] J J := fq_rf
  refine g_lo (is := [0, 1]) (lo2 := [(0, .ref x), (1, .int a0)]) rfl ?_
  refine g_aload_n C 0 dX12_end_0 rfl rfl ?_
  refine g_iconst C (v := 0) dX12_end_1 (by decide) ?_
  refine h_putI C K hLx hkx f_12_82 p_12_0 dX12_end_2 (fun I_1 hI_1 => ?_)
  have hU_2 := iw_put W9 hU hI_1 (ro_o hkx (by decide)) (lo := (-2147483648)) (hi := 2147483647) (rfl) (rg_all _) rfl
  have hF_3 := fq_puto hF hI_1 hkx (by decide) (by decide)
  refine g_iload_n C 1 dX12_end_5 rfl rfl ?_
  refine g_if_lt C (tgt := 17) dX12_end_6 (by decide) (fun h_4 => ?_) (fun h_4 => ?_)
  · skip
    have r_5 := lt_l (hi := (-1)) (h_4) (rg_all a0) rc_0 (by decide)
    refine g_iconst C (v := 0) dX12_end_17 (by decide) ?_
    exact g_zret (ty := .boolean) (r := 0) B K rfl (rfl) ⟨hU_2, hF_3, hG, rg_w rc_0 (by decide) (by decide)⟩ dX12_end_18
  · skip
    have r_6 := le_r (nlt h_4) rc_0 (rg_all a0)
    refine g_iload_n C 1 dX12_end_9 rfl rfl ?_
    refine g_aload_n C 0 dX12_end_10 rfl rfl ?_
    obtain ⟨x_7, hx_7, rx_7⟩ := ex_getw (I := I_1) (a := x) (j := 2) (lo := 0) (hi := 940) hU_2.1 hLx (ro_o hkx (by decide)) rfl
    refine g_getI C K hLx hkx f_12_85 (v := x_7) hx_7 dX12_end_11 ?_
    refine g_icmp_le C (tgt := 19) dX12_end_14 (by decide) (fun h_8 => ?_) (fun h_8 => ?_)
    · skip
      have r_9 := le_l (h_8) r_6 rx_7
      refine g_aload_n C 0 dX12_end_19 rfl rfl ?_
      refine g_iload_n C 1 dX12_end_20 rfl rfl ?_
      refine h_putI C K hLx hkx f_12_85 p_12_2 dX12_end_21 (fun I_10 hI_10 => ?_)
      have hU_11 := iw_put W9 hU_2 hI_10 (ro_o hkx (by decide)) (lo := 0) (hi := 940) (rfl) (r_9) rfl
      have hF_12 := fq_puto hF_3 hI_10 hkx (by decide) (by decide)
      refine g_iconst C (v := 1) dX12_end_24 (by decide) ?_
      exact g_zret (ty := .boolean) (r := 1) B K rfl (rfl) ⟨hU_11, hF_12, hG, rg_w rc_1 (by decide) (by decide)⟩ dX12_end_25
    · skip
      have r_13 := lt_r (lo := 1) (nle h_8) rx_7 r_6 (by decide)
      refine g_iconst C (v := 0) dX12_end_17 (by decide) ?_
      exact g_zret (ty := .boolean) (r := 0) B K rfl (rfl) ⟨hU_2, hF_3, hG, rg_w rc_0 (by decide) (by decide)⟩ dX12_end_18
set_option maxRecDepth 100000 in
set_option maxHeartbeats 8000000 in
theorem c_X12_isDigit {l : Launch} {D : va_G} {cy : Nat → ClassId} {L : List Nat} {κ ln : Nat → Nat} {R : Nat → Nat → Option Nat} {I : Nat → Nat → Int32} {J : Nat → Nat → Int64} {ow : Nat → Nat × Nat} (W9 : ∀ a ∈ L, Shp L κ ln R ow a) (a0 : Int32) (hU : Iw L κ R ow I) : CtI l yX12_isDigit cX12_isDigit 1 (some .boolean) { frames := 0, cells := 0, slots := 0, locals := 0 } D cy L κ ln R I J [.int a0] (fun r I2 J2 => I = I2 ∧ J = J2 ∧ Rg 0 1 r ∧ (r = isDc a0) ∧ (¬ r = 0 ∨ a0.toInt < 48 ∨ 57 < a0.toInt) ∧ (¬ r = 0 → Rg 48 57 a0)) := by
  refine CtI.of (by decide +kernel) (Nat.le_of_ble_eq_true rfl) ?_
  intro p e s m below meth c B K
  have C := B.1
  refine g_lo (is := [0]) (lo2 := [(0, .int a0)]) rfl ?_
  refine g_iload_n C 0 dX12_isDigit_0 rfl rfl ?_
  refine g_bipush C (v := 48) dX12_isDigit_1 (by decide) ?_
  refine g_icmp_lt C (tgt := 16) dX12_isDigit_3 (by decide) (fun h_1 => ?_) (fun h_1 => ?_)
  · skip
    have r_2 := lt_l (hi := 47) (h_1) (rg_all a0) rc_48 (by decide)
    refine g_iconst C (v := 0) dX12_isDigit_16 (by decide) ?_
    exact g_zret (ty := .boolean) (r := 0) B K rfl (rfl) ⟨rfl, rfl, rg_w rc_0 (by decide) (by decide), (by simp only [isDc, h_1, if_true, if_false]), (Or.inr (Or.inl (by have := (r_2).2; omega))), (fun q => absurd rfl q)⟩ dX12_isDigit_17
  · skip
    have r_3 := le_r (nlt h_1) rc_48 (rg_all a0)
    refine g_iload_n C 0 dX12_isDigit_6 rfl rfl ?_
    refine g_bipush C (v := 57) dX12_isDigit_7 (by decide) ?_
    refine g_icmp_gt C (tgt := 16) dX12_isDigit_9 (by decide) (fun h_4 => ?_) (fun h_4 => ?_)
    · skip
      have r_5 := lt_r (lo := 58) (h_4) rc_57 r_3 (by decide)
      refine g_iconst C (v := 0) dX12_isDigit_16 (by decide) ?_
      exact g_zret (ty := .boolean) (r := 0) B K rfl (rfl) ⟨rfl, rfl, rg_w rc_0 (by decide) (by decide), (by simp only [isDc, h_1, (nlt h_1), h_4, if_true, if_false]), (Or.inr (Or.inr (by have := (r_5).1; omega))), (fun q => absurd rfl q)⟩ dX12_isDigit_17
    · skip
      have r_6 := le_l (nlt h_4) r_3 rc_57
      refine g_iconst C (v := 1) dX12_isDigit_12 (by decide) ?_
      refine g_goto C (tgt := 17) dX12_isDigit_13 (by decide) ?_
      exact g_zret (ty := .boolean) (r := 1) B K rfl (rfl) ⟨rfl, rfl, rg_w rc_1 (by decide) (by decide), (by simp only [isDc, h_1, (nlt h_1), h_4, (nlt h_4), if_true, if_false]), (Or.inl (by decide)), (fun _ => r_6)⟩ dX12_isDigit_17
set_option maxRecDepth 100000 in
set_option maxHeartbeats 8000000 in
theorem c_X12_isLetter {l : Launch} {D : va_G} {cy : Nat → ClassId} {L : List Nat} {κ ln : Nat → Nat} {R : Nat → Nat → Option Nat} {I : Nat → Nat → Int32} {J : Nat → Nat → Int64} {ow : Nat → Nat × Nat} (W9 : ∀ a ∈ L, Shp L κ ln R ow a) (a0 : Int32) (hU : Iw L κ R ow I) : CtI l yX12_isLetter cX12_isLetter 1 (some .boolean) { frames := 0, cells := 0, slots := 0, locals := 0 } D cy L κ ln R I J [.int a0] (fun r I2 J2 => I = I2 ∧ J = J2 ∧ Rg 0 1 r ∧ (r = isLc a0) ∧ (¬ r = 0 ∨ a0.toInt < 97 ∨ 122 < a0.toInt) ∧ (¬ r = 0 → Rg 97 122 a0)) := by
  refine CtI.of (by decide +kernel) (Nat.le_of_ble_eq_true rfl) ?_
  intro p e s m below meth c B K
  have C := B.1
  refine g_lo (is := [0]) (lo2 := [(0, .int a0)]) rfl ?_
  refine g_iload_n C 0 dX12_isLetter_0 rfl rfl ?_
  refine g_bipush C (v := 97) dX12_isLetter_1 (by decide) ?_
  refine g_icmp_lt C (tgt := 16) dX12_isLetter_3 (by decide) (fun h_1 => ?_) (fun h_1 => ?_)
  · skip
    have r_2 := lt_l (hi := 96) (h_1) (rg_all a0) rc_97 (by decide)
    refine g_iconst C (v := 0) dX12_isLetter_16 (by decide) ?_
    exact g_zret (ty := .boolean) (r := 0) B K rfl (rfl) ⟨rfl, rfl, rg_w rc_0 (by decide) (by decide), (by simp only [isLc, h_1, if_true, if_false]), (Or.inr (Or.inl (by have := (r_2).2; omega))), (fun q => absurd rfl q)⟩ dX12_isLetter_17
  · skip
    have r_3 := le_r (nlt h_1) rc_97 (rg_all a0)
    refine g_iload_n C 0 dX12_isLetter_6 rfl rfl ?_
    refine g_bipush C (v := 122) dX12_isLetter_7 (by decide) ?_
    refine g_icmp_gt C (tgt := 16) dX12_isLetter_9 (by decide) (fun h_4 => ?_) (fun h_4 => ?_)
    · skip
      have r_5 := lt_r (lo := 123) (h_4) rc_122 r_3 (by decide)
      refine g_iconst C (v := 0) dX12_isLetter_16 (by decide) ?_
      exact g_zret (ty := .boolean) (r := 0) B K rfl (rfl) ⟨rfl, rfl, rg_w rc_0 (by decide) (by decide), (by simp only [isLc, h_1, (nlt h_1), h_4, if_true, if_false]), (Or.inr (Or.inr (by have := (r_5).1; omega))), (fun q => absurd rfl q)⟩ dX12_isLetter_17
    · skip
      have r_6 := le_l (nlt h_4) r_3 rc_122
      refine g_iconst C (v := 1) dX12_isLetter_12 (by decide) ?_
      refine g_goto C (tgt := 17) dX12_isLetter_13 (by decide) ?_
      exact g_zret (ty := .boolean) (r := 1) B K rfl (rfl) ⟨rfl, rfl, rg_w rc_1 (by decide) (by decide), (by simp only [isLc, h_1, (nlt h_1), h_4, (nlt h_4), if_true, if_false]), (Or.inl (by decide)), (fun _ => r_6)⟩ dX12_isLetter_17
set_option maxRecDepth 100000 in
set_option maxHeartbeats 8000000 in
theorem c_X12_tapeAt {l : Launch} {D : va_G} {cy : Nat → ClassId} {L : List Nat} {κ ln : Nat → Nat} {R : Nat → Nat → Option Nat} {I : Nat → Nat → Int32} {J : Nat → Nat → Int64} {ow : Nat → Nat × Nat} (W9 : ∀ a ∈ L, Shp L κ ln R ow a) {x : Nat} (hLx : x ∈ L) (hkx : κ x = 12) (a0 : Int32) (ra0 : Rg 0 940 a0) (hU : Iw L κ R ow I) : CtI l yX12_tapeAt cX12_tapeAt 2 (some .int) { frames := 0, cells := 0, slots := 0, locals := 0 } D cy L κ ln R I J [.ref x, .int a0] (fun r I2 J2 => I = I2 ∧ J = J2 ∧ Rg 0 255 r ∧ (r = mTapeAt a0 (MTf R I J x)) ∧ (∀ a, R x 1 = some a → a0 < I x 3 → r = I a a0.toNatClampNeg) ∧ (¬ r = 0 → Rg 0 939 a0)) := by
  refine CtI.of (by decide +kernel) (Nat.le_of_ble_eq_true rfl) ?_
  intro p e s m below meth c B K
  have C := B.1
  obtain ⟨b_1, hb_1, hb_1L, hb_1k, hb_1n, hb_1o⟩ := shp_a (W9 x hLx) hkx 1 14 940 rfl (by decide)
  have emqx : ∀ I J, MTf R I J x = MTq I J x b_1 := fun I J => by simp only [MTf, rr_, Option.getD_some, hb_1]
  have wmqx : mqw_ L κ ow x b_1 := ⟨⟨hLx, hb_1L⟩, ⟨(ro_o hkx (by decide)), (ro_a hb_1k (by decide) hb_1o hkx rfl)⟩⟩
  obtain ⟨s_2, hs_2⟩ : ∃ z, MTq I J x b_1 = z := ⟨_, rfl⟩
  refine g_lo (is := [0, 1]) (lo2 := [(0, .ref x), (1, .int a0)]) rfl ?_
  refine g_iload_n C 1 dX12_tapeAt_0 rfl rfl ?_
  refine g_aload_n C 0 dX12_tapeAt_1 rfl rfl ?_
  obtain ⟨x_3, hx_3, rx_3⟩ := ex_getw (I := I) (a := x) (j := 3) (lo := 0) (hi := 940) hU.1 hLx (ro_o hkx (by decide)) rfl
  have f_4 : s_2.size = x_3 := (congrArg MT_.size hs_2).symm.trans hx_3
  refine g_getI C K hLx hkx f_12_92 (v := x_3) hx_3 dX12_tapeAt_2 ?_
  refine g_icmp_ge C (tgt := 17) dX12_tapeAt_5 (by decide) (fun h_5 => ?_) (fun h_5 => ?_)
  · skip
    refine g_iconst C (v := 0) dX12_tapeAt_17 (by decide) ?_
    exact g_zret (ty := .int) (r := 0) B K rfl (rfl) ⟨rfl, rfl, rg_w rc_0 (by decide) (by decide), (by simp only [mTapeAt, emqx, hs_2, hx_3, f_4, h_5, if_true, if_false, mqM_tp, mqM_size, mqM_limit, mqM_to, mqM_frm, mqM_kind, mqM_number, mqM_sign, mqM_word, MT_.w_tp, MT_.w_size, MT_.w_limit, MT_.w_to, MT_.w_frm, MT_.w_kind, MT_.w_number, MT_.w_sign, MT_.w_word]), (fun a ha hlt => absurd hlt (by rw [hx_3]; exact Int32.not_lt.mpr (h_5))), (fun q => absurd rfl q)⟩ dX12_tapeAt_18
  · skip
    have r_6 := lt_l (hi := 939) (nle h_5) ra0 rx_3 (by decide)
    have r_7 := lt_r (lo := 1) (nle h_5) ra0 rx_3 (by decide)
    refine g_aload_n C 0 dX12_tapeAt_8 rfl rfl ?_
    refine g_getR C K hLx hkx f_12_7 hb_1 dX12_tapeAt_9 ?_
    refine g_iload_n C 1 dX12_tapeAt_12 rfl rfl ?_
    obtain ⟨x_8, hx_8, rx_8⟩ := ex_getw (I := I) (a := b_1) (j := a0.toNatClampNeg) (lo := 0) (hi := 255) hU.1 hb_1L (ro_a hb_1k (by decide) hb_1o hkx rfl) (rfl)
    refine h_iald C K hb_1L hb_1k (v := x_8) (a0.toNatClampNeg) (rfl) (ix_0 r_6 (by decide)) (ix_lt r_6 (by decide) hb_1n (by decide)) hx_8 dX12_tapeAt_13 ?_
    have f_9 : s_2.tp (a0.toNatClampNeg) = x_8 := (congrFun (congrArg MT_.tp hs_2) _).symm.trans hx_8
    refine g_goto C (tgt := 18) dX12_tapeAt_14 (by decide) ?_
    exact g_zret (ty := .int) (r := x_8) B K rfl (rfl) ⟨rfl, rfl, rx_8, (by simp only [mTapeAt, emqx, hs_2, hx_3, f_4, h_5, (nle h_5), hx_8, f_9, if_true, if_false, mqM_tp, mqM_size, mqM_limit, mqM_to, mqM_frm, mqM_kind, mqM_number, mqM_sign, mqM_word, MT_.w_tp, MT_.w_size, MT_.w_limit, MT_.w_to, MT_.w_frm, MT_.w_kind, MT_.w_number, MT_.w_sign, MT_.w_word]), (fun a ha _ => by rw [hb_1] at ha; cases ha; exact hx_8.symm), (fun hq => by have n_10 : ¬ x_8 = 0 := hq; have r_11 := ne_lo (lo := 1) n_10 rx_8 rc_0 rfl (by decide); exact r_6)⟩ dX12_tapeAt_18
set_option maxRecDepth 100000 in
set_option maxHeartbeats 8000000 in
theorem c_X12_go {l : Launch} {D : va_G} {cy : Nat → ClassId} {L : List Nat} {κ ln : Nat → Nat} {R : Nat → Nat → Option Nat} {I : Nat → Nat → Int32} {J : Nat → Nat → Int64} {ow : Nat → Nat × Nat} (W9 : ∀ a ∈ L, Shp L κ ln R ow a) {x : Nat} (hLx : x ∈ L) (hkx : κ x = 12) (hU : Iw L κ R ow I) : CtV l yX12_go cX12_go 5 none { frames := 1, cells := 0, slots := 0, locals := 21 } D cy L κ ln R I J [.ref x] (fun I2 J2 => Iw L κ R ow I2 ∧ Fq L κ ow [1205, 1206, 1207, 1208, 1209] I I2 ∧ Fq L κ ow [1212] J J2 ∧ (MTf R I2 J2 x = mGo (MTf R I J x)) ∧ (Ps_ x I I2)) := by
  obtain ⟨x_1, hx_1, rx_1⟩ := ex_getw (I := I) (a := x) (j := 5) (lo := 0) (hi := 940) hU.1 hLx (ro_o hkx (by decide)) rfl
  refine CtV.of (by decide +kernel) (Nat.le_of_ble_eq_true rfl) ?_
  intro p e s m below meth c B K
  have C := B.1
  have hF : Fq L κ ow [1205, 1206, 1207, 1208, 1209] I I := fq_rf
  have hG : Fq L κ ow [1212] J J := fq_rf
  obtain ⟨b_2, hb_2, hb_2L, hb_2k, hb_2n, hb_2o⟩ := shp_a (W9 x hLx) hkx 1 14 940 rfl (by decide)
  have emqx : ∀ I J, MTf R I J x = MTq I J x b_2 := fun I J => by simp only [MTf, rr_, Option.getD_some, hb_2]
  have wmqx : mqw_ L κ ow x b_2 := ⟨⟨hLx, hb_2L⟩, ⟨(ro_o hkx (by decide)), (ro_a hb_2k (by decide) hb_2o hkx rfl)⟩⟩
  obtain ⟨s_3, hs_3⟩ : ∃ z, MTq I J x b_2 = z := ⟨_, rfl⟩
  refine g_lo (is := [0]) (lo2 := [(0, .ref x)]) rfl ?_
  have l_215 : ∀ (n_215 : Nat) (I_4 : Nat → Nat → Int32) (J_5 : Nat → Nat → Int64) (hU_6 : Iw L κ R ow I_4) (hF_7 : Fq L κ ow [1205, 1206, 1207, 1208, 1209] I I_4) (hG_8 : Fq L κ ow [1212] J J_5) (v_9 : Int32) (rv_9 : Rg 48 122 v_9) (nv_9_10 : ¬ v_9 = 10) (nv_9_32 : ¬ v_9 = 32) (v_10 : Int32) (rv_10 : Rg 0 1 v_10) (v_11 : Int32) (rv_11 : Rg 0 1 v_11) (v_12 : Int32) (rv_12 : Rg 0 255 v_12) (v_13 : Int32) (rv_13 : Rg 1 940 v_13) (v_14 : Int32) (rv_14 : Rg 0 900 v_14) (v_15 : Int32) (rv_15 : Rg 1 940 v_15) (v_16 : Int32) (rv_16 : Rg 0 899 v_16) (v_17 : Int32) (q_18 : I_4 x 3 = v_13) (q_19 : I_4 x 4 = v_14) (q_20 : I_4 x 5 = v_15) (q_21 : I_4 x 6 = v_16) (q_22 : I_4 x 8 = v_17) (hq_23 : mGoE (mrun v_10 v_11 (MTq I_4 J_5 x b_2)) v_10 = mGo s_3) (hj_24 : x_1.toInt < v_15.toInt) (hm_25 : 940 < (v_15 : Int32).toInt + (n_215 : Int)), WG p l e { frames := 1, cells := 0, slots := 0, locals := 21 } s m ([.ref x] : List Value).toArray below meth c 5 0 0 (MQ below (Qv_ D cy L κ ln R (fun I2 J2 => Iw L κ R ow I2 ∧ Fq L κ ow [1205, 1206, 1207, 1208, 1209] I I2 ∧ Fq L κ ow [1212] J J2 ∧ (MTf R I2 J2 x = mGo (MTf R I J x)) ∧ (Ps_ x I I2))) ([.ref x] : List Value).toArray s 0 0 (Al_ L)) D cy (Al_ L) s.heap L κ ln R I_4 J_5 215 [(0, .ref x), (1, .int v_9), (2, .int v_10), (3, .int v_11), (4, .int v_12)] [] := by
    intro n_215
    induction n_215 with
    | zero =>
      intro I_4 J_5 hU_6 hF_7 hG_8 v_9 rv_9 nv_9_10 nv_9_32 v_10 rv_10 v_11 rv_11 v_12 rv_12 v_13 rv_13 v_14 rv_14 v_15 rv_15 v_16 rv_16 v_17 q_18 q_19 q_20 q_21 q_22 hq_23 hj_24 hm_25
      exact ms_0 rv_15 hm_25
    | succ n_215 ih_215 =>
      intro I_4 J_5 hU_6 hF_7 hG_8 v_9 rv_9 nv_9_10 nv_9_32 v_10 rv_10 v_11 rv_11 v_12 rv_12 v_13 rv_13 v_14 rv_14 v_15 rv_15 v_16 rv_16 v_17 q_18 q_19 q_20 q_21 q_22 hq_23 hj_24 hm_25
      obtain ⟨s_26, hs_26⟩ : ∃ z, MTq I_4 J_5 x b_2 = z := ⟨_, rfl⟩
      simp only [hs_26] at hq_23
      have hQ_27 := hq_23.symm
      have f_29 : s_26.to = v_15 := (congrArg MT_.to hs_26).symm.trans q_20
      have u_28 := mrun_eq (lt := v_10) (g := v_11) (m := s_26) ((congrArg MT_.to hs_26).symm.trans q_20) (rg_w rv_15 (by decide) (by decide))
      refine g_aload_n C 0 dX12_go_215 rfl rfl ?_
      refine g_aload_n C 0 dX12_go_216 rfl rfl ?_
      refine g_getI C K hLx hkx f_12_95 (v := v_15) q_20 dX12_go_217 ?_
      refine g_callVI C K (c_X12_tapeAt W9 hLx hkx v_15 (rg_w rv_15 (by decide) (by decide)) hU_6) hLx hkx (by decide) rfl v_12_124 rfl ⟨rfl, rfl⟩ ⟨Nat.le_of_ble_eq_true rfl, Nat.le_of_ble_eq_true rfl⟩ (Nat.le_of_ble_eq_true rfl) ⟨Nat.le_of_ble_eq_true rfl, Nat.le_of_ble_eq_true rfl⟩ dX12_go_220 rfl (st := []) (fun x_30 I_31 J_32 h_33 => ?_)
      obtain ⟨rfl, rfl, rx_30, fx_30, ex_30⟩ := h_33
      have c_34 : mTapeAt (v_15) (s_26) = x_30 := by have q := fx_30; simp only [emqx, hs_26] at q; exact q.symm
      refine g_callSI C K (c_X12_isLetter W9 x_30  hU_6) s_12_107 rfl ⟨rfl, rfl⟩ ⟨Nat.le_of_ble_eq_true rfl, Nat.le_of_ble_eq_true rfl⟩ (Nat.le_of_ble_eq_true rfl) ⟨Nat.le_of_ble_eq_true rfl, Nat.le_of_ble_eq_true rfl⟩ dX12_go_223 rfl (st := []) (fun x_35 I_36 J_37 h_38 => ?_)
      obtain ⟨rfl, rfl, rx_35, fx_35, ex_35⟩ := h_38
      have c_39 : isLc (x_30) = x_35 := fx_35.symm
      refine g_if_ne C (tgt := 243) dX12_go_226 (by decide) (fun h_40 => ?_) (fun h_40 => ?_)
      · skip
        have n_41 : ¬ x_35 = 0 := h_40
        have r_42 := ne_lo (lo := 1) n_41 rx_35 rc_0 rfl (by decide)
        have r_43 := rg_i rx_30 ((ex_35.2) n_41) (lo := 97) (hi := 122) (by decide) (by decide)
        have r_44 := rg_i rv_15 ((ex_30.2) (rg_nz r_43 (by decide))) (lo := 1) (hi := 939) (by decide) (by decide)
        refine g_aload_n C 0 dX12_go_243 rfl rfl ?_
        refine g_getR C K hLx hkx f_12_7 hb_2 dX12_go_244 ?_
        refine g_aload_n C 0 dX12_go_247 rfl rfl ?_
        refine g_getI C K hLx hkx f_12_95 (v := v_15) q_20 dX12_go_248 ?_
        obtain ⟨x_45, hx_45, rx_45⟩ := ex_getw (I := I_4) (a := b_2) (j := v_15.toNatClampNeg) (lo := 0) (hi := 255) hU_6.1 hb_2L (ro_a hb_2k (by decide) hb_2o hkx rfl) (rfl)
        refine h_iald C K hb_2L hb_2k (v := x_45) (v_15.toNatClampNeg) (rfl) (ix_0 r_44 (by decide)) (ix_lt r_44 (by decide) hb_2n (by decide)) hx_45 dX12_go_251 ?_
        have f_46 : s_26.tp (v_15.toNatClampNeg) = x_45 := (congrFun (congrArg MT_.tp hs_26) _).symm.trans hx_45
        refine g_istore C dX12_go_252 (by decide) (lo2 := [(4, .int x_45), (0, .ref x), (1, .int v_9), (2, .int v_10), (3, .int v_11)]) rfl ?_
        refine g_iload_n C 4 dX12_go_254 rfl rfl ?_
        refine g_if_eq C (tgt := 271) dX12_go_255 (by decide) (fun h_47 => ?_) (fun h_47 => ?_)
        · skip
          have r_48 := (⟨(rv_11).1, (eq_rg (h_47) rc_0).2⟩ : Rg 0 0 v_11)
          refine g_iconst C (v := 0) dX12_go_271 (by decide) ?_
          refine g_istore_n C dX12_go_272 rfl (by decide) (lo2 := [(3, .int 0), (4, .int x_45), (0, .ref x), (1, .int v_9), (2, .int v_10)]) rfl ?_
          refine g_aload_n C 2 dX12_go_273 rfl rfl ?_
          refine g_getI C K hLx hkx f_12_95 (v := v_15) q_20 dX12_go_274 ?_
          refine g_aload_n C 2 dX12_go_277 rfl rfl ?_
          have f_49 : s_26.frm = v_16 := (congrArg MT_.frm hs_26).symm.trans q_21
          refine g_getI C K hLx hkx f_12_98 (v := v_16) q_21 dX12_go_278 ?_
          obtain ⟨x_50, hx_50, rx_50, tx_50⟩ := ex_sub (-898) 939 r_44 rv_16 (by decide) (by decide) (by decide) (by decide)
          refine g_isub C (v := x_50) dX12_go_281 hx_50 ?_
          refine g_bipush C (v := 7) dX12_go_282 (by decide) ?_
          refine g_icmp_ge C (tgt := 307) dX12_go_284 (by decide) (fun h_51 => ?_) (fun h_51 => ?_)
          · skip
            have r_52 := le_r (h_51) rc_7 rx_50
            refine g_aload_n C 2 dX12_go_307 rfl rfl ?_
            refine g_getI C K hLx hkx f_12_95 (v := v_15) q_20 dX12_go_308 ?_
            refine g_aload_n C 2 dX12_go_311 rfl rfl ?_
            refine g_getI C K hLx hkx f_12_98 (v := v_16) q_21 dX12_go_312 ?_
            refine g_isub C (v := x_50) dX12_go_315 hx_50 ?_
            refine g_iconst C (v := 3) dX12_go_316 (by decide) ?_
            refine g_icmp_ge C (tgt := 337) dX12_go_317 (by decide) (fun h_53 => ?_) (fun h_53 => ?_)
            · skip
              refine g_aload_n C 2 dX12_go_337 rfl rfl ?_
              refine g_dup C dX12_go_338 rfl ?_
              refine g_getI C K hLx hkx f_12_95 (v := v_15) q_20 dX12_go_339 ?_
              refine g_iconst C (v := 1) dX12_go_342 (by decide) ?_
              obtain ⟨x_54, hx_54, rx_54, tx_54⟩ := ex_add 2 940 r_44 rc_1 (by decide) (by decide) (by decide) (by decide)
              refine g_iadd C (v := x_54) dX12_go_343 hx_54 ?_
              refine h_putI C K hLx hkx f_12_95 p_12_5 dX12_go_344 (fun I_55 hI_55 => ?_)
              have hU_56 := iw_put W9 hU_6 hI_55 (ro_o hkx (by decide)) (lo := 0) (hi := 940) (rfl) (rg_w rx_54 (by decide) (by decide)) rfl
              have hF_57 := fq_puto hF_7 hI_55 hkx (by decide) (by decide)
              have hs_58 : MTq I_55 J_5 x b_2 = (MT_.w_to s_26 (x_54)) := by rw [hI_55]; exact ((mq_to wmqx).trans (congrArg (fun z : MT_ => MT_.w_to z (x_54)) hs_26)).trans rfl
              refine g_goto C (tgt := 215) dX12_go_347 (by decide) ?_
              refine g_lo (is := [2, 3, 4, 0, 1]) (lo2 := [(0, .ref x), (1, .int v_9), (2, .int v_10), (3, .int 0), (4, .int x_45)]) rfl ?_
              exact ih_215 I_55 J_5 hU_56 hF_57 hG_8 v_9 (rv_9) (nv_9_10) (nv_9_32) v_10 (rv_10) 0 (rg_w rc_0 (by decide) (by decide)) x_45 (rx_45) v_13 (rv_13) v_14 (rv_14) x_54 (rg_w rx_54 (by decide) (by decide)) v_16 (rv_16) v_17 (kp_j hI_55 (by decide) q_18) (kp_j hI_55 (by decide) q_19) (kp_s hI_55) (kp_j hI_55 (by decide) q_21) (kp_j hI_55 (by decide) q_22) (by (try simp only [f_29, c_34, c_39, h_40, hx_45, f_46, (eq_true h_47), f_49, hx_50, h_51, h_53, hx_54, if_true, if_false, mqM_tp, mqM_size, mqM_limit, mqM_to, mqM_frm, mqM_kind, mqM_number, mqM_sign, mqM_word, MT_.w_tp, MT_.w_size, MT_.w_limit, MT_.w_to, MT_.w_frm, MT_.w_kind, MT_.w_number, MT_.w_sign, MT_.w_word] at hQ_27); (try simp only [f_29, c_34, c_39, h_40, hx_45, f_46, (eq_true h_47), f_49, hx_50, h_51, h_53, hx_54, if_true, if_false, mqM_tp, mqM_size, mqM_limit, mqM_to, mqM_frm, mqM_kind, mqM_number, mqM_sign, mqM_word, MT_.w_tp, MT_.w_size, MT_.w_limit, MT_.w_to, MT_.w_frm, MT_.w_kind, MT_.w_number, MT_.w_sign, MT_.w_word] at u_28); simp only [mGo2, mGo3, mGoE, mSg, mStep, mGood, Int32.sub_self, (by decide : (7 ≤ (0 : Int32)) = False), (by decide : (3 ≤ (0 : Int32)) = False), (by decide : 10 * (0 : Int32) = 0), emqx, hs_58, hs_3, hQ_27, f_29, u_28, c_34, c_39, h_40, hx_45, f_46, (eq_true h_47), f_49, hx_50, h_51, h_53, hx_54, if_true, if_false, mqM_tp, mqM_size, mqM_limit, mqM_to, mqM_frm, mqM_kind, mqM_number, mqM_sign, mqM_word, MT_.w_tp, MT_.w_size, MT_.w_limit, MT_.w_to, MT_.w_frm, MT_.w_kind, MT_.w_number, MT_.w_sign, MT_.w_word]) (by have := hj_24; have := (ti_k tx_54 rc_1); omega) (ms_1 hm_25 (ti_k tx_54 rc_1) (by decide))
            · skip
              have r_59 := lt_l (hi := 2) (nle h_53) r_52 rc_3 (by decide)
              exact rg_no r_59 (by decide)
          · skip
            have r_60 := lt_l (hi := 6) (nle h_51) rx_50 rc_7 (by decide)
            refine g_aload_n C 2 dX12_go_287 rfl rfl ?_
            refine g_ldc2 C kl_128 dX12_go_288 ?_
            refine g_aload_n C 2 dX12_go_291 rfl rfl ?_
            obtain ⟨y_61, hy_61⟩ : ∃ z, J_5 x 12 = z := ⟨_, rfl⟩
            have f_62 : s_26.word = y_61 := (congrArg MT_.word hs_26).symm.trans hy_61
            refine g_getJ C K hLx hkx f_12_117 (v := y_61) hy_61 dX12_go_292 ?_
            refine g_lmulE C dX12_go_295 (fun y_63 hy_63 => ?_)
            refine g_iload C 1 dX12_go_296 rfl ?_
            obtain ⟨y_64, hy_64⟩ : ∃ z, Int32.toInt64 x_45 = z := ⟨_, rfl⟩
            refine g_i2l C (v := y_64) dX12_go_298 hy_64 ?_
            refine g_laddE C dX12_go_299 (fun y_65 hy_65 => ?_)
            refine g_ldc2 C kl_130 dX12_go_300 ?_
            refine g_lsubE C dX12_go_303 (fun y_66 hy_66 => ?_)
            refine h_putJ C K hLx hkx f_12_117 p_12_12 dX12_go_304 (fun J_67 hJ_67 => ?_)
            have hG_68 := fq_puto hG_8 hJ_67 hkx (by decide) (by decide)
            have hs_69 : MTq I_4 J_67 x b_2 = (MT_.w_word s_26 (y_66)) := by rw [hJ_67]; exact ((mq_word wmqx).trans (congrArg (fun z : MT_ => MT_.w_word z (y_66)) hs_26)).trans rfl
            refine g_aload_n C 2 dX12_go_307 rfl rfl ?_
            refine g_getI C K hLx hkx f_12_95 (v := v_15) q_20 dX12_go_308 ?_
            refine g_aload_n C 2 dX12_go_311 rfl rfl ?_
            refine g_getI C K hLx hkx f_12_98 (v := v_16) q_21 dX12_go_312 ?_
            refine g_isub C (v := x_50) dX12_go_315 hx_50 ?_
            refine g_iconst C (v := 3) dX12_go_316 (by decide) ?_
            refine g_icmp_ge C (tgt := 337) dX12_go_317 (by decide) (fun h_70 => ?_) (fun h_70 => ?_)
            · skip
              have r_71 := le_r (h_70) rc_3 r_60
              refine g_aload_n C 2 dX12_go_337 rfl rfl ?_
              refine g_dup C dX12_go_338 rfl ?_
              refine g_getI C K hLx hkx f_12_95 (v := v_15) q_20 dX12_go_339 ?_
              refine g_iconst C (v := 1) dX12_go_342 (by decide) ?_
              obtain ⟨x_72, hx_72, rx_72, tx_72⟩ := ex_add 2 940 r_44 rc_1 (by decide) (by decide) (by decide) (by decide)
              refine g_iadd C (v := x_72) dX12_go_343 hx_72 ?_
              refine h_putI C K hLx hkx f_12_95 p_12_5 dX12_go_344 (fun I_73 hI_73 => ?_)
              have hU_74 := iw_put W9 hU_6 hI_73 (ro_o hkx (by decide)) (lo := 0) (hi := 940) (rfl) (rg_w rx_72 (by decide) (by decide)) rfl
              have hF_75 := fq_puto hF_7 hI_73 hkx (by decide) (by decide)
              have hs_76 : MTq I_73 J_67 x b_2 = (MT_.w_to (MT_.w_word s_26 (y_66)) (x_72)) := by rw [hI_73]; exact ((mq_to wmqx).trans (congrArg (fun z : MT_ => MT_.w_to z (x_72)) hs_69)).trans rfl
              refine g_goto C (tgt := 215) dX12_go_347 (by decide) ?_
              refine g_lo (is := [2, 3, 4, 0, 1]) (lo2 := [(0, .ref x), (1, .int v_9), (2, .int v_10), (3, .int 0), (4, .int x_45)]) rfl ?_
              exact ih_215 I_73 J_67 hU_74 hF_75 hG_68 v_9 (rv_9) (nv_9_10) (nv_9_32) v_10 (rv_10) 0 (rg_w rc_0 (by decide) (by decide)) x_45 (rx_45) v_13 (rv_13) v_14 (rv_14) x_72 (rg_w rx_72 (by decide) (by decide)) v_16 (rv_16) v_17 (kp_j hI_73 (by decide) q_18) (kp_j hI_73 (by decide) q_19) (kp_s hI_73) (kp_j hI_73 (by decide) q_21) (kp_j hI_73 (by decide) q_22) (by (try simp only [f_29, c_34, c_39, h_40, hx_45, f_46, (eq_true h_47), f_49, hx_50, h_51, (nle h_51), hy_61, f_62, hy_63, hy_64, hy_65, hy_66, h_70, hx_72, if_true, if_false, mqM_tp, mqM_size, mqM_limit, mqM_to, mqM_frm, mqM_kind, mqM_number, mqM_sign, mqM_word, MT_.w_tp, MT_.w_size, MT_.w_limit, MT_.w_to, MT_.w_frm, MT_.w_kind, MT_.w_number, MT_.w_sign, MT_.w_word] at hQ_27); (try simp only [f_29, c_34, c_39, h_40, hx_45, f_46, (eq_true h_47), f_49, hx_50, h_51, (nle h_51), hy_61, f_62, hy_63, hy_64, hy_65, hy_66, h_70, hx_72, if_true, if_false, mqM_tp, mqM_size, mqM_limit, mqM_to, mqM_frm, mqM_kind, mqM_number, mqM_sign, mqM_word, MT_.w_tp, MT_.w_size, MT_.w_limit, MT_.w_to, MT_.w_frm, MT_.w_kind, MT_.w_number, MT_.w_sign, MT_.w_word] at u_28); simp only [mGo2, mGo3, mGoE, mSg, mStep, mGood, Int32.sub_self, (by decide : (7 ≤ (0 : Int32)) = False), (by decide : (3 ≤ (0 : Int32)) = False), (by decide : 10 * (0 : Int32) = 0), emqx, hs_76, hs_3, hQ_27, f_29, u_28, c_34, c_39, h_40, hx_45, f_46, (eq_true h_47), f_49, hx_50, h_51, (nle h_51), hy_61, f_62, hy_63, hy_64, hy_65, hy_66, h_70, hx_72, if_true, if_false, mqM_tp, mqM_size, mqM_limit, mqM_to, mqM_frm, mqM_kind, mqM_number, mqM_sign, mqM_word, MT_.w_tp, MT_.w_size, MT_.w_limit, MT_.w_to, MT_.w_frm, MT_.w_kind, MT_.w_number, MT_.w_sign, MT_.w_word]) (by have := hj_24; have := (ti_k tx_72 rc_1); omega) (ms_1 hm_25 (ti_k tx_72 rc_1) (by decide))
            · skip
              have r_77 := lt_l (hi := 2) (nle h_70) r_60 rc_3 (by decide)
              refine g_aload_n C 2 dX12_go_320 rfl rfl ?_
              refine g_bipush C (v := 10) dX12_go_321 (by decide) ?_
              refine g_aload_n C 2 dX12_go_323 rfl rfl ?_
              have f_78 : s_26.number = v_17 := (congrArg MT_.number hs_69).symm.trans q_22
              refine g_getI C K hLx hkx f_12_121 (v := v_17) q_22 dX12_go_324 ?_
              obtain ⟨x_79, hx_79, rx_79⟩ := ex_any (z0 := 10 * v_17)
              refine g_imul C (v := x_79) dX12_go_327 hx_79 ?_
              refine g_iload C 1 dX12_go_328 rfl ?_
              obtain ⟨x_80, hx_80, rx_80⟩ := ex_any (z0 := x_79 + x_45)
              refine g_iadd C (v := x_80) dX12_go_330 hx_80 ?_
              refine g_bipush C (v := 48) dX12_go_331 (by decide) ?_
              obtain ⟨x_81, hx_81, rx_81⟩ := ex_any (z0 := x_80 - 48)
              refine g_isub C (v := x_81) dX12_go_333 hx_81 ?_
              refine h_putI C K hLx hkx f_12_121 p_12_8 dX12_go_334 (fun I_82 hI_82 => ?_)
              have hU_83 := iw_put W9 hU_6 hI_82 (ro_o hkx (by decide)) (lo := (-2147483648)) (hi := 2147483647) (rfl) (rx_81) rfl
              have hF_84 := fq_puto hF_7 hI_82 hkx (by decide) (by decide)
              have hs_85 : MTq I_82 J_67 x b_2 = (MT_.w_number (MT_.w_word s_26 (y_66)) (x_81)) := by rw [hI_82]; exact ((mq_number wmqx).trans (congrArg (fun z : MT_ => MT_.w_number z (x_81)) hs_69)).trans rfl
              refine g_aload_n C 2 dX12_go_337 rfl rfl ?_
              refine g_dup C dX12_go_338 rfl ?_
              refine g_getI C K hLx hkx f_12_95 (v := v_15) (kp_j hI_82 (by decide) q_20) dX12_go_339 ?_
              refine g_iconst C (v := 1) dX12_go_342 (by decide) ?_
              obtain ⟨x_86, hx_86, rx_86, tx_86⟩ := ex_add 2 940 r_44 rc_1 (by decide) (by decide) (by decide) (by decide)
              refine g_iadd C (v := x_86) dX12_go_343 hx_86 ?_
              refine h_putI C K hLx hkx f_12_95 p_12_5 dX12_go_344 (fun I_87 hI_87 => ?_)
              have hU_88 := iw_put W9 hU_83 hI_87 (ro_o hkx (by decide)) (lo := 0) (hi := 940) (rfl) (rg_w rx_86 (by decide) (by decide)) rfl
              have hF_89 := fq_puto hF_84 hI_87 hkx (by decide) (by decide)
              have hs_90 : MTq I_87 J_67 x b_2 = (MT_.w_to (MT_.w_number (MT_.w_word s_26 (y_66)) (x_81)) (x_86)) := by rw [hI_87]; exact ((mq_to wmqx).trans (congrArg (fun z : MT_ => MT_.w_to z (x_86)) hs_85)).trans rfl
              refine g_goto C (tgt := 215) dX12_go_347 (by decide) ?_
              refine g_lo (is := [2, 3, 4, 0, 1]) (lo2 := [(0, .ref x), (1, .int v_9), (2, .int v_10), (3, .int 0), (4, .int x_45)]) rfl ?_
              exact ih_215 I_87 J_67 hU_88 hF_89 hG_68 v_9 (rv_9) (nv_9_10) (nv_9_32) v_10 (rv_10) 0 (rg_w rc_0 (by decide) (by decide)) x_45 (rx_45) v_13 (rv_13) v_14 (rv_14) x_86 (rg_w rx_86 (by decide) (by decide)) v_16 (rv_16) x_81 (kp_j hI_87 (by decide) (kp_j hI_82 (by decide) q_18)) (kp_j hI_87 (by decide) (kp_j hI_82 (by decide) q_19)) (kp_s hI_87) (kp_j hI_87 (by decide) (kp_j hI_82 (by decide) q_21)) (kp_j hI_87 (by decide) (kp_s hI_82)) (by (try simp only [f_29, c_34, c_39, h_40, hx_45, f_46, (eq_true h_47), f_49, hx_50, h_51, (nle h_51), hy_61, f_62, hy_63, hy_64, hy_65, hy_66, h_70, (nle h_70), f_78, hx_79, hx_80, hx_81, hx_86, if_true, if_false, mqM_tp, mqM_size, mqM_limit, mqM_to, mqM_frm, mqM_kind, mqM_number, mqM_sign, mqM_word, MT_.w_tp, MT_.w_size, MT_.w_limit, MT_.w_to, MT_.w_frm, MT_.w_kind, MT_.w_number, MT_.w_sign, MT_.w_word] at hQ_27); (try simp only [f_29, c_34, c_39, h_40, hx_45, f_46, (eq_true h_47), f_49, hx_50, h_51, (nle h_51), hy_61, f_62, hy_63, hy_64, hy_65, hy_66, h_70, (nle h_70), f_78, hx_79, hx_80, hx_81, hx_86, if_true, if_false, mqM_tp, mqM_size, mqM_limit, mqM_to, mqM_frm, mqM_kind, mqM_number, mqM_sign, mqM_word, MT_.w_tp, MT_.w_size, MT_.w_limit, MT_.w_to, MT_.w_frm, MT_.w_kind, MT_.w_number, MT_.w_sign, MT_.w_word] at u_28); simp only [mGo2, mGo3, mGoE, mSg, mStep, mGood, Int32.sub_self, (by decide : (7 ≤ (0 : Int32)) = False), (by decide : (3 ≤ (0 : Int32)) = False), (by decide : 10 * (0 : Int32) = 0), emqx, hs_90, hs_3, hQ_27, f_29, u_28, c_34, c_39, h_40, hx_45, f_46, (eq_true h_47), f_49, hx_50, h_51, (nle h_51), hy_61, f_62, hy_63, hy_64, hy_65, hy_66, h_70, (nle h_70), f_78, hx_79, hx_80, hx_81, hx_86, if_true, if_false, mqM_tp, mqM_size, mqM_limit, mqM_to, mqM_frm, mqM_kind, mqM_number, mqM_sign, mqM_word, MT_.w_tp, MT_.w_size, MT_.w_limit, MT_.w_to, MT_.w_frm, MT_.w_kind, MT_.w_number, MT_.w_sign, MT_.w_word]) (by have := hj_24; have := (ti_k tx_86 rc_1); omega) (ms_1 hm_25 (ti_k tx_86 rc_1) (by decide))
        · skip
          have n_91 : ¬ v_11 = 0 := h_47
          have r_92 := ne_lo (lo := 1) n_91 rv_11 rc_0 rfl (by decide)
          refine g_iload C 0 dX12_go_258 rfl ?_
          refine g_callSI C K (c_X12_isLetter W9 x_45  hU_6) s_12_107 rfl ⟨rfl, rfl⟩ ⟨Nat.le_of_ble_eq_true rfl, Nat.le_of_ble_eq_true rfl⟩ (Nat.le_of_ble_eq_true rfl) ⟨Nat.le_of_ble_eq_true rfl, Nat.le_of_ble_eq_true rfl⟩ dX12_go_260 rfl (st := []) (fun x_93 I_94 J_95 h_96 => ?_)
          obtain ⟨rfl, rfl, rx_93, fx_93, ex_93⟩ := h_96
          have c_97 : isLc (x_45) = x_93 := fx_93.symm
          refine g_iload_n C 3 dX12_go_263 rfl rfl ?_
          refine g_icmp_ne C (tgt := 271) dX12_go_264 (by decide) (fun h_98 => ?_) (fun h_98 => ?_)
          · skip
            refine g_iconst C (v := 0) dX12_go_271 (by decide) ?_
            refine g_istore_n C dX12_go_272 rfl (by decide) (lo2 := [(3, .int 0), (4, .int x_45), (0, .ref x), (1, .int v_9), (2, .int v_10)]) rfl ?_
            refine g_aload_n C 2 dX12_go_273 rfl rfl ?_
            refine g_getI C K hLx hkx f_12_95 (v := v_15) q_20 dX12_go_274 ?_
            refine g_aload_n C 2 dX12_go_277 rfl rfl ?_
            have f_99 : s_26.frm = v_16 := (congrArg MT_.frm hs_26).symm.trans q_21
            refine g_getI C K hLx hkx f_12_98 (v := v_16) q_21 dX12_go_278 ?_
            obtain ⟨x_100, hx_100, rx_100, tx_100⟩ := ex_sub (-898) 939 r_44 rv_16 (by decide) (by decide) (by decide) (by decide)
            refine g_isub C (v := x_100) dX12_go_281 hx_100 ?_
            refine g_bipush C (v := 7) dX12_go_282 (by decide) ?_
            refine g_icmp_ge C (tgt := 307) dX12_go_284 (by decide) (fun h_101 => ?_) (fun h_101 => ?_)
            · skip
              have r_102 := le_r (h_101) rc_7 rx_100
              refine g_aload_n C 2 dX12_go_307 rfl rfl ?_
              refine g_getI C K hLx hkx f_12_95 (v := v_15) q_20 dX12_go_308 ?_
              refine g_aload_n C 2 dX12_go_311 rfl rfl ?_
              refine g_getI C K hLx hkx f_12_98 (v := v_16) q_21 dX12_go_312 ?_
              refine g_isub C (v := x_100) dX12_go_315 hx_100 ?_
              refine g_iconst C (v := 3) dX12_go_316 (by decide) ?_
              refine g_icmp_ge C (tgt := 337) dX12_go_317 (by decide) (fun h_103 => ?_) (fun h_103 => ?_)
              · skip
                refine g_aload_n C 2 dX12_go_337 rfl rfl ?_
                refine g_dup C dX12_go_338 rfl ?_
                refine g_getI C K hLx hkx f_12_95 (v := v_15) q_20 dX12_go_339 ?_
                refine g_iconst C (v := 1) dX12_go_342 (by decide) ?_
                obtain ⟨x_104, hx_104, rx_104, tx_104⟩ := ex_add 2 940 r_44 rc_1 (by decide) (by decide) (by decide) (by decide)
                refine g_iadd C (v := x_104) dX12_go_343 hx_104 ?_
                refine h_putI C K hLx hkx f_12_95 p_12_5 dX12_go_344 (fun I_105 hI_105 => ?_)
                have hU_106 := iw_put W9 hU_6 hI_105 (ro_o hkx (by decide)) (lo := 0) (hi := 940) (rfl) (rg_w rx_104 (by decide) (by decide)) rfl
                have hF_107 := fq_puto hF_7 hI_105 hkx (by decide) (by decide)
                have hs_108 : MTq I_105 J_5 x b_2 = (MT_.w_to s_26 (x_104)) := by rw [hI_105]; exact ((mq_to wmqx).trans (congrArg (fun z : MT_ => MT_.w_to z (x_104)) hs_26)).trans rfl
                refine g_goto C (tgt := 215) dX12_go_347 (by decide) ?_
                refine g_lo (is := [2, 3, 4, 0, 1]) (lo2 := [(0, .ref x), (1, .int v_9), (2, .int v_10), (3, .int 0), (4, .int x_45)]) rfl ?_
                exact ih_215 I_105 J_5 hU_106 hF_107 hG_8 v_9 (rv_9) (nv_9_10) (nv_9_32) v_10 (rv_10) 0 (rg_w rc_0 (by decide) (by decide)) x_45 (rx_45) v_13 (rv_13) v_14 (rv_14) x_104 (rg_w rx_104 (by decide) (by decide)) v_16 (rv_16) v_17 (kp_j hI_105 (by decide) q_18) (kp_j hI_105 (by decide) q_19) (kp_s hI_105) (kp_j hI_105 (by decide) q_21) (kp_j hI_105 (by decide) q_22) (by (try simp only [f_29, c_34, c_39, h_40, hx_45, f_46, h_47, c_97, h_98, f_99, hx_100, h_101, h_103, hx_104, if_true, if_false, mqM_tp, mqM_size, mqM_limit, mqM_to, mqM_frm, mqM_kind, mqM_number, mqM_sign, mqM_word, MT_.w_tp, MT_.w_size, MT_.w_limit, MT_.w_to, MT_.w_frm, MT_.w_kind, MT_.w_number, MT_.w_sign, MT_.w_word] at hQ_27); (try simp only [f_29, c_34, c_39, h_40, hx_45, f_46, h_47, c_97, h_98, f_99, hx_100, h_101, h_103, hx_104, if_true, if_false, mqM_tp, mqM_size, mqM_limit, mqM_to, mqM_frm, mqM_kind, mqM_number, mqM_sign, mqM_word, MT_.w_tp, MT_.w_size, MT_.w_limit, MT_.w_to, MT_.w_frm, MT_.w_kind, MT_.w_number, MT_.w_sign, MT_.w_word] at u_28); simp only [mGo2, mGo3, mGoE, mSg, mStep, mGood, Int32.sub_self, (by decide : (7 ≤ (0 : Int32)) = False), (by decide : (3 ≤ (0 : Int32)) = False), (by decide : 10 * (0 : Int32) = 0), emqx, hs_108, hs_3, hQ_27, f_29, u_28, c_34, c_39, h_40, hx_45, f_46, h_47, c_97, h_98, f_99, hx_100, h_101, h_103, hx_104, if_true, if_false, mqM_tp, mqM_size, mqM_limit, mqM_to, mqM_frm, mqM_kind, mqM_number, mqM_sign, mqM_word, MT_.w_tp, MT_.w_size, MT_.w_limit, MT_.w_to, MT_.w_frm, MT_.w_kind, MT_.w_number, MT_.w_sign, MT_.w_word]) (by have := hj_24; have := (ti_k tx_104 rc_1); omega) (ms_1 hm_25 (ti_k tx_104 rc_1) (by decide))
              · skip
                have r_109 := lt_l (hi := 2) (nle h_103) r_102 rc_3 (by decide)
                exact rg_no r_109 (by decide)
            · skip
              have r_110 := lt_l (hi := 6) (nle h_101) rx_100 rc_7 (by decide)
              refine g_aload_n C 2 dX12_go_287 rfl rfl ?_
              refine g_ldc2 C kl_128 dX12_go_288 ?_
              refine g_aload_n C 2 dX12_go_291 rfl rfl ?_
              obtain ⟨y_111, hy_111⟩ : ∃ z, J_5 x 12 = z := ⟨_, rfl⟩
              have f_112 : s_26.word = y_111 := (congrArg MT_.word hs_26).symm.trans hy_111
              refine g_getJ C K hLx hkx f_12_117 (v := y_111) hy_111 dX12_go_292 ?_
              refine g_lmulE C dX12_go_295 (fun y_113 hy_113 => ?_)
              refine g_iload C 1 dX12_go_296 rfl ?_
              obtain ⟨y_114, hy_114⟩ : ∃ z, Int32.toInt64 x_45 = z := ⟨_, rfl⟩
              refine g_i2l C (v := y_114) dX12_go_298 hy_114 ?_
              refine g_laddE C dX12_go_299 (fun y_115 hy_115 => ?_)
              refine g_ldc2 C kl_130 dX12_go_300 ?_
              refine g_lsubE C dX12_go_303 (fun y_116 hy_116 => ?_)
              refine h_putJ C K hLx hkx f_12_117 p_12_12 dX12_go_304 (fun J_117 hJ_117 => ?_)
              have hG_118 := fq_puto hG_8 hJ_117 hkx (by decide) (by decide)
              have hs_119 : MTq I_4 J_117 x b_2 = (MT_.w_word s_26 (y_116)) := by rw [hJ_117]; exact ((mq_word wmqx).trans (congrArg (fun z : MT_ => MT_.w_word z (y_116)) hs_26)).trans rfl
              refine g_aload_n C 2 dX12_go_307 rfl rfl ?_
              refine g_getI C K hLx hkx f_12_95 (v := v_15) q_20 dX12_go_308 ?_
              refine g_aload_n C 2 dX12_go_311 rfl rfl ?_
              refine g_getI C K hLx hkx f_12_98 (v := v_16) q_21 dX12_go_312 ?_
              refine g_isub C (v := x_100) dX12_go_315 hx_100 ?_
              refine g_iconst C (v := 3) dX12_go_316 (by decide) ?_
              refine g_icmp_ge C (tgt := 337) dX12_go_317 (by decide) (fun h_120 => ?_) (fun h_120 => ?_)
              · skip
                have r_121 := le_r (h_120) rc_3 r_110
                refine g_aload_n C 2 dX12_go_337 rfl rfl ?_
                refine g_dup C dX12_go_338 rfl ?_
                refine g_getI C K hLx hkx f_12_95 (v := v_15) q_20 dX12_go_339 ?_
                refine g_iconst C (v := 1) dX12_go_342 (by decide) ?_
                obtain ⟨x_122, hx_122, rx_122, tx_122⟩ := ex_add 2 940 r_44 rc_1 (by decide) (by decide) (by decide) (by decide)
                refine g_iadd C (v := x_122) dX12_go_343 hx_122 ?_
                refine h_putI C K hLx hkx f_12_95 p_12_5 dX12_go_344 (fun I_123 hI_123 => ?_)
                have hU_124 := iw_put W9 hU_6 hI_123 (ro_o hkx (by decide)) (lo := 0) (hi := 940) (rfl) (rg_w rx_122 (by decide) (by decide)) rfl
                have hF_125 := fq_puto hF_7 hI_123 hkx (by decide) (by decide)
                have hs_126 : MTq I_123 J_117 x b_2 = (MT_.w_to (MT_.w_word s_26 (y_116)) (x_122)) := by rw [hI_123]; exact ((mq_to wmqx).trans (congrArg (fun z : MT_ => MT_.w_to z (x_122)) hs_119)).trans rfl
                refine g_goto C (tgt := 215) dX12_go_347 (by decide) ?_
                refine g_lo (is := [2, 3, 4, 0, 1]) (lo2 := [(0, .ref x), (1, .int v_9), (2, .int v_10), (3, .int 0), (4, .int x_45)]) rfl ?_
                exact ih_215 I_123 J_117 hU_124 hF_125 hG_118 v_9 (rv_9) (nv_9_10) (nv_9_32) v_10 (rv_10) 0 (rg_w rc_0 (by decide) (by decide)) x_45 (rx_45) v_13 (rv_13) v_14 (rv_14) x_122 (rg_w rx_122 (by decide) (by decide)) v_16 (rv_16) v_17 (kp_j hI_123 (by decide) q_18) (kp_j hI_123 (by decide) q_19) (kp_s hI_123) (kp_j hI_123 (by decide) q_21) (kp_j hI_123 (by decide) q_22) (by (try simp only [f_29, c_34, c_39, h_40, hx_45, f_46, h_47, c_97, h_98, f_99, hx_100, h_101, (nle h_101), hy_111, f_112, hy_113, hy_114, hy_115, hy_116, h_120, hx_122, if_true, if_false, mqM_tp, mqM_size, mqM_limit, mqM_to, mqM_frm, mqM_kind, mqM_number, mqM_sign, mqM_word, MT_.w_tp, MT_.w_size, MT_.w_limit, MT_.w_to, MT_.w_frm, MT_.w_kind, MT_.w_number, MT_.w_sign, MT_.w_word] at hQ_27); (try simp only [f_29, c_34, c_39, h_40, hx_45, f_46, h_47, c_97, h_98, f_99, hx_100, h_101, (nle h_101), hy_111, f_112, hy_113, hy_114, hy_115, hy_116, h_120, hx_122, if_true, if_false, mqM_tp, mqM_size, mqM_limit, mqM_to, mqM_frm, mqM_kind, mqM_number, mqM_sign, mqM_word, MT_.w_tp, MT_.w_size, MT_.w_limit, MT_.w_to, MT_.w_frm, MT_.w_kind, MT_.w_number, MT_.w_sign, MT_.w_word] at u_28); simp only [mGo2, mGo3, mGoE, mSg, mStep, mGood, Int32.sub_self, (by decide : (7 ≤ (0 : Int32)) = False), (by decide : (3 ≤ (0 : Int32)) = False), (by decide : 10 * (0 : Int32) = 0), emqx, hs_126, hs_3, hQ_27, f_29, u_28, c_34, c_39, h_40, hx_45, f_46, h_47, c_97, h_98, f_99, hx_100, h_101, (nle h_101), hy_111, f_112, hy_113, hy_114, hy_115, hy_116, h_120, hx_122, if_true, if_false, mqM_tp, mqM_size, mqM_limit, mqM_to, mqM_frm, mqM_kind, mqM_number, mqM_sign, mqM_word, MT_.w_tp, MT_.w_size, MT_.w_limit, MT_.w_to, MT_.w_frm, MT_.w_kind, MT_.w_number, MT_.w_sign, MT_.w_word]) (by have := hj_24; have := (ti_k tx_122 rc_1); omega) (ms_1 hm_25 (ti_k tx_122 rc_1) (by decide))
              · skip
                have r_127 := lt_l (hi := 2) (nle h_120) r_110 rc_3 (by decide)
                refine g_aload_n C 2 dX12_go_320 rfl rfl ?_
                refine g_bipush C (v := 10) dX12_go_321 (by decide) ?_
                refine g_aload_n C 2 dX12_go_323 rfl rfl ?_
                have f_128 : s_26.number = v_17 := (congrArg MT_.number hs_119).symm.trans q_22
                refine g_getI C K hLx hkx f_12_121 (v := v_17) q_22 dX12_go_324 ?_
                obtain ⟨x_129, hx_129, rx_129⟩ := ex_any (z0 := 10 * v_17)
                refine g_imul C (v := x_129) dX12_go_327 hx_129 ?_
                refine g_iload C 1 dX12_go_328 rfl ?_
                obtain ⟨x_130, hx_130, rx_130⟩ := ex_any (z0 := x_129 + x_45)
                refine g_iadd C (v := x_130) dX12_go_330 hx_130 ?_
                refine g_bipush C (v := 48) dX12_go_331 (by decide) ?_
                obtain ⟨x_131, hx_131, rx_131⟩ := ex_any (z0 := x_130 - 48)
                refine g_isub C (v := x_131) dX12_go_333 hx_131 ?_
                refine h_putI C K hLx hkx f_12_121 p_12_8 dX12_go_334 (fun I_132 hI_132 => ?_)
                have hU_133 := iw_put W9 hU_6 hI_132 (ro_o hkx (by decide)) (lo := (-2147483648)) (hi := 2147483647) (rfl) (rx_131) rfl
                have hF_134 := fq_puto hF_7 hI_132 hkx (by decide) (by decide)
                have hs_135 : MTq I_132 J_117 x b_2 = (MT_.w_number (MT_.w_word s_26 (y_116)) (x_131)) := by rw [hI_132]; exact ((mq_number wmqx).trans (congrArg (fun z : MT_ => MT_.w_number z (x_131)) hs_119)).trans rfl
                refine g_aload_n C 2 dX12_go_337 rfl rfl ?_
                refine g_dup C dX12_go_338 rfl ?_
                refine g_getI C K hLx hkx f_12_95 (v := v_15) (kp_j hI_132 (by decide) q_20) dX12_go_339 ?_
                refine g_iconst C (v := 1) dX12_go_342 (by decide) ?_
                obtain ⟨x_136, hx_136, rx_136, tx_136⟩ := ex_add 2 940 r_44 rc_1 (by decide) (by decide) (by decide) (by decide)
                refine g_iadd C (v := x_136) dX12_go_343 hx_136 ?_
                refine h_putI C K hLx hkx f_12_95 p_12_5 dX12_go_344 (fun I_137 hI_137 => ?_)
                have hU_138 := iw_put W9 hU_133 hI_137 (ro_o hkx (by decide)) (lo := 0) (hi := 940) (rfl) (rg_w rx_136 (by decide) (by decide)) rfl
                have hF_139 := fq_puto hF_134 hI_137 hkx (by decide) (by decide)
                have hs_140 : MTq I_137 J_117 x b_2 = (MT_.w_to (MT_.w_number (MT_.w_word s_26 (y_116)) (x_131)) (x_136)) := by rw [hI_137]; exact ((mq_to wmqx).trans (congrArg (fun z : MT_ => MT_.w_to z (x_136)) hs_135)).trans rfl
                refine g_goto C (tgt := 215) dX12_go_347 (by decide) ?_
                refine g_lo (is := [2, 3, 4, 0, 1]) (lo2 := [(0, .ref x), (1, .int v_9), (2, .int v_10), (3, .int 0), (4, .int x_45)]) rfl ?_
                exact ih_215 I_137 J_117 hU_138 hF_139 hG_118 v_9 (rv_9) (nv_9_10) (nv_9_32) v_10 (rv_10) 0 (rg_w rc_0 (by decide) (by decide)) x_45 (rx_45) v_13 (rv_13) v_14 (rv_14) x_136 (rg_w rx_136 (by decide) (by decide)) v_16 (rv_16) x_131 (kp_j hI_137 (by decide) (kp_j hI_132 (by decide) q_18)) (kp_j hI_137 (by decide) (kp_j hI_132 (by decide) q_19)) (kp_s hI_137) (kp_j hI_137 (by decide) (kp_j hI_132 (by decide) q_21)) (kp_j hI_137 (by decide) (kp_s hI_132)) (by (try simp only [f_29, c_34, c_39, h_40, hx_45, f_46, h_47, c_97, h_98, f_99, hx_100, h_101, (nle h_101), hy_111, f_112, hy_113, hy_114, hy_115, hy_116, h_120, (nle h_120), f_128, hx_129, hx_130, hx_131, hx_136, if_true, if_false, mqM_tp, mqM_size, mqM_limit, mqM_to, mqM_frm, mqM_kind, mqM_number, mqM_sign, mqM_word, MT_.w_tp, MT_.w_size, MT_.w_limit, MT_.w_to, MT_.w_frm, MT_.w_kind, MT_.w_number, MT_.w_sign, MT_.w_word] at hQ_27); (try simp only [f_29, c_34, c_39, h_40, hx_45, f_46, h_47, c_97, h_98, f_99, hx_100, h_101, (nle h_101), hy_111, f_112, hy_113, hy_114, hy_115, hy_116, h_120, (nle h_120), f_128, hx_129, hx_130, hx_131, hx_136, if_true, if_false, mqM_tp, mqM_size, mqM_limit, mqM_to, mqM_frm, mqM_kind, mqM_number, mqM_sign, mqM_word, MT_.w_tp, MT_.w_size, MT_.w_limit, MT_.w_to, MT_.w_frm, MT_.w_kind, MT_.w_number, MT_.w_sign, MT_.w_word] at u_28); simp only [mGo2, mGo3, mGoE, mSg, mStep, mGood, Int32.sub_self, (by decide : (7 ≤ (0 : Int32)) = False), (by decide : (3 ≤ (0 : Int32)) = False), (by decide : 10 * (0 : Int32) = 0), emqx, hs_140, hs_3, hQ_27, f_29, u_28, c_34, c_39, h_40, hx_45, f_46, h_47, c_97, h_98, f_99, hx_100, h_101, (nle h_101), hy_111, f_112, hy_113, hy_114, hy_115, hy_116, h_120, (nle h_120), f_128, hx_129, hx_130, hx_131, hx_136, if_true, if_false, mqM_tp, mqM_size, mqM_limit, mqM_to, mqM_frm, mqM_kind, mqM_number, mqM_sign, mqM_word, MT_.w_tp, MT_.w_size, MT_.w_limit, MT_.w_to, MT_.w_frm, MT_.w_kind, MT_.w_number, MT_.w_sign, MT_.w_word]) (by have := hj_24; have := (ti_k tx_136 rc_1); omega) (ms_1 hm_25 (ti_k tx_136 rc_1) (by decide))
          · skip
            refine g_iconst C (v := 1) dX12_go_267 (by decide) ?_
            refine g_goto C (tgt := 272) dX12_go_268 (by decide) ?_
            refine g_istore_n C dX12_go_272 rfl (by decide) (lo2 := [(3, .int 1), (4, .int x_45), (0, .ref x), (1, .int v_9), (2, .int v_10)]) rfl ?_
            refine g_aload_n C 2 dX12_go_273 rfl rfl ?_
            refine g_getI C K hLx hkx f_12_95 (v := v_15) q_20 dX12_go_274 ?_
            refine g_aload_n C 2 dX12_go_277 rfl rfl ?_
            have f_141 : s_26.frm = v_16 := (congrArg MT_.frm hs_26).symm.trans q_21
            refine g_getI C K hLx hkx f_12_98 (v := v_16) q_21 dX12_go_278 ?_
            obtain ⟨x_142, hx_142, rx_142, tx_142⟩ := ex_sub (-898) 939 r_44 rv_16 (by decide) (by decide) (by decide) (by decide)
            refine g_isub C (v := x_142) dX12_go_281 hx_142 ?_
            refine g_bipush C (v := 7) dX12_go_282 (by decide) ?_
            refine g_icmp_ge C (tgt := 307) dX12_go_284 (by decide) (fun h_143 => ?_) (fun h_143 => ?_)
            · skip
              have r_144 := le_r (h_143) rc_7 rx_142
              refine g_aload_n C 2 dX12_go_307 rfl rfl ?_
              refine g_getI C K hLx hkx f_12_95 (v := v_15) q_20 dX12_go_308 ?_
              refine g_aload_n C 2 dX12_go_311 rfl rfl ?_
              refine g_getI C K hLx hkx f_12_98 (v := v_16) q_21 dX12_go_312 ?_
              refine g_isub C (v := x_142) dX12_go_315 hx_142 ?_
              refine g_iconst C (v := 3) dX12_go_316 (by decide) ?_
              refine g_icmp_ge C (tgt := 337) dX12_go_317 (by decide) (fun h_145 => ?_) (fun h_145 => ?_)
              · skip
                refine g_aload_n C 2 dX12_go_337 rfl rfl ?_
                refine g_dup C dX12_go_338 rfl ?_
                refine g_getI C K hLx hkx f_12_95 (v := v_15) q_20 dX12_go_339 ?_
                refine g_iconst C (v := 1) dX12_go_342 (by decide) ?_
                obtain ⟨x_146, hx_146, rx_146, tx_146⟩ := ex_add 2 940 r_44 rc_1 (by decide) (by decide) (by decide) (by decide)
                refine g_iadd C (v := x_146) dX12_go_343 hx_146 ?_
                refine h_putI C K hLx hkx f_12_95 p_12_5 dX12_go_344 (fun I_147 hI_147 => ?_)
                have hU_148 := iw_put W9 hU_6 hI_147 (ro_o hkx (by decide)) (lo := 0) (hi := 940) (rfl) (rg_w rx_146 (by decide) (by decide)) rfl
                have hF_149 := fq_puto hF_7 hI_147 hkx (by decide) (by decide)
                have hs_150 : MTq I_147 J_5 x b_2 = (MT_.w_to s_26 (x_146)) := by rw [hI_147]; exact ((mq_to wmqx).trans (congrArg (fun z : MT_ => MT_.w_to z (x_146)) hs_26)).trans rfl
                refine g_goto C (tgt := 215) dX12_go_347 (by decide) ?_
                refine g_lo (is := [2, 3, 4, 0, 1]) (lo2 := [(0, .ref x), (1, .int v_9), (2, .int v_10), (3, .int 1), (4, .int x_45)]) rfl ?_
                exact ih_215 I_147 J_5 hU_148 hF_149 hG_8 v_9 (rv_9) (nv_9_10) (nv_9_32) v_10 (rv_10) 1 (rg_w rc_1 (by decide) (by decide)) x_45 (rx_45) v_13 (rv_13) v_14 (rv_14) x_146 (rg_w rx_146 (by decide) (by decide)) v_16 (rv_16) v_17 (kp_j hI_147 (by decide) q_18) (kp_j hI_147 (by decide) q_19) (kp_s hI_147) (kp_j hI_147 (by decide) q_21) (kp_j hI_147 (by decide) q_22) (by (try simp only [f_29, c_34, c_39, h_40, hx_45, f_46, h_47, c_97, (eq_true h_98), f_141, hx_142, h_143, h_145, hx_146, if_true, if_false, mqM_tp, mqM_size, mqM_limit, mqM_to, mqM_frm, mqM_kind, mqM_number, mqM_sign, mqM_word, MT_.w_tp, MT_.w_size, MT_.w_limit, MT_.w_to, MT_.w_frm, MT_.w_kind, MT_.w_number, MT_.w_sign, MT_.w_word] at hQ_27); (try simp only [f_29, c_34, c_39, h_40, hx_45, f_46, h_47, c_97, (eq_true h_98), f_141, hx_142, h_143, h_145, hx_146, if_true, if_false, mqM_tp, mqM_size, mqM_limit, mqM_to, mqM_frm, mqM_kind, mqM_number, mqM_sign, mqM_word, MT_.w_tp, MT_.w_size, MT_.w_limit, MT_.w_to, MT_.w_frm, MT_.w_kind, MT_.w_number, MT_.w_sign, MT_.w_word] at u_28); simp only [mGo2, mGo3, mGoE, mSg, mStep, mGood, Int32.sub_self, (by decide : (7 ≤ (0 : Int32)) = False), (by decide : (3 ≤ (0 : Int32)) = False), (by decide : 10 * (0 : Int32) = 0), emqx, hs_150, hs_3, hQ_27, f_29, u_28, c_34, c_39, h_40, hx_45, f_46, h_47, c_97, (eq_true h_98), f_141, hx_142, h_143, h_145, hx_146, if_true, if_false, mqM_tp, mqM_size, mqM_limit, mqM_to, mqM_frm, mqM_kind, mqM_number, mqM_sign, mqM_word, MT_.w_tp, MT_.w_size, MT_.w_limit, MT_.w_to, MT_.w_frm, MT_.w_kind, MT_.w_number, MT_.w_sign, MT_.w_word]) (by have := hj_24; have := (ti_k tx_146 rc_1); omega) (ms_1 hm_25 (ti_k tx_146 rc_1) (by decide))
              · skip
                have r_151 := lt_l (hi := 2) (nle h_145) r_144 rc_3 (by decide)
                exact rg_no r_151 (by decide)
            · skip
              have r_152 := lt_l (hi := 6) (nle h_143) rx_142 rc_7 (by decide)
              refine g_aload_n C 2 dX12_go_287 rfl rfl ?_
              refine g_ldc2 C kl_128 dX12_go_288 ?_
              refine g_aload_n C 2 dX12_go_291 rfl rfl ?_
              obtain ⟨y_153, hy_153⟩ : ∃ z, J_5 x 12 = z := ⟨_, rfl⟩
              have f_154 : s_26.word = y_153 := (congrArg MT_.word hs_26).symm.trans hy_153
              refine g_getJ C K hLx hkx f_12_117 (v := y_153) hy_153 dX12_go_292 ?_
              refine g_lmulE C dX12_go_295 (fun y_155 hy_155 => ?_)
              refine g_iload C 1 dX12_go_296 rfl ?_
              obtain ⟨y_156, hy_156⟩ : ∃ z, Int32.toInt64 x_45 = z := ⟨_, rfl⟩
              refine g_i2l C (v := y_156) dX12_go_298 hy_156 ?_
              refine g_laddE C dX12_go_299 (fun y_157 hy_157 => ?_)
              refine g_ldc2 C kl_130 dX12_go_300 ?_
              refine g_lsubE C dX12_go_303 (fun y_158 hy_158 => ?_)
              refine h_putJ C K hLx hkx f_12_117 p_12_12 dX12_go_304 (fun J_159 hJ_159 => ?_)
              have hG_160 := fq_puto hG_8 hJ_159 hkx (by decide) (by decide)
              have hs_161 : MTq I_4 J_159 x b_2 = (MT_.w_word s_26 (y_158)) := by rw [hJ_159]; exact ((mq_word wmqx).trans (congrArg (fun z : MT_ => MT_.w_word z (y_158)) hs_26)).trans rfl
              refine g_aload_n C 2 dX12_go_307 rfl rfl ?_
              refine g_getI C K hLx hkx f_12_95 (v := v_15) q_20 dX12_go_308 ?_
              refine g_aload_n C 2 dX12_go_311 rfl rfl ?_
              refine g_getI C K hLx hkx f_12_98 (v := v_16) q_21 dX12_go_312 ?_
              refine g_isub C (v := x_142) dX12_go_315 hx_142 ?_
              refine g_iconst C (v := 3) dX12_go_316 (by decide) ?_
              refine g_icmp_ge C (tgt := 337) dX12_go_317 (by decide) (fun h_162 => ?_) (fun h_162 => ?_)
              · skip
                have r_163 := le_r (h_162) rc_3 r_152
                refine g_aload_n C 2 dX12_go_337 rfl rfl ?_
                refine g_dup C dX12_go_338 rfl ?_
                refine g_getI C K hLx hkx f_12_95 (v := v_15) q_20 dX12_go_339 ?_
                refine g_iconst C (v := 1) dX12_go_342 (by decide) ?_
                obtain ⟨x_164, hx_164, rx_164, tx_164⟩ := ex_add 2 940 r_44 rc_1 (by decide) (by decide) (by decide) (by decide)
                refine g_iadd C (v := x_164) dX12_go_343 hx_164 ?_
                refine h_putI C K hLx hkx f_12_95 p_12_5 dX12_go_344 (fun I_165 hI_165 => ?_)
                have hU_166 := iw_put W9 hU_6 hI_165 (ro_o hkx (by decide)) (lo := 0) (hi := 940) (rfl) (rg_w rx_164 (by decide) (by decide)) rfl
                have hF_167 := fq_puto hF_7 hI_165 hkx (by decide) (by decide)
                have hs_168 : MTq I_165 J_159 x b_2 = (MT_.w_to (MT_.w_word s_26 (y_158)) (x_164)) := by rw [hI_165]; exact ((mq_to wmqx).trans (congrArg (fun z : MT_ => MT_.w_to z (x_164)) hs_161)).trans rfl
                refine g_goto C (tgt := 215) dX12_go_347 (by decide) ?_
                refine g_lo (is := [2, 3, 4, 0, 1]) (lo2 := [(0, .ref x), (1, .int v_9), (2, .int v_10), (3, .int 1), (4, .int x_45)]) rfl ?_
                exact ih_215 I_165 J_159 hU_166 hF_167 hG_160 v_9 (rv_9) (nv_9_10) (nv_9_32) v_10 (rv_10) 1 (rg_w rc_1 (by decide) (by decide)) x_45 (rx_45) v_13 (rv_13) v_14 (rv_14) x_164 (rg_w rx_164 (by decide) (by decide)) v_16 (rv_16) v_17 (kp_j hI_165 (by decide) q_18) (kp_j hI_165 (by decide) q_19) (kp_s hI_165) (kp_j hI_165 (by decide) q_21) (kp_j hI_165 (by decide) q_22) (by (try simp only [f_29, c_34, c_39, h_40, hx_45, f_46, h_47, c_97, (eq_true h_98), f_141, hx_142, h_143, (nle h_143), hy_153, f_154, hy_155, hy_156, hy_157, hy_158, h_162, hx_164, if_true, if_false, mqM_tp, mqM_size, mqM_limit, mqM_to, mqM_frm, mqM_kind, mqM_number, mqM_sign, mqM_word, MT_.w_tp, MT_.w_size, MT_.w_limit, MT_.w_to, MT_.w_frm, MT_.w_kind, MT_.w_number, MT_.w_sign, MT_.w_word] at hQ_27); (try simp only [f_29, c_34, c_39, h_40, hx_45, f_46, h_47, c_97, (eq_true h_98), f_141, hx_142, h_143, (nle h_143), hy_153, f_154, hy_155, hy_156, hy_157, hy_158, h_162, hx_164, if_true, if_false, mqM_tp, mqM_size, mqM_limit, mqM_to, mqM_frm, mqM_kind, mqM_number, mqM_sign, mqM_word, MT_.w_tp, MT_.w_size, MT_.w_limit, MT_.w_to, MT_.w_frm, MT_.w_kind, MT_.w_number, MT_.w_sign, MT_.w_word] at u_28); simp only [mGo2, mGo3, mGoE, mSg, mStep, mGood, Int32.sub_self, (by decide : (7 ≤ (0 : Int32)) = False), (by decide : (3 ≤ (0 : Int32)) = False), (by decide : 10 * (0 : Int32) = 0), emqx, hs_168, hs_3, hQ_27, f_29, u_28, c_34, c_39, h_40, hx_45, f_46, h_47, c_97, (eq_true h_98), f_141, hx_142, h_143, (nle h_143), hy_153, f_154, hy_155, hy_156, hy_157, hy_158, h_162, hx_164, if_true, if_false, mqM_tp, mqM_size, mqM_limit, mqM_to, mqM_frm, mqM_kind, mqM_number, mqM_sign, mqM_word, MT_.w_tp, MT_.w_size, MT_.w_limit, MT_.w_to, MT_.w_frm, MT_.w_kind, MT_.w_number, MT_.w_sign, MT_.w_word]) (by have := hj_24; have := (ti_k tx_164 rc_1); omega) (ms_1 hm_25 (ti_k tx_164 rc_1) (by decide))
              · skip
                have r_169 := lt_l (hi := 2) (nle h_162) r_152 rc_3 (by decide)
                refine g_aload_n C 2 dX12_go_320 rfl rfl ?_
                refine g_bipush C (v := 10) dX12_go_321 (by decide) ?_
                refine g_aload_n C 2 dX12_go_323 rfl rfl ?_
                have f_170 : s_26.number = v_17 := (congrArg MT_.number hs_161).symm.trans q_22
                refine g_getI C K hLx hkx f_12_121 (v := v_17) q_22 dX12_go_324 ?_
                obtain ⟨x_171, hx_171, rx_171⟩ := ex_any (z0 := 10 * v_17)
                refine g_imul C (v := x_171) dX12_go_327 hx_171 ?_
                refine g_iload C 1 dX12_go_328 rfl ?_
                obtain ⟨x_172, hx_172, rx_172⟩ := ex_any (z0 := x_171 + x_45)
                refine g_iadd C (v := x_172) dX12_go_330 hx_172 ?_
                refine g_bipush C (v := 48) dX12_go_331 (by decide) ?_
                obtain ⟨x_173, hx_173, rx_173⟩ := ex_any (z0 := x_172 - 48)
                refine g_isub C (v := x_173) dX12_go_333 hx_173 ?_
                refine h_putI C K hLx hkx f_12_121 p_12_8 dX12_go_334 (fun I_174 hI_174 => ?_)
                have hU_175 := iw_put W9 hU_6 hI_174 (ro_o hkx (by decide)) (lo := (-2147483648)) (hi := 2147483647) (rfl) (rx_173) rfl
                have hF_176 := fq_puto hF_7 hI_174 hkx (by decide) (by decide)
                have hs_177 : MTq I_174 J_159 x b_2 = (MT_.w_number (MT_.w_word s_26 (y_158)) (x_173)) := by rw [hI_174]; exact ((mq_number wmqx).trans (congrArg (fun z : MT_ => MT_.w_number z (x_173)) hs_161)).trans rfl
                refine g_aload_n C 2 dX12_go_337 rfl rfl ?_
                refine g_dup C dX12_go_338 rfl ?_
                refine g_getI C K hLx hkx f_12_95 (v := v_15) (kp_j hI_174 (by decide) q_20) dX12_go_339 ?_
                refine g_iconst C (v := 1) dX12_go_342 (by decide) ?_
                obtain ⟨x_178, hx_178, rx_178, tx_178⟩ := ex_add 2 940 r_44 rc_1 (by decide) (by decide) (by decide) (by decide)
                refine g_iadd C (v := x_178) dX12_go_343 hx_178 ?_
                refine h_putI C K hLx hkx f_12_95 p_12_5 dX12_go_344 (fun I_179 hI_179 => ?_)
                have hU_180 := iw_put W9 hU_175 hI_179 (ro_o hkx (by decide)) (lo := 0) (hi := 940) (rfl) (rg_w rx_178 (by decide) (by decide)) rfl
                have hF_181 := fq_puto hF_176 hI_179 hkx (by decide) (by decide)
                have hs_182 : MTq I_179 J_159 x b_2 = (MT_.w_to (MT_.w_number (MT_.w_word s_26 (y_158)) (x_173)) (x_178)) := by rw [hI_179]; exact ((mq_to wmqx).trans (congrArg (fun z : MT_ => MT_.w_to z (x_178)) hs_177)).trans rfl
                refine g_goto C (tgt := 215) dX12_go_347 (by decide) ?_
                refine g_lo (is := [2, 3, 4, 0, 1]) (lo2 := [(0, .ref x), (1, .int v_9), (2, .int v_10), (3, .int 1), (4, .int x_45)]) rfl ?_
                exact ih_215 I_179 J_159 hU_180 hF_181 hG_160 v_9 (rv_9) (nv_9_10) (nv_9_32) v_10 (rv_10) 1 (rg_w rc_1 (by decide) (by decide)) x_45 (rx_45) v_13 (rv_13) v_14 (rv_14) x_178 (rg_w rx_178 (by decide) (by decide)) v_16 (rv_16) x_173 (kp_j hI_179 (by decide) (kp_j hI_174 (by decide) q_18)) (kp_j hI_179 (by decide) (kp_j hI_174 (by decide) q_19)) (kp_s hI_179) (kp_j hI_179 (by decide) (kp_j hI_174 (by decide) q_21)) (kp_j hI_179 (by decide) (kp_s hI_174)) (by (try simp only [f_29, c_34, c_39, h_40, hx_45, f_46, h_47, c_97, (eq_true h_98), f_141, hx_142, h_143, (nle h_143), hy_153, f_154, hy_155, hy_156, hy_157, hy_158, h_162, (nle h_162), f_170, hx_171, hx_172, hx_173, hx_178, if_true, if_false, mqM_tp, mqM_size, mqM_limit, mqM_to, mqM_frm, mqM_kind, mqM_number, mqM_sign, mqM_word, MT_.w_tp, MT_.w_size, MT_.w_limit, MT_.w_to, MT_.w_frm, MT_.w_kind, MT_.w_number, MT_.w_sign, MT_.w_word] at hQ_27); (try simp only [f_29, c_34, c_39, h_40, hx_45, f_46, h_47, c_97, (eq_true h_98), f_141, hx_142, h_143, (nle h_143), hy_153, f_154, hy_155, hy_156, hy_157, hy_158, h_162, (nle h_162), f_170, hx_171, hx_172, hx_173, hx_178, if_true, if_false, mqM_tp, mqM_size, mqM_limit, mqM_to, mqM_frm, mqM_kind, mqM_number, mqM_sign, mqM_word, MT_.w_tp, MT_.w_size, MT_.w_limit, MT_.w_to, MT_.w_frm, MT_.w_kind, MT_.w_number, MT_.w_sign, MT_.w_word] at u_28); simp only [mGo2, mGo3, mGoE, mSg, mStep, mGood, Int32.sub_self, (by decide : (7 ≤ (0 : Int32)) = False), (by decide : (3 ≤ (0 : Int32)) = False), (by decide : 10 * (0 : Int32) = 0), emqx, hs_182, hs_3, hQ_27, f_29, u_28, c_34, c_39, h_40, hx_45, f_46, h_47, c_97, (eq_true h_98), f_141, hx_142, h_143, (nle h_143), hy_153, f_154, hy_155, hy_156, hy_157, hy_158, h_162, (nle h_162), f_170, hx_171, hx_172, hx_173, hx_178, if_true, if_false, mqM_tp, mqM_size, mqM_limit, mqM_to, mqM_frm, mqM_kind, mqM_number, mqM_sign, mqM_word, MT_.w_tp, MT_.w_size, MT_.w_limit, MT_.w_to, MT_.w_frm, MT_.w_kind, MT_.w_number, MT_.w_sign, MT_.w_word]) (by have := hj_24; have := (ti_k tx_178 rc_1); omega) (ms_1 hm_25 (ti_k tx_178 rc_1) (by decide))
      · skip
        have r_183 := (⟨(rx_35).1, (eq_rg (h_40) rc_0).2⟩ : Rg 0 0 x_35)
        refine g_aload_n C 0 dX12_go_229 rfl rfl ?_
        refine g_aload_n C 0 dX12_go_230 rfl rfl ?_
        refine g_getI C K hLx hkx f_12_95 (v := v_15) q_20 dX12_go_231 ?_
        refine g_callVI C K (c_X12_tapeAt W9 hLx hkx v_15 (rg_w rv_15 (by decide) (by decide)) hU_6) hLx hkx (by decide) rfl v_12_124 rfl ⟨rfl, rfl⟩ ⟨Nat.le_of_ble_eq_true rfl, Nat.le_of_ble_eq_true rfl⟩ (Nat.le_of_ble_eq_true rfl) ⟨Nat.le_of_ble_eq_true rfl, Nat.le_of_ble_eq_true rfl⟩ dX12_go_234 rfl (st := []) (fun x_184 I_185 J_186 h_187 => ?_)
        obtain ⟨rfl, rfl, rx_184, fx_184, ex_184⟩ := h_187
        have c_188 : mTapeAt (v_15) (s_26) = x_184 := by have q := fx_184; simp only [emqx, hs_26] at q; exact q.symm
        have ec_188 : x_30 = x_184 := c_34.symm.trans c_188
        subst ec_188
        refine g_callSI C K (c_X12_isDigit W9 x_30  hU_6) s_12_111 rfl ⟨rfl, rfl⟩ ⟨Nat.le_of_ble_eq_true rfl, Nat.le_of_ble_eq_true rfl⟩ (Nat.le_of_ble_eq_true rfl) ⟨Nat.le_of_ble_eq_true rfl, Nat.le_of_ble_eq_true rfl⟩ dX12_go_237 rfl (st := []) (fun x_189 I_190 J_191 h_192 => ?_)
        obtain ⟨rfl, rfl, rx_189, fx_189, ex_189⟩ := h_192
        have c_193 : isDc (x_30) = x_189 := fx_189.symm
        refine g_if_eq C (tgt := 350) dX12_go_240 (by decide) (fun h_194 => ?_) (fun h_194 => ?_)
        · skip
          have r_195 := (⟨(rx_189).1, (eq_rg (h_194) rc_0).2⟩ : Rg 0 0 x_189)
          refine g_aload_n C 0 dX12_go_350 rfl rfl ?_
          refine g_iload_n C 3 dX12_go_351 rfl rfl ?_
          refine g_if_eq C (tgt := 377) dX12_go_352 (by decide) (fun h_196 => ?_) (fun h_196 => ?_)
          · skip
            have r_197 := (⟨(rv_11).1, (eq_rg (h_196) rc_0).2⟩ : Rg 0 0 v_11)
            refine g_iconst C (v := 1) dX12_go_377 (by decide) ?_
            refine g_goto C (tgt := 390) dX12_go_378 (by decide) ?_
            refine h_putI C K hLx hkx f_12_104 p_12_7 dX12_go_390 (fun I_198 hI_198 => ?_)
            have hU_199 := iw_put W9 hU_6 hI_198 (ro_o hkx (by decide)) (lo := 0) (hi := 4) (rfl) (rg_w rc_1 (by decide) (by decide)) rfl
            have hF_200 := fq_puto hF_7 hI_198 hkx (by decide) (by decide)
            have hs_201 : MTq I_198 J_5 x b_2 = (MT_.w_kind s_26 (1)) := by rw [hI_198]; exact ((mq_kind wmqx).trans (congrArg (fun z : MT_ => MT_.w_kind z (1)) hs_26)).trans rfl
            exact g_vret B K rfl ⟨hU_199, hF_200, hG_8, (by (try simp only [f_29, c_34, c_39, (eq_true h_40), c_193, (eq_true h_194), (eq_true h_196), if_true, if_false, mqM_tp, mqM_size, mqM_limit, mqM_to, mqM_frm, mqM_kind, mqM_number, mqM_sign, mqM_word, MT_.w_tp, MT_.w_size, MT_.w_limit, MT_.w_to, MT_.w_frm, MT_.w_kind, MT_.w_number, MT_.w_sign, MT_.w_word] at hQ_27); (try simp only [f_29, c_34, c_39, (eq_true h_40), c_193, (eq_true h_194), (eq_true h_196), if_true, if_false, mqM_tp, mqM_size, mqM_limit, mqM_to, mqM_frm, mqM_kind, mqM_number, mqM_sign, mqM_word, MT_.w_tp, MT_.w_size, MT_.w_limit, MT_.w_to, MT_.w_frm, MT_.w_kind, MT_.w_number, MT_.w_sign, MT_.w_word] at u_28); simp only [mGo2, mGo3, mGoE, mSg, mStep, mGood, Int32.sub_self, (by decide : (7 ≤ (0 : Int32)) = False), (by decide : (3 ≤ (0 : Int32)) = False), (by decide : 10 * (0 : Int32) = 0), emqx, hs_201, hs_3, hQ_27, f_29, u_28, c_34, c_39, (eq_true h_40), c_193, (eq_true h_194), (eq_true h_196), if_true, if_false, mqM_tp, mqM_size, mqM_limit, mqM_to, mqM_frm, mqM_kind, mqM_number, mqM_sign, mqM_word, MT_.w_tp, MT_.w_size, MT_.w_limit, MT_.w_to, MT_.w_frm, MT_.w_kind, MT_.w_number, MT_.w_sign, MT_.w_word]), (ps_mk hx_1 (kp_j hI_198 (by decide) q_20) (kp_s hI_198) (by have := hj_24; omega) (Or.inr (by have := (rc_1).2; omega)))⟩ dX12_go_393
          · skip
            have n_202 : ¬ v_11 = 0 := h_196
            have r_203 := ne_lo (lo := 1) n_202 rv_11 rc_0 rfl (by decide)
            refine g_aload_n C 0 dX12_go_355 rfl rfl ?_
            refine g_getI C K hLx hkx f_12_95 (v := v_15) q_20 dX12_go_356 ?_
            refine g_aload_n C 0 dX12_go_359 rfl rfl ?_
            have f_204 : s_26.frm = v_16 := (congrArg MT_.frm hs_26).symm.trans q_21
            refine g_getI C K hLx hkx f_12_98 (v := v_16) q_21 dX12_go_360 ?_
            obtain ⟨x_205, hx_205, rx_205, tx_205⟩ := ex_sub (-898) 940 rv_15 rv_16 (by decide) (by decide) (by decide) (by decide)
            refine g_isub C (v := x_205) dX12_go_363 hx_205 ?_
            refine g_iload_n C 2 dX12_go_364 rfl rfl ?_
            refine g_if_eq C (tgt := 373) dX12_go_365 (by decide) (fun h_206 => ?_) (fun h_206 => ?_)
            · skip
              have r_207 := (⟨(rv_10).1, (eq_rg (h_206) rc_0).2⟩ : Rg 0 0 v_10)
              refine g_iconst C (v := 3) dX12_go_373 (by decide) ?_
              refine g_icmp_le C (tgt := 381) dX12_go_374 (by decide) (fun h_208 => ?_) (fun h_208 => ?_)
              · skip
                have r_209 := le_l (h_208) rx_205 rc_3
                refine g_iload_n C 2 dX12_go_381 rfl rfl ?_
                refine g_if_eq C (tgt := 389) dX12_go_382 (by decide) (fun h_210 => ?_) (fun h_210 => ?_)
                · skip
                  refine g_iconst C (v := 3) dX12_go_389 (by decide) ?_
                  refine h_putI C K hLx hkx f_12_104 p_12_7 dX12_go_390 (fun I_211 hI_211 => ?_)
                  have hU_212 := iw_put W9 hU_6 hI_211 (ro_o hkx (by decide)) (lo := 0) (hi := 4) (rfl) (rg_w rc_3 (by decide) (by decide)) rfl
                  have hF_213 := fq_puto hF_7 hI_211 hkx (by decide) (by decide)
                  have hs_214 : MTq I_211 J_5 x b_2 = (MT_.w_kind s_26 (3)) := by rw [hI_211]; exact ((mq_kind wmqx).trans (congrArg (fun z : MT_ => MT_.w_kind z (3)) hs_26)).trans rfl
                  exact g_vret B K rfl ⟨hU_212, hF_213, hG_8, (by (try simp only [f_29, c_34, c_39, (eq_true h_40), c_193, (eq_true h_194), h_196, f_204, hx_205, (eq_true h_206), h_208, (eq_true h_210), if_true, if_false, mqM_tp, mqM_size, mqM_limit, mqM_to, mqM_frm, mqM_kind, mqM_number, mqM_sign, mqM_word, MT_.w_tp, MT_.w_size, MT_.w_limit, MT_.w_to, MT_.w_frm, MT_.w_kind, MT_.w_number, MT_.w_sign, MT_.w_word] at hQ_27); (try simp only [f_29, c_34, c_39, (eq_true h_40), c_193, (eq_true h_194), h_196, f_204, hx_205, (eq_true h_206), h_208, (eq_true h_210), if_true, if_false, mqM_tp, mqM_size, mqM_limit, mqM_to, mqM_frm, mqM_kind, mqM_number, mqM_sign, mqM_word, MT_.w_tp, MT_.w_size, MT_.w_limit, MT_.w_to, MT_.w_frm, MT_.w_kind, MT_.w_number, MT_.w_sign, MT_.w_word] at u_28); simp only [mGo2, mGo3, mGoE, mSg, mStep, mGood, Int32.sub_self, (by decide : (7 ≤ (0 : Int32)) = False), (by decide : (3 ≤ (0 : Int32)) = False), (by decide : 10 * (0 : Int32) = 0), emqx, hs_214, hs_3, hQ_27, f_29, u_28, c_34, c_39, (eq_true h_40), c_193, (eq_true h_194), h_196, f_204, hx_205, (eq_true h_206), h_208, (eq_true h_210), if_true, if_false, mqM_tp, mqM_size, mqM_limit, mqM_to, mqM_frm, mqM_kind, mqM_number, mqM_sign, mqM_word, MT_.w_tp, MT_.w_size, MT_.w_limit, MT_.w_to, MT_.w_frm, MT_.w_kind, MT_.w_number, MT_.w_sign, MT_.w_word]), (ps_mk hx_1 (kp_j hI_211 (by decide) q_20) (kp_s hI_211) (Int.le_of_lt (by have := hj_24; omega)) (Or.inl (by have := hj_24; omega)))⟩ dX12_go_393
                · skip
                  exact ne_no (h_210) r_207 rc_0
              · skip
                have r_215 := lt_r (lo := 4) (nle h_208) rc_3 rx_205 (by decide)
                refine g_iconst C (v := 1) dX12_go_377 (by decide) ?_
                refine g_goto C (tgt := 390) dX12_go_378 (by decide) ?_
                refine h_putI C K hLx hkx f_12_104 p_12_7 dX12_go_390 (fun I_216 hI_216 => ?_)
                have hU_217 := iw_put W9 hU_6 hI_216 (ro_o hkx (by decide)) (lo := 0) (hi := 4) (rfl) (rg_w rc_1 (by decide) (by decide)) rfl
                have hF_218 := fq_puto hF_7 hI_216 hkx (by decide) (by decide)
                have hs_219 : MTq I_216 J_5 x b_2 = (MT_.w_kind s_26 (1)) := by rw [hI_216]; exact ((mq_kind wmqx).trans (congrArg (fun z : MT_ => MT_.w_kind z (1)) hs_26)).trans rfl
                exact g_vret B K rfl ⟨hU_217, hF_218, hG_8, (by (try simp only [f_29, c_34, c_39, (eq_true h_40), c_193, (eq_true h_194), h_196, f_204, hx_205, (eq_true h_206), h_208, (nle h_208), if_true, if_false, mqM_tp, mqM_size, mqM_limit, mqM_to, mqM_frm, mqM_kind, mqM_number, mqM_sign, mqM_word, MT_.w_tp, MT_.w_size, MT_.w_limit, MT_.w_to, MT_.w_frm, MT_.w_kind, MT_.w_number, MT_.w_sign, MT_.w_word] at hQ_27); (try simp only [f_29, c_34, c_39, (eq_true h_40), c_193, (eq_true h_194), h_196, f_204, hx_205, (eq_true h_206), h_208, (nle h_208), if_true, if_false, mqM_tp, mqM_size, mqM_limit, mqM_to, mqM_frm, mqM_kind, mqM_number, mqM_sign, mqM_word, MT_.w_tp, MT_.w_size, MT_.w_limit, MT_.w_to, MT_.w_frm, MT_.w_kind, MT_.w_number, MT_.w_sign, MT_.w_word] at u_28); simp only [mGo2, mGo3, mGoE, mSg, mStep, mGood, Int32.sub_self, (by decide : (7 ≤ (0 : Int32)) = False), (by decide : (3 ≤ (0 : Int32)) = False), (by decide : 10 * (0 : Int32) = 0), emqx, hs_219, hs_3, hQ_27, f_29, u_28, c_34, c_39, (eq_true h_40), c_193, (eq_true h_194), h_196, f_204, hx_205, (eq_true h_206), h_208, (nle h_208), if_true, if_false, mqM_tp, mqM_size, mqM_limit, mqM_to, mqM_frm, mqM_kind, mqM_number, mqM_sign, mqM_word, MT_.w_tp, MT_.w_size, MT_.w_limit, MT_.w_to, MT_.w_frm, MT_.w_kind, MT_.w_number, MT_.w_sign, MT_.w_word]), (ps_mk hx_1 (kp_j hI_216 (by decide) q_20) (kp_s hI_216) (by have := hj_24; omega) (Or.inr (by have := (rc_1).2; omega)))⟩ dX12_go_393
            · skip
              have n_220 : ¬ v_10 = 0 := h_206
              have r_221 := ne_lo (lo := 1) n_220 rv_10 rc_0 rfl (by decide)
              refine g_bipush C (v := 7) dX12_go_368 (by decide) ?_
              refine g_goto C (tgt := 374) dX12_go_370 (by decide) ?_
              refine g_icmp_le C (tgt := 381) dX12_go_374 (by decide) (fun h_222 => ?_) (fun h_222 => ?_)
              · skip
                have r_223 := le_l (h_222) rx_205 rc_7
                refine g_iload_n C 2 dX12_go_381 rfl rfl ?_
                refine g_if_eq C (tgt := 389) dX12_go_382 (by decide) (fun h_224 => ?_) (fun h_224 => ?_)
                · skip
                  exact eq_no (h_224) r_221 rc_0 (by decide)
                · skip
                  have n_225 : ¬ v_10 = 0 := h_224
                  refine g_iconst C (v := 2) dX12_go_385 (by decide) ?_
                  refine g_goto C (tgt := 390) dX12_go_386 (by decide) ?_
                  refine h_putI C K hLx hkx f_12_104 p_12_7 dX12_go_390 (fun I_226 hI_226 => ?_)
                  have hU_227 := iw_put W9 hU_6 hI_226 (ro_o hkx (by decide)) (lo := 0) (hi := 4) (rfl) (rg_w rc_2 (by decide) (by decide)) rfl
                  have hF_228 := fq_puto hF_7 hI_226 hkx (by decide) (by decide)
                  have hs_229 : MTq I_226 J_5 x b_2 = (MT_.w_kind s_26 (2)) := by rw [hI_226]; exact ((mq_kind wmqx).trans (congrArg (fun z : MT_ => MT_.w_kind z (2)) hs_26)).trans rfl
                  exact g_vret B K rfl ⟨hU_227, hF_228, hG_8, (by (try simp only [f_29, c_34, c_39, (eq_true h_40), c_193, (eq_true h_194), h_196, f_204, hx_205, h_206, h_222, h_224, if_true, if_false, mqM_tp, mqM_size, mqM_limit, mqM_to, mqM_frm, mqM_kind, mqM_number, mqM_sign, mqM_word, MT_.w_tp, MT_.w_size, MT_.w_limit, MT_.w_to, MT_.w_frm, MT_.w_kind, MT_.w_number, MT_.w_sign, MT_.w_word] at hQ_27); (try simp only [f_29, c_34, c_39, (eq_true h_40), c_193, (eq_true h_194), h_196, f_204, hx_205, h_206, h_222, h_224, if_true, if_false, mqM_tp, mqM_size, mqM_limit, mqM_to, mqM_frm, mqM_kind, mqM_number, mqM_sign, mqM_word, MT_.w_tp, MT_.w_size, MT_.w_limit, MT_.w_to, MT_.w_frm, MT_.w_kind, MT_.w_number, MT_.w_sign, MT_.w_word] at u_28); simp only [mGo2, mGo3, mGoE, mSg, mStep, mGood, Int32.sub_self, (by decide : (7 ≤ (0 : Int32)) = False), (by decide : (3 ≤ (0 : Int32)) = False), (by decide : 10 * (0 : Int32) = 0), emqx, hs_229, hs_3, hQ_27, f_29, u_28, c_34, c_39, (eq_true h_40), c_193, (eq_true h_194), h_196, f_204, hx_205, h_206, h_222, h_224, if_true, if_false, mqM_tp, mqM_size, mqM_limit, mqM_to, mqM_frm, mqM_kind, mqM_number, mqM_sign, mqM_word, MT_.w_tp, MT_.w_size, MT_.w_limit, MT_.w_to, MT_.w_frm, MT_.w_kind, MT_.w_number, MT_.w_sign, MT_.w_word]), (ps_mk hx_1 (kp_j hI_226 (by decide) q_20) (kp_s hI_226) (Int.le_of_lt (by have := hj_24; omega)) (Or.inl (by have := hj_24; omega)))⟩ dX12_go_393
              · skip
                have r_230 := lt_r (lo := 8) (nle h_222) rc_7 rx_205 (by decide)
                refine g_iconst C (v := 1) dX12_go_377 (by decide) ?_
                refine g_goto C (tgt := 390) dX12_go_378 (by decide) ?_
                refine h_putI C K hLx hkx f_12_104 p_12_7 dX12_go_390 (fun I_231 hI_231 => ?_)
                have hU_232 := iw_put W9 hU_6 hI_231 (ro_o hkx (by decide)) (lo := 0) (hi := 4) (rfl) (rg_w rc_1 (by decide) (by decide)) rfl
                have hF_233 := fq_puto hF_7 hI_231 hkx (by decide) (by decide)
                have hs_234 : MTq I_231 J_5 x b_2 = (MT_.w_kind s_26 (1)) := by rw [hI_231]; exact ((mq_kind wmqx).trans (congrArg (fun z : MT_ => MT_.w_kind z (1)) hs_26)).trans rfl
                exact g_vret B K rfl ⟨hU_232, hF_233, hG_8, (by (try simp only [f_29, c_34, c_39, (eq_true h_40), c_193, (eq_true h_194), h_196, f_204, hx_205, h_206, h_222, (nle h_222), if_true, if_false, mqM_tp, mqM_size, mqM_limit, mqM_to, mqM_frm, mqM_kind, mqM_number, mqM_sign, mqM_word, MT_.w_tp, MT_.w_size, MT_.w_limit, MT_.w_to, MT_.w_frm, MT_.w_kind, MT_.w_number, MT_.w_sign, MT_.w_word] at hQ_27); (try simp only [f_29, c_34, c_39, (eq_true h_40), c_193, (eq_true h_194), h_196, f_204, hx_205, h_206, h_222, (nle h_222), if_true, if_false, mqM_tp, mqM_size, mqM_limit, mqM_to, mqM_frm, mqM_kind, mqM_number, mqM_sign, mqM_word, MT_.w_tp, MT_.w_size, MT_.w_limit, MT_.w_to, MT_.w_frm, MT_.w_kind, MT_.w_number, MT_.w_sign, MT_.w_word] at u_28); simp only [mGo2, mGo3, mGoE, mSg, mStep, mGood, Int32.sub_self, (by decide : (7 ≤ (0 : Int32)) = False), (by decide : (3 ≤ (0 : Int32)) = False), (by decide : 10 * (0 : Int32) = 0), emqx, hs_234, hs_3, hQ_27, f_29, u_28, c_34, c_39, (eq_true h_40), c_193, (eq_true h_194), h_196, f_204, hx_205, h_206, h_222, (nle h_222), if_true, if_false, mqM_tp, mqM_size, mqM_limit, mqM_to, mqM_frm, mqM_kind, mqM_number, mqM_sign, mqM_word, MT_.w_tp, MT_.w_size, MT_.w_limit, MT_.w_to, MT_.w_frm, MT_.w_kind, MT_.w_number, MT_.w_sign, MT_.w_word]), (ps_mk hx_1 (kp_j hI_231 (by decide) q_20) (kp_s hI_231) (by have := hj_24; omega) (Or.inr (by have := (rc_1).2; omega)))⟩ dX12_go_393
        · skip
          have n_235 : ¬ x_189 = 0 := h_194
          have r_236 := ne_lo (lo := 1) n_235 rx_189 rc_0 rfl (by decide)
          have r_237 := rg_i rx_30 ((ex_189.2) n_235) (lo := 48) (hi := 57) (by decide) (by decide)
          have r_238 := rg_i rv_15 ((ex_30.2) (rg_nz r_237 (by decide))) (lo := 1) (hi := 939) (by decide) (by decide)
          refine g_aload_n C 0 dX12_go_243 rfl rfl ?_
          refine g_getR C K hLx hkx f_12_7 hb_2 dX12_go_244 ?_
          refine g_aload_n C 0 dX12_go_247 rfl rfl ?_
          refine g_getI C K hLx hkx f_12_95 (v := v_15) q_20 dX12_go_248 ?_
          obtain ⟨x_239, hx_239, rx_239⟩ := ex_getw (I := I_4) (a := b_2) (j := v_15.toNatClampNeg) (lo := 0) (hi := 255) hU_6.1 hb_2L (ro_a hb_2k (by decide) hb_2o hkx rfl) (rfl)
          refine h_iald C K hb_2L hb_2k (v := x_239) (v_15.toNatClampNeg) (rfl) (ix_0 r_238 (by decide)) (ix_lt r_238 (by decide) hb_2n (by decide)) hx_239 dX12_go_251 ?_
          have f_240 : s_26.tp (v_15.toNatClampNeg) = x_239 := (congrFun (congrArg MT_.tp hs_26) _).symm.trans hx_239
          refine g_istore C dX12_go_252 (by decide) (lo2 := [(4, .int x_239), (0, .ref x), (1, .int v_9), (2, .int v_10), (3, .int v_11)]) rfl ?_
          refine g_iload_n C 4 dX12_go_254 rfl rfl ?_
          refine g_if_eq C (tgt := 271) dX12_go_255 (by decide) (fun h_241 => ?_) (fun h_241 => ?_)
          · skip
            have r_242 := (⟨(rv_11).1, (eq_rg (h_241) rc_0).2⟩ : Rg 0 0 v_11)
            refine g_iconst C (v := 0) dX12_go_271 (by decide) ?_
            refine g_istore_n C dX12_go_272 rfl (by decide) (lo2 := [(3, .int 0), (4, .int x_239), (0, .ref x), (1, .int v_9), (2, .int v_10)]) rfl ?_
            refine g_aload_n C 2 dX12_go_273 rfl rfl ?_
            refine g_getI C K hLx hkx f_12_95 (v := v_15) q_20 dX12_go_274 ?_
            refine g_aload_n C 2 dX12_go_277 rfl rfl ?_
            have f_243 : s_26.frm = v_16 := (congrArg MT_.frm hs_26).symm.trans q_21
            refine g_getI C K hLx hkx f_12_98 (v := v_16) q_21 dX12_go_278 ?_
            obtain ⟨x_244, hx_244, rx_244, tx_244⟩ := ex_sub (-898) 939 r_238 rv_16 (by decide) (by decide) (by decide) (by decide)
            refine g_isub C (v := x_244) dX12_go_281 hx_244 ?_
            refine g_bipush C (v := 7) dX12_go_282 (by decide) ?_
            refine g_icmp_ge C (tgt := 307) dX12_go_284 (by decide) (fun h_245 => ?_) (fun h_245 => ?_)
            · skip
              have r_246 := le_r (h_245) rc_7 rx_244
              refine g_aload_n C 2 dX12_go_307 rfl rfl ?_
              refine g_getI C K hLx hkx f_12_95 (v := v_15) q_20 dX12_go_308 ?_
              refine g_aload_n C 2 dX12_go_311 rfl rfl ?_
              refine g_getI C K hLx hkx f_12_98 (v := v_16) q_21 dX12_go_312 ?_
              refine g_isub C (v := x_244) dX12_go_315 hx_244 ?_
              refine g_iconst C (v := 3) dX12_go_316 (by decide) ?_
              refine g_icmp_ge C (tgt := 337) dX12_go_317 (by decide) (fun h_247 => ?_) (fun h_247 => ?_)
              · skip
                refine g_aload_n C 2 dX12_go_337 rfl rfl ?_
                refine g_dup C dX12_go_338 rfl ?_
                refine g_getI C K hLx hkx f_12_95 (v := v_15) q_20 dX12_go_339 ?_
                refine g_iconst C (v := 1) dX12_go_342 (by decide) ?_
                obtain ⟨x_248, hx_248, rx_248, tx_248⟩ := ex_add 2 940 r_238 rc_1 (by decide) (by decide) (by decide) (by decide)
                refine g_iadd C (v := x_248) dX12_go_343 hx_248 ?_
                refine h_putI C K hLx hkx f_12_95 p_12_5 dX12_go_344 (fun I_249 hI_249 => ?_)
                have hU_250 := iw_put W9 hU_6 hI_249 (ro_o hkx (by decide)) (lo := 0) (hi := 940) (rfl) (rg_w rx_248 (by decide) (by decide)) rfl
                have hF_251 := fq_puto hF_7 hI_249 hkx (by decide) (by decide)
                have hs_252 : MTq I_249 J_5 x b_2 = (MT_.w_to s_26 (x_248)) := by rw [hI_249]; exact ((mq_to wmqx).trans (congrArg (fun z : MT_ => MT_.w_to z (x_248)) hs_26)).trans rfl
                refine g_goto C (tgt := 215) dX12_go_347 (by decide) ?_
                refine g_lo (is := [2, 3, 4, 0, 1]) (lo2 := [(0, .ref x), (1, .int v_9), (2, .int v_10), (3, .int 0), (4, .int x_239)]) rfl ?_
                exact ih_215 I_249 J_5 hU_250 hF_251 hG_8 v_9 (rv_9) (nv_9_10) (nv_9_32) v_10 (rv_10) 0 (rg_w rc_0 (by decide) (by decide)) x_239 (rx_239) v_13 (rv_13) v_14 (rv_14) x_248 (rg_w rx_248 (by decide) (by decide)) v_16 (rv_16) v_17 (kp_j hI_249 (by decide) q_18) (kp_j hI_249 (by decide) q_19) (kp_s hI_249) (kp_j hI_249 (by decide) q_21) (kp_j hI_249 (by decide) q_22) (by (try simp only [f_29, c_34, c_39, (eq_true h_40), c_193, h_194, hx_239, f_240, (eq_true h_241), f_243, hx_244, h_245, h_247, hx_248, if_true, if_false, mqM_tp, mqM_size, mqM_limit, mqM_to, mqM_frm, mqM_kind, mqM_number, mqM_sign, mqM_word, MT_.w_tp, MT_.w_size, MT_.w_limit, MT_.w_to, MT_.w_frm, MT_.w_kind, MT_.w_number, MT_.w_sign, MT_.w_word] at hQ_27); (try simp only [f_29, c_34, c_39, (eq_true h_40), c_193, h_194, hx_239, f_240, (eq_true h_241), f_243, hx_244, h_245, h_247, hx_248, if_true, if_false, mqM_tp, mqM_size, mqM_limit, mqM_to, mqM_frm, mqM_kind, mqM_number, mqM_sign, mqM_word, MT_.w_tp, MT_.w_size, MT_.w_limit, MT_.w_to, MT_.w_frm, MT_.w_kind, MT_.w_number, MT_.w_sign, MT_.w_word] at u_28); simp only [mGo2, mGo3, mGoE, mSg, mStep, mGood, Int32.sub_self, (by decide : (7 ≤ (0 : Int32)) = False), (by decide : (3 ≤ (0 : Int32)) = False), (by decide : 10 * (0 : Int32) = 0), emqx, hs_252, hs_3, hQ_27, f_29, u_28, c_34, c_39, (eq_true h_40), c_193, h_194, hx_239, f_240, (eq_true h_241), f_243, hx_244, h_245, h_247, hx_248, if_true, if_false, mqM_tp, mqM_size, mqM_limit, mqM_to, mqM_frm, mqM_kind, mqM_number, mqM_sign, mqM_word, MT_.w_tp, MT_.w_size, MT_.w_limit, MT_.w_to, MT_.w_frm, MT_.w_kind, MT_.w_number, MT_.w_sign, MT_.w_word]) (by have := hj_24; have := (ti_k tx_248 rc_1); omega) (ms_1 hm_25 (ti_k tx_248 rc_1) (by decide))
              · skip
                have r_253 := lt_l (hi := 2) (nle h_247) r_246 rc_3 (by decide)
                exact rg_no r_253 (by decide)
            · skip
              have r_254 := lt_l (hi := 6) (nle h_245) rx_244 rc_7 (by decide)
              refine g_aload_n C 2 dX12_go_287 rfl rfl ?_
              refine g_ldc2 C kl_128 dX12_go_288 ?_
              refine g_aload_n C 2 dX12_go_291 rfl rfl ?_
              obtain ⟨y_255, hy_255⟩ : ∃ z, J_5 x 12 = z := ⟨_, rfl⟩
              have f_256 : s_26.word = y_255 := (congrArg MT_.word hs_26).symm.trans hy_255
              refine g_getJ C K hLx hkx f_12_117 (v := y_255) hy_255 dX12_go_292 ?_
              refine g_lmulE C dX12_go_295 (fun y_257 hy_257 => ?_)
              refine g_iload C 1 dX12_go_296 rfl ?_
              obtain ⟨y_258, hy_258⟩ : ∃ z, Int32.toInt64 x_239 = z := ⟨_, rfl⟩
              refine g_i2l C (v := y_258) dX12_go_298 hy_258 ?_
              refine g_laddE C dX12_go_299 (fun y_259 hy_259 => ?_)
              refine g_ldc2 C kl_130 dX12_go_300 ?_
              refine g_lsubE C dX12_go_303 (fun y_260 hy_260 => ?_)
              refine h_putJ C K hLx hkx f_12_117 p_12_12 dX12_go_304 (fun J_261 hJ_261 => ?_)
              have hG_262 := fq_puto hG_8 hJ_261 hkx (by decide) (by decide)
              have hs_263 : MTq I_4 J_261 x b_2 = (MT_.w_word s_26 (y_260)) := by rw [hJ_261]; exact ((mq_word wmqx).trans (congrArg (fun z : MT_ => MT_.w_word z (y_260)) hs_26)).trans rfl
              refine g_aload_n C 2 dX12_go_307 rfl rfl ?_
              refine g_getI C K hLx hkx f_12_95 (v := v_15) q_20 dX12_go_308 ?_
              refine g_aload_n C 2 dX12_go_311 rfl rfl ?_
              refine g_getI C K hLx hkx f_12_98 (v := v_16) q_21 dX12_go_312 ?_
              refine g_isub C (v := x_244) dX12_go_315 hx_244 ?_
              refine g_iconst C (v := 3) dX12_go_316 (by decide) ?_
              refine g_icmp_ge C (tgt := 337) dX12_go_317 (by decide) (fun h_264 => ?_) (fun h_264 => ?_)
              · skip
                have r_265 := le_r (h_264) rc_3 r_254
                refine g_aload_n C 2 dX12_go_337 rfl rfl ?_
                refine g_dup C dX12_go_338 rfl ?_
                refine g_getI C K hLx hkx f_12_95 (v := v_15) q_20 dX12_go_339 ?_
                refine g_iconst C (v := 1) dX12_go_342 (by decide) ?_
                obtain ⟨x_266, hx_266, rx_266, tx_266⟩ := ex_add 2 940 r_238 rc_1 (by decide) (by decide) (by decide) (by decide)
                refine g_iadd C (v := x_266) dX12_go_343 hx_266 ?_
                refine h_putI C K hLx hkx f_12_95 p_12_5 dX12_go_344 (fun I_267 hI_267 => ?_)
                have hU_268 := iw_put W9 hU_6 hI_267 (ro_o hkx (by decide)) (lo := 0) (hi := 940) (rfl) (rg_w rx_266 (by decide) (by decide)) rfl
                have hF_269 := fq_puto hF_7 hI_267 hkx (by decide) (by decide)
                have hs_270 : MTq I_267 J_261 x b_2 = (MT_.w_to (MT_.w_word s_26 (y_260)) (x_266)) := by rw [hI_267]; exact ((mq_to wmqx).trans (congrArg (fun z : MT_ => MT_.w_to z (x_266)) hs_263)).trans rfl
                refine g_goto C (tgt := 215) dX12_go_347 (by decide) ?_
                refine g_lo (is := [2, 3, 4, 0, 1]) (lo2 := [(0, .ref x), (1, .int v_9), (2, .int v_10), (3, .int 0), (4, .int x_239)]) rfl ?_
                exact ih_215 I_267 J_261 hU_268 hF_269 hG_262 v_9 (rv_9) (nv_9_10) (nv_9_32) v_10 (rv_10) 0 (rg_w rc_0 (by decide) (by decide)) x_239 (rx_239) v_13 (rv_13) v_14 (rv_14) x_266 (rg_w rx_266 (by decide) (by decide)) v_16 (rv_16) v_17 (kp_j hI_267 (by decide) q_18) (kp_j hI_267 (by decide) q_19) (kp_s hI_267) (kp_j hI_267 (by decide) q_21) (kp_j hI_267 (by decide) q_22) (by (try simp only [f_29, c_34, c_39, (eq_true h_40), c_193, h_194, hx_239, f_240, (eq_true h_241), f_243, hx_244, h_245, (nle h_245), hy_255, f_256, hy_257, hy_258, hy_259, hy_260, h_264, hx_266, if_true, if_false, mqM_tp, mqM_size, mqM_limit, mqM_to, mqM_frm, mqM_kind, mqM_number, mqM_sign, mqM_word, MT_.w_tp, MT_.w_size, MT_.w_limit, MT_.w_to, MT_.w_frm, MT_.w_kind, MT_.w_number, MT_.w_sign, MT_.w_word] at hQ_27); (try simp only [f_29, c_34, c_39, (eq_true h_40), c_193, h_194, hx_239, f_240, (eq_true h_241), f_243, hx_244, h_245, (nle h_245), hy_255, f_256, hy_257, hy_258, hy_259, hy_260, h_264, hx_266, if_true, if_false, mqM_tp, mqM_size, mqM_limit, mqM_to, mqM_frm, mqM_kind, mqM_number, mqM_sign, mqM_word, MT_.w_tp, MT_.w_size, MT_.w_limit, MT_.w_to, MT_.w_frm, MT_.w_kind, MT_.w_number, MT_.w_sign, MT_.w_word] at u_28); simp only [mGo2, mGo3, mGoE, mSg, mStep, mGood, Int32.sub_self, (by decide : (7 ≤ (0 : Int32)) = False), (by decide : (3 ≤ (0 : Int32)) = False), (by decide : 10 * (0 : Int32) = 0), emqx, hs_270, hs_3, hQ_27, f_29, u_28, c_34, c_39, (eq_true h_40), c_193, h_194, hx_239, f_240, (eq_true h_241), f_243, hx_244, h_245, (nle h_245), hy_255, f_256, hy_257, hy_258, hy_259, hy_260, h_264, hx_266, if_true, if_false, mqM_tp, mqM_size, mqM_limit, mqM_to, mqM_frm, mqM_kind, mqM_number, mqM_sign, mqM_word, MT_.w_tp, MT_.w_size, MT_.w_limit, MT_.w_to, MT_.w_frm, MT_.w_kind, MT_.w_number, MT_.w_sign, MT_.w_word]) (by have := hj_24; have := (ti_k tx_266 rc_1); omega) (ms_1 hm_25 (ti_k tx_266 rc_1) (by decide))
              · skip
                have r_271 := lt_l (hi := 2) (nle h_264) r_254 rc_3 (by decide)
                refine g_aload_n C 2 dX12_go_320 rfl rfl ?_
                refine g_bipush C (v := 10) dX12_go_321 (by decide) ?_
                refine g_aload_n C 2 dX12_go_323 rfl rfl ?_
                have f_272 : s_26.number = v_17 := (congrArg MT_.number hs_263).symm.trans q_22
                refine g_getI C K hLx hkx f_12_121 (v := v_17) q_22 dX12_go_324 ?_
                obtain ⟨x_273, hx_273, rx_273⟩ := ex_any (z0 := 10 * v_17)
                refine g_imul C (v := x_273) dX12_go_327 hx_273 ?_
                refine g_iload C 1 dX12_go_328 rfl ?_
                obtain ⟨x_274, hx_274, rx_274⟩ := ex_any (z0 := x_273 + x_239)
                refine g_iadd C (v := x_274) dX12_go_330 hx_274 ?_
                refine g_bipush C (v := 48) dX12_go_331 (by decide) ?_
                obtain ⟨x_275, hx_275, rx_275⟩ := ex_any (z0 := x_274 - 48)
                refine g_isub C (v := x_275) dX12_go_333 hx_275 ?_
                refine h_putI C K hLx hkx f_12_121 p_12_8 dX12_go_334 (fun I_276 hI_276 => ?_)
                have hU_277 := iw_put W9 hU_6 hI_276 (ro_o hkx (by decide)) (lo := (-2147483648)) (hi := 2147483647) (rfl) (rx_275) rfl
                have hF_278 := fq_puto hF_7 hI_276 hkx (by decide) (by decide)
                have hs_279 : MTq I_276 J_261 x b_2 = (MT_.w_number (MT_.w_word s_26 (y_260)) (x_275)) := by rw [hI_276]; exact ((mq_number wmqx).trans (congrArg (fun z : MT_ => MT_.w_number z (x_275)) hs_263)).trans rfl
                refine g_aload_n C 2 dX12_go_337 rfl rfl ?_
                refine g_dup C dX12_go_338 rfl ?_
                refine g_getI C K hLx hkx f_12_95 (v := v_15) (kp_j hI_276 (by decide) q_20) dX12_go_339 ?_
                refine g_iconst C (v := 1) dX12_go_342 (by decide) ?_
                obtain ⟨x_280, hx_280, rx_280, tx_280⟩ := ex_add 2 940 r_238 rc_1 (by decide) (by decide) (by decide) (by decide)
                refine g_iadd C (v := x_280) dX12_go_343 hx_280 ?_
                refine h_putI C K hLx hkx f_12_95 p_12_5 dX12_go_344 (fun I_281 hI_281 => ?_)
                have hU_282 := iw_put W9 hU_277 hI_281 (ro_o hkx (by decide)) (lo := 0) (hi := 940) (rfl) (rg_w rx_280 (by decide) (by decide)) rfl
                have hF_283 := fq_puto hF_278 hI_281 hkx (by decide) (by decide)
                have hs_284 : MTq I_281 J_261 x b_2 = (MT_.w_to (MT_.w_number (MT_.w_word s_26 (y_260)) (x_275)) (x_280)) := by rw [hI_281]; exact ((mq_to wmqx).trans (congrArg (fun z : MT_ => MT_.w_to z (x_280)) hs_279)).trans rfl
                refine g_goto C (tgt := 215) dX12_go_347 (by decide) ?_
                refine g_lo (is := [2, 3, 4, 0, 1]) (lo2 := [(0, .ref x), (1, .int v_9), (2, .int v_10), (3, .int 0), (4, .int x_239)]) rfl ?_
                exact ih_215 I_281 J_261 hU_282 hF_283 hG_262 v_9 (rv_9) (nv_9_10) (nv_9_32) v_10 (rv_10) 0 (rg_w rc_0 (by decide) (by decide)) x_239 (rx_239) v_13 (rv_13) v_14 (rv_14) x_280 (rg_w rx_280 (by decide) (by decide)) v_16 (rv_16) x_275 (kp_j hI_281 (by decide) (kp_j hI_276 (by decide) q_18)) (kp_j hI_281 (by decide) (kp_j hI_276 (by decide) q_19)) (kp_s hI_281) (kp_j hI_281 (by decide) (kp_j hI_276 (by decide) q_21)) (kp_j hI_281 (by decide) (kp_s hI_276)) (by (try simp only [f_29, c_34, c_39, (eq_true h_40), c_193, h_194, hx_239, f_240, (eq_true h_241), f_243, hx_244, h_245, (nle h_245), hy_255, f_256, hy_257, hy_258, hy_259, hy_260, h_264, (nle h_264), f_272, hx_273, hx_274, hx_275, hx_280, if_true, if_false, mqM_tp, mqM_size, mqM_limit, mqM_to, mqM_frm, mqM_kind, mqM_number, mqM_sign, mqM_word, MT_.w_tp, MT_.w_size, MT_.w_limit, MT_.w_to, MT_.w_frm, MT_.w_kind, MT_.w_number, MT_.w_sign, MT_.w_word] at hQ_27); (try simp only [f_29, c_34, c_39, (eq_true h_40), c_193, h_194, hx_239, f_240, (eq_true h_241), f_243, hx_244, h_245, (nle h_245), hy_255, f_256, hy_257, hy_258, hy_259, hy_260, h_264, (nle h_264), f_272, hx_273, hx_274, hx_275, hx_280, if_true, if_false, mqM_tp, mqM_size, mqM_limit, mqM_to, mqM_frm, mqM_kind, mqM_number, mqM_sign, mqM_word, MT_.w_tp, MT_.w_size, MT_.w_limit, MT_.w_to, MT_.w_frm, MT_.w_kind, MT_.w_number, MT_.w_sign, MT_.w_word] at u_28); simp only [mGo2, mGo3, mGoE, mSg, mStep, mGood, Int32.sub_self, (by decide : (7 ≤ (0 : Int32)) = False), (by decide : (3 ≤ (0 : Int32)) = False), (by decide : 10 * (0 : Int32) = 0), emqx, hs_284, hs_3, hQ_27, f_29, u_28, c_34, c_39, (eq_true h_40), c_193, h_194, hx_239, f_240, (eq_true h_241), f_243, hx_244, h_245, (nle h_245), hy_255, f_256, hy_257, hy_258, hy_259, hy_260, h_264, (nle h_264), f_272, hx_273, hx_274, hx_275, hx_280, if_true, if_false, mqM_tp, mqM_size, mqM_limit, mqM_to, mqM_frm, mqM_kind, mqM_number, mqM_sign, mqM_word, MT_.w_tp, MT_.w_size, MT_.w_limit, MT_.w_to, MT_.w_frm, MT_.w_kind, MT_.w_number, MT_.w_sign, MT_.w_word]) (by have := hj_24; have := (ti_k tx_280 rc_1); omega) (ms_1 hm_25 (ti_k tx_280 rc_1) (by decide))
          · skip
            have n_285 : ¬ v_11 = 0 := h_241
            have r_286 := ne_lo (lo := 1) n_285 rv_11 rc_0 rfl (by decide)
            refine g_iload C 0 dX12_go_258 rfl ?_
            refine g_callSI C K (c_X12_isLetter W9 x_239  hU_6) s_12_107 rfl ⟨rfl, rfl⟩ ⟨Nat.le_of_ble_eq_true rfl, Nat.le_of_ble_eq_true rfl⟩ (Nat.le_of_ble_eq_true rfl) ⟨Nat.le_of_ble_eq_true rfl, Nat.le_of_ble_eq_true rfl⟩ dX12_go_260 rfl (st := []) (fun x_287 I_288 J_289 h_290 => ?_)
            obtain ⟨rfl, rfl, rx_287, fx_287, ex_287⟩ := h_290
            have c_291 : isLc (x_239) = x_287 := fx_287.symm
            refine g_iload_n C 3 dX12_go_263 rfl rfl ?_
            refine g_icmp_ne C (tgt := 271) dX12_go_264 (by decide) (fun h_292 => ?_) (fun h_292 => ?_)
            · skip
              refine g_iconst C (v := 0) dX12_go_271 (by decide) ?_
              refine g_istore_n C dX12_go_272 rfl (by decide) (lo2 := [(3, .int 0), (4, .int x_239), (0, .ref x), (1, .int v_9), (2, .int v_10)]) rfl ?_
              refine g_aload_n C 2 dX12_go_273 rfl rfl ?_
              refine g_getI C K hLx hkx f_12_95 (v := v_15) q_20 dX12_go_274 ?_
              refine g_aload_n C 2 dX12_go_277 rfl rfl ?_
              have f_293 : s_26.frm = v_16 := (congrArg MT_.frm hs_26).symm.trans q_21
              refine g_getI C K hLx hkx f_12_98 (v := v_16) q_21 dX12_go_278 ?_
              obtain ⟨x_294, hx_294, rx_294, tx_294⟩ := ex_sub (-898) 939 r_238 rv_16 (by decide) (by decide) (by decide) (by decide)
              refine g_isub C (v := x_294) dX12_go_281 hx_294 ?_
              refine g_bipush C (v := 7) dX12_go_282 (by decide) ?_
              refine g_icmp_ge C (tgt := 307) dX12_go_284 (by decide) (fun h_295 => ?_) (fun h_295 => ?_)
              · skip
                have r_296 := le_r (h_295) rc_7 rx_294
                refine g_aload_n C 2 dX12_go_307 rfl rfl ?_
                refine g_getI C K hLx hkx f_12_95 (v := v_15) q_20 dX12_go_308 ?_
                refine g_aload_n C 2 dX12_go_311 rfl rfl ?_
                refine g_getI C K hLx hkx f_12_98 (v := v_16) q_21 dX12_go_312 ?_
                refine g_isub C (v := x_294) dX12_go_315 hx_294 ?_
                refine g_iconst C (v := 3) dX12_go_316 (by decide) ?_
                refine g_icmp_ge C (tgt := 337) dX12_go_317 (by decide) (fun h_297 => ?_) (fun h_297 => ?_)
                · skip
                  refine g_aload_n C 2 dX12_go_337 rfl rfl ?_
                  refine g_dup C dX12_go_338 rfl ?_
                  refine g_getI C K hLx hkx f_12_95 (v := v_15) q_20 dX12_go_339 ?_
                  refine g_iconst C (v := 1) dX12_go_342 (by decide) ?_
                  obtain ⟨x_298, hx_298, rx_298, tx_298⟩ := ex_add 2 940 r_238 rc_1 (by decide) (by decide) (by decide) (by decide)
                  refine g_iadd C (v := x_298) dX12_go_343 hx_298 ?_
                  refine h_putI C K hLx hkx f_12_95 p_12_5 dX12_go_344 (fun I_299 hI_299 => ?_)
                  have hU_300 := iw_put W9 hU_6 hI_299 (ro_o hkx (by decide)) (lo := 0) (hi := 940) (rfl) (rg_w rx_298 (by decide) (by decide)) rfl
                  have hF_301 := fq_puto hF_7 hI_299 hkx (by decide) (by decide)
                  have hs_302 : MTq I_299 J_5 x b_2 = (MT_.w_to s_26 (x_298)) := by rw [hI_299]; exact ((mq_to wmqx).trans (congrArg (fun z : MT_ => MT_.w_to z (x_298)) hs_26)).trans rfl
                  refine g_goto C (tgt := 215) dX12_go_347 (by decide) ?_
                  refine g_lo (is := [2, 3, 4, 0, 1]) (lo2 := [(0, .ref x), (1, .int v_9), (2, .int v_10), (3, .int 0), (4, .int x_239)]) rfl ?_
                  exact ih_215 I_299 J_5 hU_300 hF_301 hG_8 v_9 (rv_9) (nv_9_10) (nv_9_32) v_10 (rv_10) 0 (rg_w rc_0 (by decide) (by decide)) x_239 (rx_239) v_13 (rv_13) v_14 (rv_14) x_298 (rg_w rx_298 (by decide) (by decide)) v_16 (rv_16) v_17 (kp_j hI_299 (by decide) q_18) (kp_j hI_299 (by decide) q_19) (kp_s hI_299) (kp_j hI_299 (by decide) q_21) (kp_j hI_299 (by decide) q_22) (by (try simp only [f_29, c_34, c_39, (eq_true h_40), c_193, h_194, hx_239, f_240, h_241, c_291, h_292, f_293, hx_294, h_295, h_297, hx_298, if_true, if_false, mqM_tp, mqM_size, mqM_limit, mqM_to, mqM_frm, mqM_kind, mqM_number, mqM_sign, mqM_word, MT_.w_tp, MT_.w_size, MT_.w_limit, MT_.w_to, MT_.w_frm, MT_.w_kind, MT_.w_number, MT_.w_sign, MT_.w_word] at hQ_27); (try simp only [f_29, c_34, c_39, (eq_true h_40), c_193, h_194, hx_239, f_240, h_241, c_291, h_292, f_293, hx_294, h_295, h_297, hx_298, if_true, if_false, mqM_tp, mqM_size, mqM_limit, mqM_to, mqM_frm, mqM_kind, mqM_number, mqM_sign, mqM_word, MT_.w_tp, MT_.w_size, MT_.w_limit, MT_.w_to, MT_.w_frm, MT_.w_kind, MT_.w_number, MT_.w_sign, MT_.w_word] at u_28); simp only [mGo2, mGo3, mGoE, mSg, mStep, mGood, Int32.sub_self, (by decide : (7 ≤ (0 : Int32)) = False), (by decide : (3 ≤ (0 : Int32)) = False), (by decide : 10 * (0 : Int32) = 0), emqx, hs_302, hs_3, hQ_27, f_29, u_28, c_34, c_39, (eq_true h_40), c_193, h_194, hx_239, f_240, h_241, c_291, h_292, f_293, hx_294, h_295, h_297, hx_298, if_true, if_false, mqM_tp, mqM_size, mqM_limit, mqM_to, mqM_frm, mqM_kind, mqM_number, mqM_sign, mqM_word, MT_.w_tp, MT_.w_size, MT_.w_limit, MT_.w_to, MT_.w_frm, MT_.w_kind, MT_.w_number, MT_.w_sign, MT_.w_word]) (by have := hj_24; have := (ti_k tx_298 rc_1); omega) (ms_1 hm_25 (ti_k tx_298 rc_1) (by decide))
                · skip
                  have r_303 := lt_l (hi := 2) (nle h_297) r_296 rc_3 (by decide)
                  exact rg_no r_303 (by decide)
              · skip
                have r_304 := lt_l (hi := 6) (nle h_295) rx_294 rc_7 (by decide)
                refine g_aload_n C 2 dX12_go_287 rfl rfl ?_
                refine g_ldc2 C kl_128 dX12_go_288 ?_
                refine g_aload_n C 2 dX12_go_291 rfl rfl ?_
                obtain ⟨y_305, hy_305⟩ : ∃ z, J_5 x 12 = z := ⟨_, rfl⟩
                have f_306 : s_26.word = y_305 := (congrArg MT_.word hs_26).symm.trans hy_305
                refine g_getJ C K hLx hkx f_12_117 (v := y_305) hy_305 dX12_go_292 ?_
                refine g_lmulE C dX12_go_295 (fun y_307 hy_307 => ?_)
                refine g_iload C 1 dX12_go_296 rfl ?_
                obtain ⟨y_308, hy_308⟩ : ∃ z, Int32.toInt64 x_239 = z := ⟨_, rfl⟩
                refine g_i2l C (v := y_308) dX12_go_298 hy_308 ?_
                refine g_laddE C dX12_go_299 (fun y_309 hy_309 => ?_)
                refine g_ldc2 C kl_130 dX12_go_300 ?_
                refine g_lsubE C dX12_go_303 (fun y_310 hy_310 => ?_)
                refine h_putJ C K hLx hkx f_12_117 p_12_12 dX12_go_304 (fun J_311 hJ_311 => ?_)
                have hG_312 := fq_puto hG_8 hJ_311 hkx (by decide) (by decide)
                have hs_313 : MTq I_4 J_311 x b_2 = (MT_.w_word s_26 (y_310)) := by rw [hJ_311]; exact ((mq_word wmqx).trans (congrArg (fun z : MT_ => MT_.w_word z (y_310)) hs_26)).trans rfl
                refine g_aload_n C 2 dX12_go_307 rfl rfl ?_
                refine g_getI C K hLx hkx f_12_95 (v := v_15) q_20 dX12_go_308 ?_
                refine g_aload_n C 2 dX12_go_311 rfl rfl ?_
                refine g_getI C K hLx hkx f_12_98 (v := v_16) q_21 dX12_go_312 ?_
                refine g_isub C (v := x_294) dX12_go_315 hx_294 ?_
                refine g_iconst C (v := 3) dX12_go_316 (by decide) ?_
                refine g_icmp_ge C (tgt := 337) dX12_go_317 (by decide) (fun h_314 => ?_) (fun h_314 => ?_)
                · skip
                  have r_315 := le_r (h_314) rc_3 r_304
                  refine g_aload_n C 2 dX12_go_337 rfl rfl ?_
                  refine g_dup C dX12_go_338 rfl ?_
                  refine g_getI C K hLx hkx f_12_95 (v := v_15) q_20 dX12_go_339 ?_
                  refine g_iconst C (v := 1) dX12_go_342 (by decide) ?_
                  obtain ⟨x_316, hx_316, rx_316, tx_316⟩ := ex_add 2 940 r_238 rc_1 (by decide) (by decide) (by decide) (by decide)
                  refine g_iadd C (v := x_316) dX12_go_343 hx_316 ?_
                  refine h_putI C K hLx hkx f_12_95 p_12_5 dX12_go_344 (fun I_317 hI_317 => ?_)
                  have hU_318 := iw_put W9 hU_6 hI_317 (ro_o hkx (by decide)) (lo := 0) (hi := 940) (rfl) (rg_w rx_316 (by decide) (by decide)) rfl
                  have hF_319 := fq_puto hF_7 hI_317 hkx (by decide) (by decide)
                  have hs_320 : MTq I_317 J_311 x b_2 = (MT_.w_to (MT_.w_word s_26 (y_310)) (x_316)) := by rw [hI_317]; exact ((mq_to wmqx).trans (congrArg (fun z : MT_ => MT_.w_to z (x_316)) hs_313)).trans rfl
                  refine g_goto C (tgt := 215) dX12_go_347 (by decide) ?_
                  refine g_lo (is := [2, 3, 4, 0, 1]) (lo2 := [(0, .ref x), (1, .int v_9), (2, .int v_10), (3, .int 0), (4, .int x_239)]) rfl ?_
                  exact ih_215 I_317 J_311 hU_318 hF_319 hG_312 v_9 (rv_9) (nv_9_10) (nv_9_32) v_10 (rv_10) 0 (rg_w rc_0 (by decide) (by decide)) x_239 (rx_239) v_13 (rv_13) v_14 (rv_14) x_316 (rg_w rx_316 (by decide) (by decide)) v_16 (rv_16) v_17 (kp_j hI_317 (by decide) q_18) (kp_j hI_317 (by decide) q_19) (kp_s hI_317) (kp_j hI_317 (by decide) q_21) (kp_j hI_317 (by decide) q_22) (by (try simp only [f_29, c_34, c_39, (eq_true h_40), c_193, h_194, hx_239, f_240, h_241, c_291, h_292, f_293, hx_294, h_295, (nle h_295), hy_305, f_306, hy_307, hy_308, hy_309, hy_310, h_314, hx_316, if_true, if_false, mqM_tp, mqM_size, mqM_limit, mqM_to, mqM_frm, mqM_kind, mqM_number, mqM_sign, mqM_word, MT_.w_tp, MT_.w_size, MT_.w_limit, MT_.w_to, MT_.w_frm, MT_.w_kind, MT_.w_number, MT_.w_sign, MT_.w_word] at hQ_27); (try simp only [f_29, c_34, c_39, (eq_true h_40), c_193, h_194, hx_239, f_240, h_241, c_291, h_292, f_293, hx_294, h_295, (nle h_295), hy_305, f_306, hy_307, hy_308, hy_309, hy_310, h_314, hx_316, if_true, if_false, mqM_tp, mqM_size, mqM_limit, mqM_to, mqM_frm, mqM_kind, mqM_number, mqM_sign, mqM_word, MT_.w_tp, MT_.w_size, MT_.w_limit, MT_.w_to, MT_.w_frm, MT_.w_kind, MT_.w_number, MT_.w_sign, MT_.w_word] at u_28); simp only [mGo2, mGo3, mGoE, mSg, mStep, mGood, Int32.sub_self, (by decide : (7 ≤ (0 : Int32)) = False), (by decide : (3 ≤ (0 : Int32)) = False), (by decide : 10 * (0 : Int32) = 0), emqx, hs_320, hs_3, hQ_27, f_29, u_28, c_34, c_39, (eq_true h_40), c_193, h_194, hx_239, f_240, h_241, c_291, h_292, f_293, hx_294, h_295, (nle h_295), hy_305, f_306, hy_307, hy_308, hy_309, hy_310, h_314, hx_316, if_true, if_false, mqM_tp, mqM_size, mqM_limit, mqM_to, mqM_frm, mqM_kind, mqM_number, mqM_sign, mqM_word, MT_.w_tp, MT_.w_size, MT_.w_limit, MT_.w_to, MT_.w_frm, MT_.w_kind, MT_.w_number, MT_.w_sign, MT_.w_word]) (by have := hj_24; have := (ti_k tx_316 rc_1); omega) (ms_1 hm_25 (ti_k tx_316 rc_1) (by decide))
                · skip
                  have r_321 := lt_l (hi := 2) (nle h_314) r_304 rc_3 (by decide)
                  refine g_aload_n C 2 dX12_go_320 rfl rfl ?_
                  refine g_bipush C (v := 10) dX12_go_321 (by decide) ?_
                  refine g_aload_n C 2 dX12_go_323 rfl rfl ?_
                  have f_322 : s_26.number = v_17 := (congrArg MT_.number hs_313).symm.trans q_22
                  refine g_getI C K hLx hkx f_12_121 (v := v_17) q_22 dX12_go_324 ?_
                  obtain ⟨x_323, hx_323, rx_323⟩ := ex_any (z0 := 10 * v_17)
                  refine g_imul C (v := x_323) dX12_go_327 hx_323 ?_
                  refine g_iload C 1 dX12_go_328 rfl ?_
                  obtain ⟨x_324, hx_324, rx_324⟩ := ex_any (z0 := x_323 + x_239)
                  refine g_iadd C (v := x_324) dX12_go_330 hx_324 ?_
                  refine g_bipush C (v := 48) dX12_go_331 (by decide) ?_
                  obtain ⟨x_325, hx_325, rx_325⟩ := ex_any (z0 := x_324 - 48)
                  refine g_isub C (v := x_325) dX12_go_333 hx_325 ?_
                  refine h_putI C K hLx hkx f_12_121 p_12_8 dX12_go_334 (fun I_326 hI_326 => ?_)
                  have hU_327 := iw_put W9 hU_6 hI_326 (ro_o hkx (by decide)) (lo := (-2147483648)) (hi := 2147483647) (rfl) (rx_325) rfl
                  have hF_328 := fq_puto hF_7 hI_326 hkx (by decide) (by decide)
                  have hs_329 : MTq I_326 J_311 x b_2 = (MT_.w_number (MT_.w_word s_26 (y_310)) (x_325)) := by rw [hI_326]; exact ((mq_number wmqx).trans (congrArg (fun z : MT_ => MT_.w_number z (x_325)) hs_313)).trans rfl
                  refine g_aload_n C 2 dX12_go_337 rfl rfl ?_
                  refine g_dup C dX12_go_338 rfl ?_
                  refine g_getI C K hLx hkx f_12_95 (v := v_15) (kp_j hI_326 (by decide) q_20) dX12_go_339 ?_
                  refine g_iconst C (v := 1) dX12_go_342 (by decide) ?_
                  obtain ⟨x_330, hx_330, rx_330, tx_330⟩ := ex_add 2 940 r_238 rc_1 (by decide) (by decide) (by decide) (by decide)
                  refine g_iadd C (v := x_330) dX12_go_343 hx_330 ?_
                  refine h_putI C K hLx hkx f_12_95 p_12_5 dX12_go_344 (fun I_331 hI_331 => ?_)
                  have hU_332 := iw_put W9 hU_327 hI_331 (ro_o hkx (by decide)) (lo := 0) (hi := 940) (rfl) (rg_w rx_330 (by decide) (by decide)) rfl
                  have hF_333 := fq_puto hF_328 hI_331 hkx (by decide) (by decide)
                  have hs_334 : MTq I_331 J_311 x b_2 = (MT_.w_to (MT_.w_number (MT_.w_word s_26 (y_310)) (x_325)) (x_330)) := by rw [hI_331]; exact ((mq_to wmqx).trans (congrArg (fun z : MT_ => MT_.w_to z (x_330)) hs_329)).trans rfl
                  refine g_goto C (tgt := 215) dX12_go_347 (by decide) ?_
                  refine g_lo (is := [2, 3, 4, 0, 1]) (lo2 := [(0, .ref x), (1, .int v_9), (2, .int v_10), (3, .int 0), (4, .int x_239)]) rfl ?_
                  exact ih_215 I_331 J_311 hU_332 hF_333 hG_312 v_9 (rv_9) (nv_9_10) (nv_9_32) v_10 (rv_10) 0 (rg_w rc_0 (by decide) (by decide)) x_239 (rx_239) v_13 (rv_13) v_14 (rv_14) x_330 (rg_w rx_330 (by decide) (by decide)) v_16 (rv_16) x_325 (kp_j hI_331 (by decide) (kp_j hI_326 (by decide) q_18)) (kp_j hI_331 (by decide) (kp_j hI_326 (by decide) q_19)) (kp_s hI_331) (kp_j hI_331 (by decide) (kp_j hI_326 (by decide) q_21)) (kp_j hI_331 (by decide) (kp_s hI_326)) (by (try simp only [f_29, c_34, c_39, (eq_true h_40), c_193, h_194, hx_239, f_240, h_241, c_291, h_292, f_293, hx_294, h_295, (nle h_295), hy_305, f_306, hy_307, hy_308, hy_309, hy_310, h_314, (nle h_314), f_322, hx_323, hx_324, hx_325, hx_330, if_true, if_false, mqM_tp, mqM_size, mqM_limit, mqM_to, mqM_frm, mqM_kind, mqM_number, mqM_sign, mqM_word, MT_.w_tp, MT_.w_size, MT_.w_limit, MT_.w_to, MT_.w_frm, MT_.w_kind, MT_.w_number, MT_.w_sign, MT_.w_word] at hQ_27); (try simp only [f_29, c_34, c_39, (eq_true h_40), c_193, h_194, hx_239, f_240, h_241, c_291, h_292, f_293, hx_294, h_295, (nle h_295), hy_305, f_306, hy_307, hy_308, hy_309, hy_310, h_314, (nle h_314), f_322, hx_323, hx_324, hx_325, hx_330, if_true, if_false, mqM_tp, mqM_size, mqM_limit, mqM_to, mqM_frm, mqM_kind, mqM_number, mqM_sign, mqM_word, MT_.w_tp, MT_.w_size, MT_.w_limit, MT_.w_to, MT_.w_frm, MT_.w_kind, MT_.w_number, MT_.w_sign, MT_.w_word] at u_28); simp only [mGo2, mGo3, mGoE, mSg, mStep, mGood, Int32.sub_self, (by decide : (7 ≤ (0 : Int32)) = False), (by decide : (3 ≤ (0 : Int32)) = False), (by decide : 10 * (0 : Int32) = 0), emqx, hs_334, hs_3, hQ_27, f_29, u_28, c_34, c_39, (eq_true h_40), c_193, h_194, hx_239, f_240, h_241, c_291, h_292, f_293, hx_294, h_295, (nle h_295), hy_305, f_306, hy_307, hy_308, hy_309, hy_310, h_314, (nle h_314), f_322, hx_323, hx_324, hx_325, hx_330, if_true, if_false, mqM_tp, mqM_size, mqM_limit, mqM_to, mqM_frm, mqM_kind, mqM_number, mqM_sign, mqM_word, MT_.w_tp, MT_.w_size, MT_.w_limit, MT_.w_to, MT_.w_frm, MT_.w_kind, MT_.w_number, MT_.w_sign, MT_.w_word]) (by have := hj_24; have := (ti_k tx_330 rc_1); omega) (ms_1 hm_25 (ti_k tx_330 rc_1) (by decide))
            · skip
              refine g_iconst C (v := 1) dX12_go_267 (by decide) ?_
              refine g_goto C (tgt := 272) dX12_go_268 (by decide) ?_
              refine g_istore_n C dX12_go_272 rfl (by decide) (lo2 := [(3, .int 1), (4, .int x_239), (0, .ref x), (1, .int v_9), (2, .int v_10)]) rfl ?_
              refine g_aload_n C 2 dX12_go_273 rfl rfl ?_
              refine g_getI C K hLx hkx f_12_95 (v := v_15) q_20 dX12_go_274 ?_
              refine g_aload_n C 2 dX12_go_277 rfl rfl ?_
              have f_335 : s_26.frm = v_16 := (congrArg MT_.frm hs_26).symm.trans q_21
              refine g_getI C K hLx hkx f_12_98 (v := v_16) q_21 dX12_go_278 ?_
              obtain ⟨x_336, hx_336, rx_336, tx_336⟩ := ex_sub (-898) 939 r_238 rv_16 (by decide) (by decide) (by decide) (by decide)
              refine g_isub C (v := x_336) dX12_go_281 hx_336 ?_
              refine g_bipush C (v := 7) dX12_go_282 (by decide) ?_
              refine g_icmp_ge C (tgt := 307) dX12_go_284 (by decide) (fun h_337 => ?_) (fun h_337 => ?_)
              · skip
                have r_338 := le_r (h_337) rc_7 rx_336
                refine g_aload_n C 2 dX12_go_307 rfl rfl ?_
                refine g_getI C K hLx hkx f_12_95 (v := v_15) q_20 dX12_go_308 ?_
                refine g_aload_n C 2 dX12_go_311 rfl rfl ?_
                refine g_getI C K hLx hkx f_12_98 (v := v_16) q_21 dX12_go_312 ?_
                refine g_isub C (v := x_336) dX12_go_315 hx_336 ?_
                refine g_iconst C (v := 3) dX12_go_316 (by decide) ?_
                refine g_icmp_ge C (tgt := 337) dX12_go_317 (by decide) (fun h_339 => ?_) (fun h_339 => ?_)
                · skip
                  refine g_aload_n C 2 dX12_go_337 rfl rfl ?_
                  refine g_dup C dX12_go_338 rfl ?_
                  refine g_getI C K hLx hkx f_12_95 (v := v_15) q_20 dX12_go_339 ?_
                  refine g_iconst C (v := 1) dX12_go_342 (by decide) ?_
                  obtain ⟨x_340, hx_340, rx_340, tx_340⟩ := ex_add 2 940 r_238 rc_1 (by decide) (by decide) (by decide) (by decide)
                  refine g_iadd C (v := x_340) dX12_go_343 hx_340 ?_
                  refine h_putI C K hLx hkx f_12_95 p_12_5 dX12_go_344 (fun I_341 hI_341 => ?_)
                  have hU_342 := iw_put W9 hU_6 hI_341 (ro_o hkx (by decide)) (lo := 0) (hi := 940) (rfl) (rg_w rx_340 (by decide) (by decide)) rfl
                  have hF_343 := fq_puto hF_7 hI_341 hkx (by decide) (by decide)
                  have hs_344 : MTq I_341 J_5 x b_2 = (MT_.w_to s_26 (x_340)) := by rw [hI_341]; exact ((mq_to wmqx).trans (congrArg (fun z : MT_ => MT_.w_to z (x_340)) hs_26)).trans rfl
                  refine g_goto C (tgt := 215) dX12_go_347 (by decide) ?_
                  refine g_lo (is := [2, 3, 4, 0, 1]) (lo2 := [(0, .ref x), (1, .int v_9), (2, .int v_10), (3, .int 1), (4, .int x_239)]) rfl ?_
                  exact ih_215 I_341 J_5 hU_342 hF_343 hG_8 v_9 (rv_9) (nv_9_10) (nv_9_32) v_10 (rv_10) 1 (rg_w rc_1 (by decide) (by decide)) x_239 (rx_239) v_13 (rv_13) v_14 (rv_14) x_340 (rg_w rx_340 (by decide) (by decide)) v_16 (rv_16) v_17 (kp_j hI_341 (by decide) q_18) (kp_j hI_341 (by decide) q_19) (kp_s hI_341) (kp_j hI_341 (by decide) q_21) (kp_j hI_341 (by decide) q_22) (by (try simp only [f_29, c_34, c_39, (eq_true h_40), c_193, h_194, hx_239, f_240, h_241, c_291, (eq_true h_292), f_335, hx_336, h_337, h_339, hx_340, if_true, if_false, mqM_tp, mqM_size, mqM_limit, mqM_to, mqM_frm, mqM_kind, mqM_number, mqM_sign, mqM_word, MT_.w_tp, MT_.w_size, MT_.w_limit, MT_.w_to, MT_.w_frm, MT_.w_kind, MT_.w_number, MT_.w_sign, MT_.w_word] at hQ_27); (try simp only [f_29, c_34, c_39, (eq_true h_40), c_193, h_194, hx_239, f_240, h_241, c_291, (eq_true h_292), f_335, hx_336, h_337, h_339, hx_340, if_true, if_false, mqM_tp, mqM_size, mqM_limit, mqM_to, mqM_frm, mqM_kind, mqM_number, mqM_sign, mqM_word, MT_.w_tp, MT_.w_size, MT_.w_limit, MT_.w_to, MT_.w_frm, MT_.w_kind, MT_.w_number, MT_.w_sign, MT_.w_word] at u_28); simp only [mGo2, mGo3, mGoE, mSg, mStep, mGood, Int32.sub_self, (by decide : (7 ≤ (0 : Int32)) = False), (by decide : (3 ≤ (0 : Int32)) = False), (by decide : 10 * (0 : Int32) = 0), emqx, hs_344, hs_3, hQ_27, f_29, u_28, c_34, c_39, (eq_true h_40), c_193, h_194, hx_239, f_240, h_241, c_291, (eq_true h_292), f_335, hx_336, h_337, h_339, hx_340, if_true, if_false, mqM_tp, mqM_size, mqM_limit, mqM_to, mqM_frm, mqM_kind, mqM_number, mqM_sign, mqM_word, MT_.w_tp, MT_.w_size, MT_.w_limit, MT_.w_to, MT_.w_frm, MT_.w_kind, MT_.w_number, MT_.w_sign, MT_.w_word]) (by have := hj_24; have := (ti_k tx_340 rc_1); omega) (ms_1 hm_25 (ti_k tx_340 rc_1) (by decide))
                · skip
                  have r_345 := lt_l (hi := 2) (nle h_339) r_338 rc_3 (by decide)
                  exact rg_no r_345 (by decide)
              · skip
                have r_346 := lt_l (hi := 6) (nle h_337) rx_336 rc_7 (by decide)
                refine g_aload_n C 2 dX12_go_287 rfl rfl ?_
                refine g_ldc2 C kl_128 dX12_go_288 ?_
                refine g_aload_n C 2 dX12_go_291 rfl rfl ?_
                obtain ⟨y_347, hy_347⟩ : ∃ z, J_5 x 12 = z := ⟨_, rfl⟩
                have f_348 : s_26.word = y_347 := (congrArg MT_.word hs_26).symm.trans hy_347
                refine g_getJ C K hLx hkx f_12_117 (v := y_347) hy_347 dX12_go_292 ?_
                refine g_lmulE C dX12_go_295 (fun y_349 hy_349 => ?_)
                refine g_iload C 1 dX12_go_296 rfl ?_
                obtain ⟨y_350, hy_350⟩ : ∃ z, Int32.toInt64 x_239 = z := ⟨_, rfl⟩
                refine g_i2l C (v := y_350) dX12_go_298 hy_350 ?_
                refine g_laddE C dX12_go_299 (fun y_351 hy_351 => ?_)
                refine g_ldc2 C kl_130 dX12_go_300 ?_
                refine g_lsubE C dX12_go_303 (fun y_352 hy_352 => ?_)
                refine h_putJ C K hLx hkx f_12_117 p_12_12 dX12_go_304 (fun J_353 hJ_353 => ?_)
                have hG_354 := fq_puto hG_8 hJ_353 hkx (by decide) (by decide)
                have hs_355 : MTq I_4 J_353 x b_2 = (MT_.w_word s_26 (y_352)) := by rw [hJ_353]; exact ((mq_word wmqx).trans (congrArg (fun z : MT_ => MT_.w_word z (y_352)) hs_26)).trans rfl
                refine g_aload_n C 2 dX12_go_307 rfl rfl ?_
                refine g_getI C K hLx hkx f_12_95 (v := v_15) q_20 dX12_go_308 ?_
                refine g_aload_n C 2 dX12_go_311 rfl rfl ?_
                refine g_getI C K hLx hkx f_12_98 (v := v_16) q_21 dX12_go_312 ?_
                refine g_isub C (v := x_336) dX12_go_315 hx_336 ?_
                refine g_iconst C (v := 3) dX12_go_316 (by decide) ?_
                refine g_icmp_ge C (tgt := 337) dX12_go_317 (by decide) (fun h_356 => ?_) (fun h_356 => ?_)
                · skip
                  have r_357 := le_r (h_356) rc_3 r_346
                  refine g_aload_n C 2 dX12_go_337 rfl rfl ?_
                  refine g_dup C dX12_go_338 rfl ?_
                  refine g_getI C K hLx hkx f_12_95 (v := v_15) q_20 dX12_go_339 ?_
                  refine g_iconst C (v := 1) dX12_go_342 (by decide) ?_
                  obtain ⟨x_358, hx_358, rx_358, tx_358⟩ := ex_add 2 940 r_238 rc_1 (by decide) (by decide) (by decide) (by decide)
                  refine g_iadd C (v := x_358) dX12_go_343 hx_358 ?_
                  refine h_putI C K hLx hkx f_12_95 p_12_5 dX12_go_344 (fun I_359 hI_359 => ?_)
                  have hU_360 := iw_put W9 hU_6 hI_359 (ro_o hkx (by decide)) (lo := 0) (hi := 940) (rfl) (rg_w rx_358 (by decide) (by decide)) rfl
                  have hF_361 := fq_puto hF_7 hI_359 hkx (by decide) (by decide)
                  have hs_362 : MTq I_359 J_353 x b_2 = (MT_.w_to (MT_.w_word s_26 (y_352)) (x_358)) := by rw [hI_359]; exact ((mq_to wmqx).trans (congrArg (fun z : MT_ => MT_.w_to z (x_358)) hs_355)).trans rfl
                  refine g_goto C (tgt := 215) dX12_go_347 (by decide) ?_
                  refine g_lo (is := [2, 3, 4, 0, 1]) (lo2 := [(0, .ref x), (1, .int v_9), (2, .int v_10), (3, .int 1), (4, .int x_239)]) rfl ?_
                  exact ih_215 I_359 J_353 hU_360 hF_361 hG_354 v_9 (rv_9) (nv_9_10) (nv_9_32) v_10 (rv_10) 1 (rg_w rc_1 (by decide) (by decide)) x_239 (rx_239) v_13 (rv_13) v_14 (rv_14) x_358 (rg_w rx_358 (by decide) (by decide)) v_16 (rv_16) v_17 (kp_j hI_359 (by decide) q_18) (kp_j hI_359 (by decide) q_19) (kp_s hI_359) (kp_j hI_359 (by decide) q_21) (kp_j hI_359 (by decide) q_22) (by (try simp only [f_29, c_34, c_39, (eq_true h_40), c_193, h_194, hx_239, f_240, h_241, c_291, (eq_true h_292), f_335, hx_336, h_337, (nle h_337), hy_347, f_348, hy_349, hy_350, hy_351, hy_352, h_356, hx_358, if_true, if_false, mqM_tp, mqM_size, mqM_limit, mqM_to, mqM_frm, mqM_kind, mqM_number, mqM_sign, mqM_word, MT_.w_tp, MT_.w_size, MT_.w_limit, MT_.w_to, MT_.w_frm, MT_.w_kind, MT_.w_number, MT_.w_sign, MT_.w_word] at hQ_27); (try simp only [f_29, c_34, c_39, (eq_true h_40), c_193, h_194, hx_239, f_240, h_241, c_291, (eq_true h_292), f_335, hx_336, h_337, (nle h_337), hy_347, f_348, hy_349, hy_350, hy_351, hy_352, h_356, hx_358, if_true, if_false, mqM_tp, mqM_size, mqM_limit, mqM_to, mqM_frm, mqM_kind, mqM_number, mqM_sign, mqM_word, MT_.w_tp, MT_.w_size, MT_.w_limit, MT_.w_to, MT_.w_frm, MT_.w_kind, MT_.w_number, MT_.w_sign, MT_.w_word] at u_28); simp only [mGo2, mGo3, mGoE, mSg, mStep, mGood, Int32.sub_self, (by decide : (7 ≤ (0 : Int32)) = False), (by decide : (3 ≤ (0 : Int32)) = False), (by decide : 10 * (0 : Int32) = 0), emqx, hs_362, hs_3, hQ_27, f_29, u_28, c_34, c_39, (eq_true h_40), c_193, h_194, hx_239, f_240, h_241, c_291, (eq_true h_292), f_335, hx_336, h_337, (nle h_337), hy_347, f_348, hy_349, hy_350, hy_351, hy_352, h_356, hx_358, if_true, if_false, mqM_tp, mqM_size, mqM_limit, mqM_to, mqM_frm, mqM_kind, mqM_number, mqM_sign, mqM_word, MT_.w_tp, MT_.w_size, MT_.w_limit, MT_.w_to, MT_.w_frm, MT_.w_kind, MT_.w_number, MT_.w_sign, MT_.w_word]) (by have := hj_24; have := (ti_k tx_358 rc_1); omega) (ms_1 hm_25 (ti_k tx_358 rc_1) (by decide))
                · skip
                  have r_363 := lt_l (hi := 2) (nle h_356) r_346 rc_3 (by decide)
                  refine g_aload_n C 2 dX12_go_320 rfl rfl ?_
                  refine g_bipush C (v := 10) dX12_go_321 (by decide) ?_
                  refine g_aload_n C 2 dX12_go_323 rfl rfl ?_
                  have f_364 : s_26.number = v_17 := (congrArg MT_.number hs_355).symm.trans q_22
                  refine g_getI C K hLx hkx f_12_121 (v := v_17) q_22 dX12_go_324 ?_
                  obtain ⟨x_365, hx_365, rx_365⟩ := ex_any (z0 := 10 * v_17)
                  refine g_imul C (v := x_365) dX12_go_327 hx_365 ?_
                  refine g_iload C 1 dX12_go_328 rfl ?_
                  obtain ⟨x_366, hx_366, rx_366⟩ := ex_any (z0 := x_365 + x_239)
                  refine g_iadd C (v := x_366) dX12_go_330 hx_366 ?_
                  refine g_bipush C (v := 48) dX12_go_331 (by decide) ?_
                  obtain ⟨x_367, hx_367, rx_367⟩ := ex_any (z0 := x_366 - 48)
                  refine g_isub C (v := x_367) dX12_go_333 hx_367 ?_
                  refine h_putI C K hLx hkx f_12_121 p_12_8 dX12_go_334 (fun I_368 hI_368 => ?_)
                  have hU_369 := iw_put W9 hU_6 hI_368 (ro_o hkx (by decide)) (lo := (-2147483648)) (hi := 2147483647) (rfl) (rx_367) rfl
                  have hF_370 := fq_puto hF_7 hI_368 hkx (by decide) (by decide)
                  have hs_371 : MTq I_368 J_353 x b_2 = (MT_.w_number (MT_.w_word s_26 (y_352)) (x_367)) := by rw [hI_368]; exact ((mq_number wmqx).trans (congrArg (fun z : MT_ => MT_.w_number z (x_367)) hs_355)).trans rfl
                  refine g_aload_n C 2 dX12_go_337 rfl rfl ?_
                  refine g_dup C dX12_go_338 rfl ?_
                  refine g_getI C K hLx hkx f_12_95 (v := v_15) (kp_j hI_368 (by decide) q_20) dX12_go_339 ?_
                  refine g_iconst C (v := 1) dX12_go_342 (by decide) ?_
                  obtain ⟨x_372, hx_372, rx_372, tx_372⟩ := ex_add 2 940 r_238 rc_1 (by decide) (by decide) (by decide) (by decide)
                  refine g_iadd C (v := x_372) dX12_go_343 hx_372 ?_
                  refine h_putI C K hLx hkx f_12_95 p_12_5 dX12_go_344 (fun I_373 hI_373 => ?_)
                  have hU_374 := iw_put W9 hU_369 hI_373 (ro_o hkx (by decide)) (lo := 0) (hi := 940) (rfl) (rg_w rx_372 (by decide) (by decide)) rfl
                  have hF_375 := fq_puto hF_370 hI_373 hkx (by decide) (by decide)
                  have hs_376 : MTq I_373 J_353 x b_2 = (MT_.w_to (MT_.w_number (MT_.w_word s_26 (y_352)) (x_367)) (x_372)) := by rw [hI_373]; exact ((mq_to wmqx).trans (congrArg (fun z : MT_ => MT_.w_to z (x_372)) hs_371)).trans rfl
                  refine g_goto C (tgt := 215) dX12_go_347 (by decide) ?_
                  refine g_lo (is := [2, 3, 4, 0, 1]) (lo2 := [(0, .ref x), (1, .int v_9), (2, .int v_10), (3, .int 1), (4, .int x_239)]) rfl ?_
                  exact ih_215 I_373 J_353 hU_374 hF_375 hG_354 v_9 (rv_9) (nv_9_10) (nv_9_32) v_10 (rv_10) 1 (rg_w rc_1 (by decide) (by decide)) x_239 (rx_239) v_13 (rv_13) v_14 (rv_14) x_372 (rg_w rx_372 (by decide) (by decide)) v_16 (rv_16) x_367 (kp_j hI_373 (by decide) (kp_j hI_368 (by decide) q_18)) (kp_j hI_373 (by decide) (kp_j hI_368 (by decide) q_19)) (kp_s hI_373) (kp_j hI_373 (by decide) (kp_j hI_368 (by decide) q_21)) (kp_j hI_373 (by decide) (kp_s hI_368)) (by (try simp only [f_29, c_34, c_39, (eq_true h_40), c_193, h_194, hx_239, f_240, h_241, c_291, (eq_true h_292), f_335, hx_336, h_337, (nle h_337), hy_347, f_348, hy_349, hy_350, hy_351, hy_352, h_356, (nle h_356), f_364, hx_365, hx_366, hx_367, hx_372, if_true, if_false, mqM_tp, mqM_size, mqM_limit, mqM_to, mqM_frm, mqM_kind, mqM_number, mqM_sign, mqM_word, MT_.w_tp, MT_.w_size, MT_.w_limit, MT_.w_to, MT_.w_frm, MT_.w_kind, MT_.w_number, MT_.w_sign, MT_.w_word] at hQ_27); (try simp only [f_29, c_34, c_39, (eq_true h_40), c_193, h_194, hx_239, f_240, h_241, c_291, (eq_true h_292), f_335, hx_336, h_337, (nle h_337), hy_347, f_348, hy_349, hy_350, hy_351, hy_352, h_356, (nle h_356), f_364, hx_365, hx_366, hx_367, hx_372, if_true, if_false, mqM_tp, mqM_size, mqM_limit, mqM_to, mqM_frm, mqM_kind, mqM_number, mqM_sign, mqM_word, MT_.w_tp, MT_.w_size, MT_.w_limit, MT_.w_to, MT_.w_frm, MT_.w_kind, MT_.w_number, MT_.w_sign, MT_.w_word] at u_28); simp only [mGo2, mGo3, mGoE, mSg, mStep, mGood, Int32.sub_self, (by decide : (7 ≤ (0 : Int32)) = False), (by decide : (3 ≤ (0 : Int32)) = False), (by decide : 10 * (0 : Int32) = 0), emqx, hs_376, hs_3, hQ_27, f_29, u_28, c_34, c_39, (eq_true h_40), c_193, h_194, hx_239, f_240, h_241, c_291, (eq_true h_292), f_335, hx_336, h_337, (nle h_337), hy_347, f_348, hy_349, hy_350, hy_351, hy_352, h_356, (nle h_356), f_364, hx_365, hx_366, hx_367, hx_372, if_true, if_false, mqM_tp, mqM_size, mqM_limit, mqM_to, mqM_frm, mqM_kind, mqM_number, mqM_sign, mqM_word, MT_.w_tp, MT_.w_size, MT_.w_limit, MT_.w_to, MT_.w_frm, MT_.w_kind, MT_.w_number, MT_.w_sign, MT_.w_word]) (by have := hj_24; have := (ti_k tx_372 rc_1); omega) (ms_1 hm_25 (ti_k tx_372 rc_1) (by decide))
  have l_0 : ∀ (n_0 : Nat) (I_377 : Nat → Nat → Int32) (J_378 : Nat → Nat → Int64) (hU_379 : Iw L κ R ow I_377) (hF_380 : Fq L κ ow [1205, 1206, 1207, 1208, 1209] I I_377) (hG_381 : Fq L κ ow [1212] J J_378) (v_382 : Int32) (rv_382 : Rg 0 940 v_382) (q_383 : I_377 x 5 = v_382) (hq_384 : msk (MTq I_377 J_378 x b_2) = msk s_3) (hj_385 : x_1.toInt ≤ v_382.toInt) (hm_386 : 940 < (v_382 : Int32).toInt + (n_0 : Int)), WG p l e { frames := 1, cells := 0, slots := 0, locals := 21 } s m ([.ref x] : List Value).toArray below meth c 5 0 0 (MQ below (Qv_ D cy L κ ln R (fun I2 J2 => Iw L κ R ow I2 ∧ Fq L κ ow [1205, 1206, 1207, 1208, 1209] I I2 ∧ Fq L κ ow [1212] J J2 ∧ (MTf R I2 J2 x = mGo (MTf R I J x)) ∧ (Ps_ x I I2))) ([.ref x] : List Value).toArray s 0 0 (Al_ L)) D cy (Al_ L) s.heap L κ ln R I_377 J_378 0 [(0, .ref x)] [] := by
    intro n_0
    induction n_0 with
    | zero =>
      intro I_377 J_378 hU_379 hF_380 hG_381 v_382 rv_382 q_383 hq_384 hj_385 hm_386
      exact ms_0 rv_382 hm_386
    | succ n_0 ih_0 =>
      intro I_377 J_378 hU_379 hF_380 hG_381 v_382 rv_382 q_383 hq_384 hj_385 hm_386
      obtain ⟨s_387, hs_387⟩ : ∃ z, MTq I_377 J_378 x b_2 = z := ⟨_, rfl⟩
      simp only [hs_387] at hq_384
      have hQ_388 := hq_384.symm
      have f_390 : s_387.to = v_382 := (congrArg MT_.to hs_387).symm.trans q_383
      have u_389 := msk_eq (m := s_387) ((congrArg MT_.to hs_387).symm.trans q_383) (rv_382)
      refine g_aload_n C 0 dX12_go_0 rfl rfl ?_
      refine g_getI C K hLx hkx f_12_95 (v := v_382) q_383 dX12_go_1 ?_
      refine g_aload_n C 0 dX12_go_4 rfl rfl ?_
      obtain ⟨x_391, hx_391, rx_391⟩ := ex_getw (I := I_377) (a := x) (j := 3) (lo := 0) (hi := 940) hU_379.1 hLx (ro_o hkx (by decide)) rfl
      have f_392 : s_387.size = x_391 := (congrArg MT_.size hs_387).symm.trans hx_391
      refine g_getI C K hLx hkx f_12_92 (v := x_391) hx_391 dX12_go_5 ?_
      refine g_icmp_ge C (tgt := 52) dX12_go_8 (by decide) (fun h_393 => ?_) (fun h_393 => ?_)
      · skip
        refine g_aload_n C 0 dX12_go_52 rfl rfl ?_
        refine g_aload_n C 0 dX12_go_53 rfl rfl ?_
        refine g_getI C K hLx hkx f_12_95 (v := v_382) q_383 dX12_go_54 ?_
        refine h_putI C K hLx hkx f_12_98 p_12_6 dX12_go_57 (fun I_394 hI_394 => ?_)
        have hU_395 := iw_put W9 hU_379 hI_394 (ro_o hkx (by decide)) (lo := 0) (hi := 940) (rfl) (rv_382) rfl
        have hF_396 := fq_puto hF_380 hI_394 hkx (by decide) (by decide)
        have hs_397 : MTq I_394 J_378 x b_2 = (MT_.w_frm s_387 (v_382)) := by rw [hI_394]; exact ((mq_frm wmqx).trans (congrArg (fun z : MT_ => MT_.w_frm z (v_382)) hs_387)).trans rfl
        refine g_aload_n C 0 dX12_go_60 rfl rfl ?_
        refine g_getI C K hLx hkx f_12_92 (v := x_391) (kp_j hI_394 (by decide) hx_391) dX12_go_61 ?_
        refine g_aload_n C 0 dX12_go_64 rfl rfl ?_
        obtain ⟨x_398, hx_398, rx_398⟩ := ex_getw (I := I_394) (a := x) (j := 4) (lo := 0) (hi := 900) hU_395.1 hLx (ro_o hkx (by decide)) rfl
        have f_399 : s_387.limit = x_398 := (congrArg MT_.limit hs_397).symm.trans hx_398
        refine g_getI C K hLx hkx f_12_101 (v := x_398) hx_398 dX12_go_65 ?_
        refine g_icmp_le C (tgt := 96) dX12_go_68 (by decide) (fun h_400 => ?_) (fun h_400 => ?_)
        · skip
          have r_401 := le_l (h_400) rx_391 rx_398
          refine g_aload_n C 0 dX12_go_96 rfl rfl ?_
          refine g_getI C K hLx hkx f_12_95 (v := v_382) (kp_j hI_394 (by decide) q_383) dX12_go_97 ?_
          refine g_aload_n C 0 dX12_go_100 rfl rfl ?_
          refine g_getI C K hLx hkx f_12_92 (v := x_391) (kp_j hI_394 (by decide) hx_391) dX12_go_101 ?_
          refine g_icmp_lt C (tgt := 113) dX12_go_104 (by decide) (fun h_402 => ?_) (fun h_402 => ?_)
          · skip
            have r_403 := lt_l (hi := 899) (h_402) rv_382 r_401 (by decide)
            have r_404 := lt_r (lo := 1) (h_402) rv_382 r_401 (by decide)
            refine g_aload_n C 0 dX12_go_113 rfl rfl ?_
            refine g_getR C K hLx hkx f_12_7 hb_2 dX12_go_114 ?_
            refine g_aload_n C 0 dX12_go_117 rfl rfl ?_
            refine g_getI C K hLx hkx f_12_95 (v := v_382) (kp_j hI_394 (by decide) q_383) dX12_go_118 ?_
            obtain ⟨x_405, hx_405, rx_405⟩ := ex_getw (I := I_394) (a := b_2) (j := v_382.toNatClampNeg) (lo := 0) (hi := 255) hU_395.1 hb_2L (ro_a hb_2k (by decide) hb_2o hkx rfl) (rfl)
            refine h_iald C K hb_2L hb_2k (v := x_405) (v_382.toNatClampNeg) (rfl) (ix_0 r_403 (by decide)) (ix_lt r_403 (by decide) hb_2n (by decide)) hx_405 dX12_go_121 ?_
            have f_406 : s_387.tp (v_382.toNatClampNeg) = x_405 := (congrFun (congrArg MT_.tp hs_397) _).symm.trans hx_405
            refine g_istore_n C dX12_go_122 rfl (by decide) (lo2 := [(1, .int x_405), (0, .ref x)]) rfl ?_
            refine g_iload_n C 0 dX12_go_123 rfl rfl ?_
            refine g_callSI C K (c_X12_isLetter W9 x_405  hU_395) s_12_107 rfl ⟨rfl, rfl⟩ ⟨Nat.le_of_ble_eq_true rfl, Nat.le_of_ble_eq_true rfl⟩ (Nat.le_of_ble_eq_true rfl) ⟨Nat.le_of_ble_eq_true rfl, Nat.le_of_ble_eq_true rfl⟩ dX12_go_124 rfl (st := []) (fun x_407 I_408 J_409 h_410 => ?_)
            obtain ⟨rfl, rfl, rx_407, fx_407, ex_407⟩ := h_410
            have c_411 : isLc (x_405) = x_407 := fx_407.symm
            refine g_if_ne C (tgt := 198) dX12_go_127 (by decide) (fun h_412 => ?_) (fun h_412 => ?_)
            · skip
              have n_413 : ¬ x_407 = 0 := h_412
              have r_414 := ne_lo (lo := 1) n_413 rx_407 rc_0 rfl (by decide)
              have r_415 := rg_i rx_405 ((ex_407.2) n_413) (lo := 97) (hi := 122) (by decide) (by decide)
              refine g_iload_n C 0 dX12_go_198 rfl rfl ?_
              refine g_callSI C K (c_X12_isLetter W9 x_405  hU_395) s_12_107 rfl ⟨rfl, rfl⟩ ⟨Nat.le_of_ble_eq_true rfl, Nat.le_of_ble_eq_true rfl⟩ (Nat.le_of_ble_eq_true rfl) ⟨Nat.le_of_ble_eq_true rfl, Nat.le_of_ble_eq_true rfl⟩ dX12_go_199 rfl (st := []) (fun x_416 I_417 J_418 h_419 => ?_)
              obtain ⟨rfl, rfl, rx_416, fx_416, ex_416⟩ := h_419
              have c_420 : isLc (x_405) = x_416 := fx_416.symm
              have ec_420 : x_407 = x_416 := c_411.symm.trans c_420
              subst ec_420
              refine g_istore_n C dX12_go_202 rfl (by decide) (lo2 := [(2, .int x_407), (1, .int x_405), (0, .ref x)]) rfl ?_
              refine g_iconst C (v := 1) dX12_go_203 (by decide) ?_
              refine g_istore_n C dX12_go_204 rfl (by decide) (lo2 := [(3, .int 1), (2, .int x_407), (1, .int x_405), (0, .ref x)]) rfl ?_
              refine g_aload_n C 3 dX12_go_205 rfl rfl ?_
              refine g_lconst C (v := 0) dX12_go_206 (by decide) ?_
              refine h_putJ C K hLx hkx f_12_117 p_12_12 dX12_go_207 (fun J_421 hJ_421 => ?_)
              have hG_422 := fq_puto hG_381 hJ_421 hkx (by decide) (by decide)
              have hs_423 : MTq I_394 J_421 x b_2 = (MT_.w_word (MT_.w_frm s_387 (v_382)) (0)) := by rw [hJ_421]; exact ((mq_word wmqx).trans (congrArg (fun z : MT_ => MT_.w_word z (0)) hs_397)).trans rfl
              refine g_aload_n C 3 dX12_go_210 rfl rfl ?_
              refine g_iconst C (v := 0) dX12_go_211 (by decide) ?_
              refine h_putI C K hLx hkx f_12_121 p_12_8 dX12_go_212 (fun I_424 hI_424 => ?_)
              have hU_425 := iw_put W9 hU_395 hI_424 (ro_o hkx (by decide)) (lo := (-2147483648)) (hi := 2147483647) (rfl) (rg_all _) rfl
              have hF_426 := fq_puto hF_396 hI_424 hkx (by decide) (by decide)
              have hs_427 : MTq I_424 J_421 x b_2 = (MT_.w_number (MT_.w_word (MT_.w_frm s_387 (v_382)) (0)) (0)) := by rw [hI_424]; exact ((mq_number wmqx).trans (congrArg (fun z : MT_ => MT_.w_number z (0)) hs_423)).trans rfl
              have u_428 := mrun_eq (lt := x_407) (g := 1) (m := (MT_.w_number (MT_.w_word (MT_.w_frm s_387 (v_382)) (0)) (0))) ((congrArg MT_.to hs_427).symm.trans (kp_j hI_424 (by decide) (kp_j hI_394 (by decide) q_383))) (rg_w r_403 (by decide) (by decide))
              refine g_aload_n C 3 dX12_go_215 rfl rfl ?_
              refine g_aload_n C 3 dX12_go_216 rfl rfl ?_
              refine g_getI C K hLx hkx f_12_95 (v := v_382) (kp_j hI_424 (by decide) (kp_j hI_394 (by decide) q_383)) dX12_go_217 ?_
              refine g_callVI C K (c_X12_tapeAt W9 hLx hkx v_382 (rg_w r_403 (by decide) (by decide)) hU_425) hLx hkx (by decide) rfl v_12_124 rfl ⟨rfl, rfl⟩ ⟨Nat.le_of_ble_eq_true rfl, Nat.le_of_ble_eq_true rfl⟩ (Nat.le_of_ble_eq_true rfl) ⟨Nat.le_of_ble_eq_true rfl, Nat.le_of_ble_eq_true rfl⟩ dX12_go_220 rfl (st := []) (fun x_429 I_430 J_431 h_432 => ?_)
              obtain ⟨rfl, rfl, rx_429, fx_429, ex_429⟩ := h_432
              have c_433 : mTapeAt (v_382) ((MT_.w_number (MT_.w_word (MT_.w_frm s_387 (v_382)) (0)) (0))) = x_429 := by have q := fx_429; simp only [emqx, hs_427] at q; exact q.symm
              have r_434 := eq_rg ((ex_429.1 _ hb_2 (by rw [(kp_j hI_424 (by decide) (kp_j hI_394 (by decide) hx_391))]; exact h_402)).trans (kp_k (κ := κ) hI_424 (by rw [hb_2k, hkx]; decide) hx_405)) r_415
              refine g_callSI C K (c_X12_isLetter W9 x_429  hU_425) s_12_107 rfl ⟨rfl, rfl⟩ ⟨Nat.le_of_ble_eq_true rfl, Nat.le_of_ble_eq_true rfl⟩ (Nat.le_of_ble_eq_true rfl) ⟨Nat.le_of_ble_eq_true rfl, Nat.le_of_ble_eq_true rfl⟩ dX12_go_223 rfl (st := []) (fun x_435 I_436 J_437 h_438 => ?_)
              obtain ⟨rfl, rfl, rx_435, fx_435, ex_435⟩ := h_438
              have c_439 : isLc (x_429) = x_435 := fx_435.symm
              have n_440 : ¬ x_435 = 0 := by rcases ex_435.1 with q | q | q; exact q; exact absurd q (by have := (r_434).1; omega); exact absurd q (by have := (r_434).2; omega)
              have n_441 : ¬ x_435 = 0 := n_440
              have r_442 := ne_lo (lo := 1) n_441 rx_435 rc_0 rfl (by decide)
              refine g_if_ne C (tgt := 243) dX12_go_226 (by decide) (fun h_443 => ?_) (fun h_443 => ?_)
              · skip
                have n_444 : ¬ x_435 = 0 := h_443
                refine g_aload_n C 3 dX12_go_243 rfl rfl ?_
                refine g_getR C K hLx hkx f_12_7 hb_2 dX12_go_244 ?_
                refine g_aload_n C 3 dX12_go_247 rfl rfl ?_
                refine g_getI C K hLx hkx f_12_95 (v := v_382) (kp_j hI_424 (by decide) (kp_j hI_394 (by decide) q_383)) dX12_go_248 ?_
                refine h_iald C K hb_2L hb_2k (v := x_405) (v_382.toNatClampNeg) (rfl) (ix_0 r_403 (by decide)) (ix_lt r_403 (by decide) hb_2n (by decide)) (kp_k (κ := κ) hI_424 (by rw [hb_2k, hkx]; decide) hx_405) dX12_go_251 ?_
                refine g_istore C dX12_go_252 (by decide) (lo2 := [(4, .int x_405), (3, .int 1), (2, .int x_407), (1, .int x_405), (0, .ref x)]) rfl ?_
                refine g_iload_n C 1 dX12_go_254 rfl rfl ?_
                refine g_if_eq C (tgt := 271) dX12_go_255 (by decide) (fun h_446 => ?_) (fun h_446 => ?_)
                · skip
                  exact absurd (h_446) (by decide)
                · skip
                  refine g_iload C 0 dX12_go_258 rfl ?_
                  refine g_callSI C K (c_X12_isLetter W9 x_405  hU_425) s_12_107 rfl ⟨rfl, rfl⟩ ⟨Nat.le_of_ble_eq_true rfl, Nat.le_of_ble_eq_true rfl⟩ (Nat.le_of_ble_eq_true rfl) ⟨Nat.le_of_ble_eq_true rfl, Nat.le_of_ble_eq_true rfl⟩ dX12_go_260 rfl (st := []) (fun x_447 I_448 J_449 h_450 => ?_)
                  obtain ⟨rfl, rfl, rx_447, fx_447, ex_447⟩ := h_450
                  have c_451 : isLc (x_405) = x_447 := fx_447.symm
                  have ec_451 : x_407 = x_447 := c_411.symm.trans c_451
                  subst ec_451
                  refine g_iload_n C 2 dX12_go_263 rfl rfl ?_
                  refine g_icmp_ne C (tgt := 271) dX12_go_264 (by decide) (fun h_452 => ?_) (fun h_452 => ?_)
                  · skip
                    exact ne_no (h_452) r_414 r_414
                  · skip
                    refine g_iconst C (v := 1) dX12_go_267 (by decide) ?_
                    refine g_goto C (tgt := 272) dX12_go_268 (by decide) ?_
                    refine g_istore_n C dX12_go_272 rfl (by decide) (lo2 := [(3, .int 1), (4, .int x_405), (2, .int x_407), (1, .int x_405), (0, .ref x)]) rfl ?_
                    refine g_aload_n C 4 dX12_go_273 rfl rfl ?_
                    refine g_getI C K hLx hkx f_12_95 (v := v_382) (kp_j hI_424 (by decide) (kp_j hI_394 (by decide) q_383)) dX12_go_274 ?_
                    refine g_aload_n C 4 dX12_go_277 rfl rfl ?_
                    refine g_getI C K hLx hkx f_12_98 (v := v_382) (kp_j hI_424 (by decide) (kp_s hI_394)) dX12_go_278 ?_
                    refine g_isub C (v := 0) dX12_go_281 (Int32.sub_self _) ?_
                    refine g_bipush C (v := 7) dX12_go_282 (by decide) ?_
                    refine g_icmp_ge C (tgt := 307) dX12_go_284 (by decide) (fun h_453 => ?_) (fun h_453 => ?_)
                    · skip
                      exact absurd (h_453) (by decide)
                    · skip
                      refine g_aload_n C 4 dX12_go_287 rfl rfl ?_
                      refine g_ldc2 C kl_128 dX12_go_288 ?_
                      refine g_aload_n C 4 dX12_go_291 rfl rfl ?_
                      obtain ⟨y_454, hy_454⟩ : ∃ z, J_421 x 12 = z := ⟨_, rfl⟩
                      have e_455 : 0 = y_454 := (congrArg MT_.word hs_427).symm.trans hy_454
                      subst e_455
                      refine g_getJ C K hLx hkx f_12_117 (v := 0) hy_454 dX12_go_292 ?_
                      refine g_lmulE C dX12_go_295 (fun y_456 hy_456 => ?_)
                      refine g_iload C 1 dX12_go_296 rfl ?_
                      obtain ⟨y_457, hy_457⟩ : ∃ z, Int32.toInt64 x_405 = z := ⟨_, rfl⟩
                      refine g_i2l C (v := y_457) dX12_go_298 hy_457 ?_
                      refine g_laddE C dX12_go_299 (fun y_458 hy_458 => ?_)
                      refine g_ldc2 C kl_130 dX12_go_300 ?_
                      refine g_lsubE C dX12_go_303 (fun y_459 hy_459 => ?_)
                      refine h_putJ C K hLx hkx f_12_117 p_12_12 dX12_go_304 (fun J_460 hJ_460 => ?_)
                      have hG_461 := fq_puto hG_422 hJ_460 hkx (by decide) (by decide)
                      have hs_462 : MTq I_424 J_460 x b_2 = (MT_.w_word (MT_.w_number (MT_.w_frm s_387 (v_382)) (0)) (y_459)) := by rw [hJ_460]; exact ((mq_word wmqx).trans (congrArg (fun z : MT_ => MT_.w_word z (y_459)) hs_427)).trans rfl
                      refine g_aload_n C 4 dX12_go_307 rfl rfl ?_
                      refine g_getI C K hLx hkx f_12_95 (v := v_382) (kp_j hI_424 (by decide) (kp_j hI_394 (by decide) q_383)) dX12_go_308 ?_
                      refine g_aload_n C 4 dX12_go_311 rfl rfl ?_
                      refine g_getI C K hLx hkx f_12_98 (v := v_382) (kp_j hI_424 (by decide) (kp_s hI_394)) dX12_go_312 ?_
                      refine g_isub C (v := 0) dX12_go_315 (Int32.sub_self _) ?_
                      refine g_iconst C (v := 3) dX12_go_316 (by decide) ?_
                      refine g_icmp_ge C (tgt := 337) dX12_go_317 (by decide) (fun h_463 => ?_) (fun h_463 => ?_)
                      · skip
                        exact absurd (h_463) (by decide)
                      · skip
                        refine g_aload_n C 4 dX12_go_320 rfl rfl ?_
                        refine g_bipush C (v := 10) dX12_go_321 (by decide) ?_
                        refine g_aload_n C 4 dX12_go_323 rfl rfl ?_
                        refine g_getI C K hLx hkx f_12_121 (v := 0) (kp_s hI_424) dX12_go_324 ?_
                        refine g_imul C (v := 0) dX12_go_327 (by decide) ?_
                        refine g_iload C 1 dX12_go_328 rfl ?_
                        obtain ⟨x_464, hx_464, rx_464, tx_464⟩ := ex_add 97 122 rc_0 r_415 (by decide) (by decide) (by decide) (by decide)
                        refine g_iadd C (v := x_464) dX12_go_330 hx_464 ?_
                        refine g_bipush C (v := 48) dX12_go_331 (by decide) ?_
                        obtain ⟨x_465, hx_465, rx_465, tx_465⟩ := ex_sub 49 74 rx_464 rc_48 (by decide) (by decide) (by decide) (by decide)
                        refine g_isub C (v := x_465) dX12_go_333 hx_465 ?_
                        refine h_putI C K hLx hkx f_12_121 p_12_8 dX12_go_334 (fun I_466 hI_466 => ?_)
                        have hU_467 := iw_put W9 hU_425 hI_466 (ro_o hkx (by decide)) (lo := (-2147483648)) (hi := 2147483647) (rfl) (rg_all _) rfl
                        have hF_468 := fq_puto hF_426 hI_466 hkx (by decide) (by decide)
                        have hs_469 : MTq I_466 J_460 x b_2 = (MT_.w_number (MT_.w_word (MT_.w_frm s_387 (v_382)) (y_459)) (x_465)) := by rw [hI_466]; exact ((mq_number wmqx).trans (congrArg (fun z : MT_ => MT_.w_number z (x_465)) hs_462)).trans rfl
                        refine g_aload_n C 4 dX12_go_337 rfl rfl ?_
                        refine g_dup C dX12_go_338 rfl ?_
                        refine g_getI C K hLx hkx f_12_95 (v := v_382) (kp_j hI_466 (by decide) (kp_j hI_424 (by decide) (kp_j hI_394 (by decide) q_383))) dX12_go_339 ?_
                        refine g_iconst C (v := 1) dX12_go_342 (by decide) ?_
                        obtain ⟨x_470, hx_470, rx_470, tx_470⟩ := ex_add 1 900 r_403 rc_1 (by decide) (by decide) (by decide) (by decide)
                        refine g_iadd C (v := x_470) dX12_go_343 hx_470 ?_
                        refine h_putI C K hLx hkx f_12_95 p_12_5 dX12_go_344 (fun I_471 hI_471 => ?_)
                        have hU_472 := iw_put W9 hU_467 hI_471 (ro_o hkx (by decide)) (lo := 0) (hi := 940) (rfl) (rg_w rx_470 (by decide) (by decide)) rfl
                        have hF_473 := fq_puto hF_468 hI_471 hkx (by decide) (by decide)
                        have hs_474 : MTq I_471 J_460 x b_2 = (MT_.w_to (MT_.w_number (MT_.w_word (MT_.w_frm s_387 (v_382)) (y_459)) (x_465)) (x_470)) := by rw [hI_471]; exact ((mq_to wmqx).trans (congrArg (fun z : MT_ => MT_.w_to z (x_470)) hs_469)).trans rfl
                        refine g_goto C (tgt := 215) dX12_go_347 (by decide) ?_
                        refine g_lo (is := [4, 3, 2, 0, 1]) (lo2 := [(0, .ref x), (1, .int x_405), (2, .int x_407), (3, .int 1), (4, .int x_405)]) rfl ?_
                        exact l_215 940 I_471 J_460 hU_472 hF_473 hG_461 x_405 (rg_w r_415 (by decide) (by decide)) (rg_nek r_415 rc_10 (by decide)) (rg_nek r_415 rc_32 (by decide)) x_407 (rg_w r_414 (by decide) (by decide)) 1 (rg_w rc_1 (by decide) (by decide)) x_405 (rg_w r_415 (by decide) (by decide)) x_391 (rg_w r_404 (by decide) (by decide)) x_398 (rx_398) x_470 (rg_w rx_470 (by decide) (by decide)) v_382 (r_403) x_465 (kp_j hI_471 (by decide) (kp_j hI_466 (by decide) (kp_j hI_424 (by decide) (kp_j hI_394 (by decide) hx_391)))) (kp_j hI_471 (by decide) (kp_j hI_466 (by decide) (kp_j hI_424 (by decide) hx_398))) (kp_s hI_471) (kp_j hI_471 (by decide) (kp_j hI_466 (by decide) (kp_j hI_424 (by decide) (kp_s hI_394)))) (kp_j hI_471 (by decide) (kp_s hI_466)) (by (try simp only [f_390, hx_391, f_392, h_393, hx_398, f_399, h_400, h_402, hx_405, f_406, c_411, h_412, c_439, h_443, h_446, (eq_true h_452), h_453, (nle h_453), hy_454, hy_456, hy_457, hy_458, hy_459, h_463, (nle h_463), hx_464, hx_465, hx_470, if_true, if_false, mqM_tp, mqM_size, mqM_limit, mqM_to, mqM_frm, mqM_kind, mqM_number, mqM_sign, mqM_word, MT_.w_tp, MT_.w_size, MT_.w_limit, MT_.w_to, MT_.w_frm, MT_.w_kind, MT_.w_number, MT_.w_sign, MT_.w_word] at hQ_388); (try simp only [f_390, hx_391, f_392, h_393, hx_398, f_399, h_400, h_402, hx_405, f_406, c_411, h_412, c_439, h_443, h_446, (eq_true h_452), h_453, (nle h_453), hy_454, hy_456, hy_457, hy_458, hy_459, h_463, (nle h_463), hx_464, hx_465, hx_470, if_true, if_false, mqM_tp, mqM_size, mqM_limit, mqM_to, mqM_frm, mqM_kind, mqM_number, mqM_sign, mqM_word, MT_.w_tp, MT_.w_size, MT_.w_limit, MT_.w_to, MT_.w_frm, MT_.w_kind, MT_.w_number, MT_.w_sign, MT_.w_word] at u_389); (try simp only [f_390, hx_391, f_392, h_393, hx_398, f_399, h_400, h_402, hx_405, f_406, c_411, h_412, c_439, h_443, h_446, (eq_true h_452), h_453, (nle h_453), hy_454, hy_456, hy_457, hy_458, hy_459, h_463, (nle h_463), hx_464, hx_465, hx_470, if_true, if_false, mqM_tp, mqM_size, mqM_limit, mqM_to, mqM_frm, mqM_kind, mqM_number, mqM_sign, mqM_word, MT_.w_tp, MT_.w_size, MT_.w_limit, MT_.w_to, MT_.w_frm, MT_.w_kind, MT_.w_number, MT_.w_sign, MT_.w_word] at u_428); (try simp only [f_390, hx_391, f_392, h_393, hx_398, f_399, h_400, h_402, hx_405, f_406, c_411, h_412, c_439, h_443, h_446, (eq_true h_452), h_453, (nle h_453), hy_454, hy_456, hy_457, hy_458, hy_459, h_463, (nle h_463), hx_464, hx_465, hx_470, if_true, if_false, mqM_tp, mqM_size, mqM_limit, mqM_to, mqM_frm, mqM_kind, mqM_number, mqM_sign, mqM_word, MT_.w_tp, MT_.w_size, MT_.w_limit, MT_.w_to, MT_.w_frm, MT_.w_kind, MT_.w_number, MT_.w_sign, MT_.w_word] at c_433); simp only [mGo, mGo2, mGo3, mGoE, mSg, mStep, mGood, Int32.sub_self, (by decide : (7 ≤ (0 : Int32)) = False), (by decide : (3 ≤ (0 : Int32)) = False), (by decide : 10 * (0 : Int32) = 0), emqx, hs_474, hs_3, hQ_388, f_390, u_389, hx_391, f_392, h_393, hx_398, f_399, h_400, h_402, hx_405, f_406, c_411, h_412, u_428, c_433, c_439, h_443, h_446, (eq_true h_452), h_453, (nle h_453), hy_454, hy_456, hy_457, hy_458, hy_459, h_463, (nle h_463), hx_464, hx_465, hx_470, if_true, if_false, mqM_tp, mqM_size, mqM_limit, mqM_to, mqM_frm, mqM_kind, mqM_number, mqM_sign, mqM_word, MT_.w_tp, MT_.w_size, MT_.w_limit, MT_.w_to, MT_.w_frm, MT_.w_kind, MT_.w_number, MT_.w_sign, MT_.w_word]) (by have := hj_385; have := (ti_k tx_470 rc_1); omega) (ms_s (a := 1) (b := 940) (N := 940) (rg_w rx_470 (by decide) (by decide)) (by decide))
              · skip
                exact eq_no (h_443) r_442 rc_0 (by decide)
            · skip
              have r_475 := (⟨(rx_407).1, (eq_rg (h_412) rc_0).2⟩ : Rg 0 0 x_407)
              refine g_iload_n C 0 dX12_go_130 rfl rfl ?_
              refine g_callSI C K (c_X12_isDigit W9 x_405  hU_395) s_12_111 rfl ⟨rfl, rfl⟩ ⟨Nat.le_of_ble_eq_true rfl, Nat.le_of_ble_eq_true rfl⟩ (Nat.le_of_ble_eq_true rfl) ⟨Nat.le_of_ble_eq_true rfl, Nat.le_of_ble_eq_true rfl⟩ dX12_go_131 rfl (st := []) (fun x_476 I_477 J_478 h_479 => ?_)
              obtain ⟨rfl, rfl, rx_476, fx_476, ex_476⟩ := h_479
              have c_480 : isDc (x_405) = x_476 := fx_476.symm
              refine g_if_ne C (tgt := 198) dX12_go_134 (by decide) (fun h_481 => ?_) (fun h_481 => ?_)
              · skip
                have n_482 : ¬ x_476 = 0 := h_481
                have r_483 := ne_lo (lo := 1) n_482 rx_476 rc_0 rfl (by decide)
                have r_484 := rg_i rx_405 ((ex_476.2) n_482) (lo := 48) (hi := 57) (by decide) (by decide)
                refine g_iload_n C 0 dX12_go_198 rfl rfl ?_
                refine g_callSI C K (c_X12_isLetter W9 x_405  hU_395) s_12_107 rfl ⟨rfl, rfl⟩ ⟨Nat.le_of_ble_eq_true rfl, Nat.le_of_ble_eq_true rfl⟩ (Nat.le_of_ble_eq_true rfl) ⟨Nat.le_of_ble_eq_true rfl, Nat.le_of_ble_eq_true rfl⟩ dX12_go_199 rfl (st := []) (fun x_485 I_486 J_487 h_488 => ?_)
                obtain ⟨rfl, rfl, rx_485, fx_485, ex_485⟩ := h_488
                have c_489 : isLc (x_405) = x_485 := fx_485.symm
                have ec_489 : x_407 = x_485 := c_411.symm.trans c_489
                subst ec_489
                refine g_istore_n C dX12_go_202 rfl (by decide) (lo2 := [(2, .int x_407), (1, .int x_405), (0, .ref x)]) rfl ?_
                refine g_iconst C (v := 1) dX12_go_203 (by decide) ?_
                refine g_istore_n C dX12_go_204 rfl (by decide) (lo2 := [(3, .int 1), (2, .int x_407), (1, .int x_405), (0, .ref x)]) rfl ?_
                refine g_aload_n C 3 dX12_go_205 rfl rfl ?_
                refine g_lconst C (v := 0) dX12_go_206 (by decide) ?_
                refine h_putJ C K hLx hkx f_12_117 p_12_12 dX12_go_207 (fun J_490 hJ_490 => ?_)
                have hG_491 := fq_puto hG_381 hJ_490 hkx (by decide) (by decide)
                have hs_492 : MTq I_394 J_490 x b_2 = (MT_.w_word (MT_.w_frm s_387 (v_382)) (0)) := by rw [hJ_490]; exact ((mq_word wmqx).trans (congrArg (fun z : MT_ => MT_.w_word z (0)) hs_397)).trans rfl
                refine g_aload_n C 3 dX12_go_210 rfl rfl ?_
                refine g_iconst C (v := 0) dX12_go_211 (by decide) ?_
                refine h_putI C K hLx hkx f_12_121 p_12_8 dX12_go_212 (fun I_493 hI_493 => ?_)
                have hU_494 := iw_put W9 hU_395 hI_493 (ro_o hkx (by decide)) (lo := (-2147483648)) (hi := 2147483647) (rfl) (rg_all _) rfl
                have hF_495 := fq_puto hF_396 hI_493 hkx (by decide) (by decide)
                have hs_496 : MTq I_493 J_490 x b_2 = (MT_.w_number (MT_.w_word (MT_.w_frm s_387 (v_382)) (0)) (0)) := by rw [hI_493]; exact ((mq_number wmqx).trans (congrArg (fun z : MT_ => MT_.w_number z (0)) hs_492)).trans rfl
                have u_497 := mrun_eq (lt := x_407) (g := 1) (m := (MT_.w_number (MT_.w_word (MT_.w_frm s_387 (v_382)) (0)) (0))) ((congrArg MT_.to hs_496).symm.trans (kp_j hI_493 (by decide) (kp_j hI_394 (by decide) q_383))) (rg_w r_403 (by decide) (by decide))
                refine g_aload_n C 3 dX12_go_215 rfl rfl ?_
                refine g_aload_n C 3 dX12_go_216 rfl rfl ?_
                refine g_getI C K hLx hkx f_12_95 (v := v_382) (kp_j hI_493 (by decide) (kp_j hI_394 (by decide) q_383)) dX12_go_217 ?_
                refine g_callVI C K (c_X12_tapeAt W9 hLx hkx v_382 (rg_w r_403 (by decide) (by decide)) hU_494) hLx hkx (by decide) rfl v_12_124 rfl ⟨rfl, rfl⟩ ⟨Nat.le_of_ble_eq_true rfl, Nat.le_of_ble_eq_true rfl⟩ (Nat.le_of_ble_eq_true rfl) ⟨Nat.le_of_ble_eq_true rfl, Nat.le_of_ble_eq_true rfl⟩ dX12_go_220 rfl (st := []) (fun x_498 I_499 J_500 h_501 => ?_)
                obtain ⟨rfl, rfl, rx_498, fx_498, ex_498⟩ := h_501
                have c_502 : mTapeAt (v_382) ((MT_.w_number (MT_.w_word (MT_.w_frm s_387 (v_382)) (0)) (0))) = x_498 := by have q := fx_498; simp only [emqx, hs_496] at q; exact q.symm
                have r_503 := eq_rg ((ex_498.1 _ hb_2 (by rw [(kp_j hI_493 (by decide) (kp_j hI_394 (by decide) hx_391))]; exact h_402)).trans (kp_k (κ := κ) hI_493 (by rw [hb_2k, hkx]; decide) hx_405)) r_484
                refine g_callSI C K (c_X12_isLetter W9 x_498  hU_494) s_12_107 rfl ⟨rfl, rfl⟩ ⟨Nat.le_of_ble_eq_true rfl, Nat.le_of_ble_eq_true rfl⟩ (Nat.le_of_ble_eq_true rfl) ⟨Nat.le_of_ble_eq_true rfl, Nat.le_of_ble_eq_true rfl⟩ dX12_go_223 rfl (st := []) (fun x_504 I_505 J_506 h_507 => ?_)
                obtain ⟨rfl, rfl, rx_504, fx_504, ex_504⟩ := h_507
                have c_508 : isLc (x_498) = x_504 := fx_504.symm
                refine g_if_ne C (tgt := 243) dX12_go_226 (by decide) (fun h_509 => ?_) (fun h_509 => ?_)
                · skip
                  have n_510 : ¬ x_504 = 0 := h_509
                  have r_511 := ne_lo (lo := 1) n_510 rx_504 rc_0 rfl (by decide)
                  have r_512 := rg_i r_503 ((ex_504.2) n_510) (lo := 97) (hi := 57) (by decide) (by decide)
                  exact rg_no r_512 (by decide)
                · skip
                  have r_513 := (⟨(rx_504).1, (eq_rg (h_509) rc_0).2⟩ : Rg 0 0 x_504)
                  refine g_aload_n C 3 dX12_go_229 rfl rfl ?_
                  refine g_aload_n C 3 dX12_go_230 rfl rfl ?_
                  refine g_getI C K hLx hkx f_12_95 (v := v_382) (kp_j hI_493 (by decide) (kp_j hI_394 (by decide) q_383)) dX12_go_231 ?_
                  refine g_callVI C K (c_X12_tapeAt W9 hLx hkx v_382 (rg_w r_403 (by decide) (by decide)) hU_494) hLx hkx (by decide) rfl v_12_124 rfl ⟨rfl, rfl⟩ ⟨Nat.le_of_ble_eq_true rfl, Nat.le_of_ble_eq_true rfl⟩ (Nat.le_of_ble_eq_true rfl) ⟨Nat.le_of_ble_eq_true rfl, Nat.le_of_ble_eq_true rfl⟩ dX12_go_234 rfl (st := []) (fun x_514 I_515 J_516 h_517 => ?_)
                  obtain ⟨rfl, rfl, rx_514, fx_514, ex_514⟩ := h_517
                  have c_518 : mTapeAt (v_382) ((MT_.w_number (MT_.w_word (MT_.w_frm s_387 (v_382)) (0)) (0))) = x_514 := by have q := fx_514; simp only [emqx, hs_496] at q; exact q.symm
                  have ec_518 : x_498 = x_514 := c_502.symm.trans c_518
                  subst ec_518
                  refine g_callSI C K (c_X12_isDigit W9 x_498  hU_494) s_12_111 rfl ⟨rfl, rfl⟩ ⟨Nat.le_of_ble_eq_true rfl, Nat.le_of_ble_eq_true rfl⟩ (Nat.le_of_ble_eq_true rfl) ⟨Nat.le_of_ble_eq_true rfl, Nat.le_of_ble_eq_true rfl⟩ dX12_go_237 rfl (st := []) (fun x_519 I_520 J_521 h_522 => ?_)
                  obtain ⟨rfl, rfl, rx_519, fx_519, ex_519⟩ := h_522
                  have c_523 : isDc (x_498) = x_519 := fx_519.symm
                  have n_524 : ¬ x_519 = 0 := by rcases ex_519.1 with q | q | q; exact q; exact absurd q (by have := (r_503).1; omega); exact absurd q (by have := (r_503).2; omega)
                  have n_525 : ¬ x_519 = 0 := n_524
                  have r_526 := ne_lo (lo := 1) n_525 rx_519 rc_0 rfl (by decide)
                  refine g_if_eq C (tgt := 350) dX12_go_240 (by decide) (fun h_527 => ?_) (fun h_527 => ?_)
                  · skip
                    exact eq_no (h_527) r_526 rc_0 (by decide)
                  · skip
                    have n_528 : ¬ x_519 = 0 := h_527
                    refine g_aload_n C 3 dX12_go_243 rfl rfl ?_
                    refine g_getR C K hLx hkx f_12_7 hb_2 dX12_go_244 ?_
                    refine g_aload_n C 3 dX12_go_247 rfl rfl ?_
                    refine g_getI C K hLx hkx f_12_95 (v := v_382) (kp_j hI_493 (by decide) (kp_j hI_394 (by decide) q_383)) dX12_go_248 ?_
                    refine h_iald C K hb_2L hb_2k (v := x_405) (v_382.toNatClampNeg) (rfl) (ix_0 r_403 (by decide)) (ix_lt r_403 (by decide) hb_2n (by decide)) (kp_k (κ := κ) hI_493 (by rw [hb_2k, hkx]; decide) hx_405) dX12_go_251 ?_
                    refine g_istore C dX12_go_252 (by decide) (lo2 := [(4, .int x_405), (3, .int 1), (2, .int x_407), (1, .int x_405), (0, .ref x)]) rfl ?_
                    refine g_iload_n C 1 dX12_go_254 rfl rfl ?_
                    refine g_if_eq C (tgt := 271) dX12_go_255 (by decide) (fun h_530 => ?_) (fun h_530 => ?_)
                    · skip
                      exact absurd (h_530) (by decide)
                    · skip
                      refine g_iload C 0 dX12_go_258 rfl ?_
                      refine g_callSI C K (c_X12_isLetter W9 x_405  hU_494) s_12_107 rfl ⟨rfl, rfl⟩ ⟨Nat.le_of_ble_eq_true rfl, Nat.le_of_ble_eq_true rfl⟩ (Nat.le_of_ble_eq_true rfl) ⟨Nat.le_of_ble_eq_true rfl, Nat.le_of_ble_eq_true rfl⟩ dX12_go_260 rfl (st := []) (fun x_531 I_532 J_533 h_534 => ?_)
                      obtain ⟨rfl, rfl, rx_531, fx_531, ex_531⟩ := h_534
                      have c_535 : isLc (x_405) = x_531 := fx_531.symm
                      have ec_535 : x_407 = x_531 := c_411.symm.trans c_535
                      subst ec_535
                      refine g_iload_n C 2 dX12_go_263 rfl rfl ?_
                      refine g_icmp_ne C (tgt := 271) dX12_go_264 (by decide) (fun h_536 => ?_) (fun h_536 => ?_)
                      · skip
                        exact ne_no (h_536) r_475 r_475
                      · skip
                        refine g_iconst C (v := 1) dX12_go_267 (by decide) ?_
                        refine g_goto C (tgt := 272) dX12_go_268 (by decide) ?_
                        refine g_istore_n C dX12_go_272 rfl (by decide) (lo2 := [(3, .int 1), (4, .int x_405), (2, .int x_407), (1, .int x_405), (0, .ref x)]) rfl ?_
                        refine g_aload_n C 4 dX12_go_273 rfl rfl ?_
                        refine g_getI C K hLx hkx f_12_95 (v := v_382) (kp_j hI_493 (by decide) (kp_j hI_394 (by decide) q_383)) dX12_go_274 ?_
                        refine g_aload_n C 4 dX12_go_277 rfl rfl ?_
                        refine g_getI C K hLx hkx f_12_98 (v := v_382) (kp_j hI_493 (by decide) (kp_s hI_394)) dX12_go_278 ?_
                        refine g_isub C (v := 0) dX12_go_281 (Int32.sub_self _) ?_
                        refine g_bipush C (v := 7) dX12_go_282 (by decide) ?_
                        refine g_icmp_ge C (tgt := 307) dX12_go_284 (by decide) (fun h_537 => ?_) (fun h_537 => ?_)
                        · skip
                          exact absurd (h_537) (by decide)
                        · skip
                          refine g_aload_n C 4 dX12_go_287 rfl rfl ?_
                          refine g_ldc2 C kl_128 dX12_go_288 ?_
                          refine g_aload_n C 4 dX12_go_291 rfl rfl ?_
                          obtain ⟨y_538, hy_538⟩ : ∃ z, J_490 x 12 = z := ⟨_, rfl⟩
                          have e_539 : 0 = y_538 := (congrArg MT_.word hs_496).symm.trans hy_538
                          subst e_539
                          refine g_getJ C K hLx hkx f_12_117 (v := 0) hy_538 dX12_go_292 ?_
                          refine g_lmulE C dX12_go_295 (fun y_540 hy_540 => ?_)
                          refine g_iload C 1 dX12_go_296 rfl ?_
                          obtain ⟨y_541, hy_541⟩ : ∃ z, Int32.toInt64 x_405 = z := ⟨_, rfl⟩
                          refine g_i2l C (v := y_541) dX12_go_298 hy_541 ?_
                          refine g_laddE C dX12_go_299 (fun y_542 hy_542 => ?_)
                          refine g_ldc2 C kl_130 dX12_go_300 ?_
                          refine g_lsubE C dX12_go_303 (fun y_543 hy_543 => ?_)
                          refine h_putJ C K hLx hkx f_12_117 p_12_12 dX12_go_304 (fun J_544 hJ_544 => ?_)
                          have hG_545 := fq_puto hG_491 hJ_544 hkx (by decide) (by decide)
                          have hs_546 : MTq I_493 J_544 x b_2 = (MT_.w_word (MT_.w_number (MT_.w_frm s_387 (v_382)) (0)) (y_543)) := by rw [hJ_544]; exact ((mq_word wmqx).trans (congrArg (fun z : MT_ => MT_.w_word z (y_543)) hs_496)).trans rfl
                          refine g_aload_n C 4 dX12_go_307 rfl rfl ?_
                          refine g_getI C K hLx hkx f_12_95 (v := v_382) (kp_j hI_493 (by decide) (kp_j hI_394 (by decide) q_383)) dX12_go_308 ?_
                          refine g_aload_n C 4 dX12_go_311 rfl rfl ?_
                          refine g_getI C K hLx hkx f_12_98 (v := v_382) (kp_j hI_493 (by decide) (kp_s hI_394)) dX12_go_312 ?_
                          refine g_isub C (v := 0) dX12_go_315 (Int32.sub_self _) ?_
                          refine g_iconst C (v := 3) dX12_go_316 (by decide) ?_
                          refine g_icmp_ge C (tgt := 337) dX12_go_317 (by decide) (fun h_547 => ?_) (fun h_547 => ?_)
                          · skip
                            exact absurd (h_547) (by decide)
                          · skip
                            refine g_aload_n C 4 dX12_go_320 rfl rfl ?_
                            refine g_bipush C (v := 10) dX12_go_321 (by decide) ?_
                            refine g_aload_n C 4 dX12_go_323 rfl rfl ?_
                            refine g_getI C K hLx hkx f_12_121 (v := 0) (kp_s hI_493) dX12_go_324 ?_
                            refine g_imul C (v := 0) dX12_go_327 (by decide) ?_
                            refine g_iload C 1 dX12_go_328 rfl ?_
                            obtain ⟨x_548, hx_548, rx_548, tx_548⟩ := ex_add 48 57 rc_0 r_484 (by decide) (by decide) (by decide) (by decide)
                            refine g_iadd C (v := x_548) dX12_go_330 hx_548 ?_
                            refine g_bipush C (v := 48) dX12_go_331 (by decide) ?_
                            obtain ⟨x_549, hx_549, rx_549, tx_549⟩ := ex_sub 0 9 rx_548 rc_48 (by decide) (by decide) (by decide) (by decide)
                            refine g_isub C (v := x_549) dX12_go_333 hx_549 ?_
                            refine h_putI C K hLx hkx f_12_121 p_12_8 dX12_go_334 (fun I_550 hI_550 => ?_)
                            have hU_551 := iw_put W9 hU_494 hI_550 (ro_o hkx (by decide)) (lo := (-2147483648)) (hi := 2147483647) (rfl) (rg_all _) rfl
                            have hF_552 := fq_puto hF_495 hI_550 hkx (by decide) (by decide)
                            have hs_553 : MTq I_550 J_544 x b_2 = (MT_.w_number (MT_.w_word (MT_.w_frm s_387 (v_382)) (y_543)) (x_549)) := by rw [hI_550]; exact ((mq_number wmqx).trans (congrArg (fun z : MT_ => MT_.w_number z (x_549)) hs_546)).trans rfl
                            refine g_aload_n C 4 dX12_go_337 rfl rfl ?_
                            refine g_dup C dX12_go_338 rfl ?_
                            refine g_getI C K hLx hkx f_12_95 (v := v_382) (kp_j hI_550 (by decide) (kp_j hI_493 (by decide) (kp_j hI_394 (by decide) q_383))) dX12_go_339 ?_
                            refine g_iconst C (v := 1) dX12_go_342 (by decide) ?_
                            obtain ⟨x_554, hx_554, rx_554, tx_554⟩ := ex_add 1 900 r_403 rc_1 (by decide) (by decide) (by decide) (by decide)
                            refine g_iadd C (v := x_554) dX12_go_343 hx_554 ?_
                            refine h_putI C K hLx hkx f_12_95 p_12_5 dX12_go_344 (fun I_555 hI_555 => ?_)
                            have hU_556 := iw_put W9 hU_551 hI_555 (ro_o hkx (by decide)) (lo := 0) (hi := 940) (rfl) (rg_w rx_554 (by decide) (by decide)) rfl
                            have hF_557 := fq_puto hF_552 hI_555 hkx (by decide) (by decide)
                            have hs_558 : MTq I_555 J_544 x b_2 = (MT_.w_to (MT_.w_number (MT_.w_word (MT_.w_frm s_387 (v_382)) (y_543)) (x_549)) (x_554)) := by rw [hI_555]; exact ((mq_to wmqx).trans (congrArg (fun z : MT_ => MT_.w_to z (x_554)) hs_553)).trans rfl
                            refine g_goto C (tgt := 215) dX12_go_347 (by decide) ?_
                            refine g_lo (is := [4, 3, 2, 0, 1]) (lo2 := [(0, .ref x), (1, .int x_405), (2, .int x_407), (3, .int 1), (4, .int x_405)]) rfl ?_
                            exact l_215 940 I_555 J_544 hU_556 hF_557 hG_545 x_405 (rg_w r_484 (by decide) (by decide)) (rg_nek r_484 rc_10 (by decide)) (rg_nek r_484 rc_32 (by decide)) x_407 (rg_w r_475 (by decide) (by decide)) 1 (rg_w rc_1 (by decide) (by decide)) x_405 (rg_w r_484 (by decide) (by decide)) x_391 (rg_w r_404 (by decide) (by decide)) x_398 (rx_398) x_554 (rg_w rx_554 (by decide) (by decide)) v_382 (r_403) x_549 (kp_j hI_555 (by decide) (kp_j hI_550 (by decide) (kp_j hI_493 (by decide) (kp_j hI_394 (by decide) hx_391)))) (kp_j hI_555 (by decide) (kp_j hI_550 (by decide) (kp_j hI_493 (by decide) hx_398))) (kp_s hI_555) (kp_j hI_555 (by decide) (kp_j hI_550 (by decide) (kp_j hI_493 (by decide) (kp_s hI_394)))) (kp_j hI_555 (by decide) (kp_s hI_550)) (by (try simp only [f_390, hx_391, f_392, h_393, hx_398, f_399, h_400, h_402, hx_405, f_406, c_411, (eq_true h_412), c_480, h_481, c_508, (eq_true h_509), c_523, h_527, h_530, (eq_true h_536), h_537, (nle h_537), hy_538, hy_540, hy_541, hy_542, hy_543, h_547, (nle h_547), hx_548, hx_549, hx_554, if_true, if_false, mqM_tp, mqM_size, mqM_limit, mqM_to, mqM_frm, mqM_kind, mqM_number, mqM_sign, mqM_word, MT_.w_tp, MT_.w_size, MT_.w_limit, MT_.w_to, MT_.w_frm, MT_.w_kind, MT_.w_number, MT_.w_sign, MT_.w_word] at hQ_388); (try simp only [f_390, hx_391, f_392, h_393, hx_398, f_399, h_400, h_402, hx_405, f_406, c_411, (eq_true h_412), c_480, h_481, c_508, (eq_true h_509), c_523, h_527, h_530, (eq_true h_536), h_537, (nle h_537), hy_538, hy_540, hy_541, hy_542, hy_543, h_547, (nle h_547), hx_548, hx_549, hx_554, if_true, if_false, mqM_tp, mqM_size, mqM_limit, mqM_to, mqM_frm, mqM_kind, mqM_number, mqM_sign, mqM_word, MT_.w_tp, MT_.w_size, MT_.w_limit, MT_.w_to, MT_.w_frm, MT_.w_kind, MT_.w_number, MT_.w_sign, MT_.w_word] at u_389); (try simp only [f_390, hx_391, f_392, h_393, hx_398, f_399, h_400, h_402, hx_405, f_406, c_411, (eq_true h_412), c_480, h_481, c_508, (eq_true h_509), c_523, h_527, h_530, (eq_true h_536), h_537, (nle h_537), hy_538, hy_540, hy_541, hy_542, hy_543, h_547, (nle h_547), hx_548, hx_549, hx_554, if_true, if_false, mqM_tp, mqM_size, mqM_limit, mqM_to, mqM_frm, mqM_kind, mqM_number, mqM_sign, mqM_word, MT_.w_tp, MT_.w_size, MT_.w_limit, MT_.w_to, MT_.w_frm, MT_.w_kind, MT_.w_number, MT_.w_sign, MT_.w_word] at u_497); (try simp only [f_390, hx_391, f_392, h_393, hx_398, f_399, h_400, h_402, hx_405, f_406, c_411, (eq_true h_412), c_480, h_481, c_508, (eq_true h_509), c_523, h_527, h_530, (eq_true h_536), h_537, (nle h_537), hy_538, hy_540, hy_541, hy_542, hy_543, h_547, (nle h_547), hx_548, hx_549, hx_554, if_true, if_false, mqM_tp, mqM_size, mqM_limit, mqM_to, mqM_frm, mqM_kind, mqM_number, mqM_sign, mqM_word, MT_.w_tp, MT_.w_size, MT_.w_limit, MT_.w_to, MT_.w_frm, MT_.w_kind, MT_.w_number, MT_.w_sign, MT_.w_word] at c_502); simp only [mGo, mGo2, mGo3, mGoE, mSg, mStep, mGood, Int32.sub_self, (by decide : (7 ≤ (0 : Int32)) = False), (by decide : (3 ≤ (0 : Int32)) = False), (by decide : 10 * (0 : Int32) = 0), emqx, hs_558, hs_3, hQ_388, f_390, u_389, hx_391, f_392, h_393, hx_398, f_399, h_400, h_402, hx_405, f_406, c_411, (eq_true h_412), c_480, h_481, u_497, c_502, c_508, (eq_true h_509), c_523, h_527, h_530, (eq_true h_536), h_537, (nle h_537), hy_538, hy_540, hy_541, hy_542, hy_543, h_547, (nle h_547), hx_548, hx_549, hx_554, if_true, if_false, mqM_tp, mqM_size, mqM_limit, mqM_to, mqM_frm, mqM_kind, mqM_number, mqM_sign, mqM_word, MT_.w_tp, MT_.w_size, MT_.w_limit, MT_.w_to, MT_.w_frm, MT_.w_kind, MT_.w_number, MT_.w_sign, MT_.w_word]) (by have := hj_385; have := (ti_k tx_554 rc_1); omega) (ms_s (a := 1) (b := 940) (N := 940) (rg_w rx_554 (by decide) (by decide)) (by decide))
              · skip
                have r_559 := (⟨(rx_476).1, (eq_rg (h_481) rc_0).2⟩ : Rg 0 0 x_476)
                refine g_aload_n C 1 dX12_go_137 rfl rfl ?_
                refine g_iload_n C 0 dX12_go_138 rfl rfl ?_
                refine g_bipush C (v := 59) dX12_go_139 (by decide) ?_
                refine g_icmp_eq C (tgt := 174) dX12_go_141 (by decide) (fun h_560 => ?_) (fun h_560 => ?_)
                · skip
                  have r_561 := (⟨(eq_rg (h_560) rc_59).1, (eq_rg (h_560) rc_59).2⟩ : Rg 59 59 x_405)
                  refine g_iconst C (v := 4) dX12_go_174 (by decide) ?_
                  refine g_goto C (tgt := 179) dX12_go_175 (by decide) ?_
                  refine h_putI C K hLx hkx f_12_104 p_12_7 dX12_go_179 (fun I_562 hI_562 => ?_)
                  have hU_563 := iw_put W9 hU_395 hI_562 (ro_o hkx (by decide)) (lo := 0) (hi := 4) (rfl) (rg_w rc_4 (by decide) (by decide)) rfl
                  have hF_564 := fq_puto hF_396 hI_562 hkx (by decide) (by decide)
                  have hs_565 : MTq I_562 J_378 x b_2 = (MT_.w_kind (MT_.w_frm s_387 (v_382)) (4)) := by rw [hI_562]; exact ((mq_kind wmqx).trans (congrArg (fun z : MT_ => MT_.w_kind z (4)) hs_397)).trans rfl
                  refine g_aload_n C 1 dX12_go_182 rfl rfl ?_
                  refine g_iload_n C 0 dX12_go_183 rfl rfl ?_
                  refine h_putI C K hLx hkx f_12_114 p_12_9 dX12_go_184 (fun I_566 hI_566 => ?_)
                  have hU_567 := iw_put W9 hU_563 hI_566 (ro_o hkx (by decide)) (lo := (-2147483648)) (hi := 2147483647) (rfl) (rg_all _) rfl
                  have hF_568 := fq_puto hF_564 hI_566 hkx (by decide) (by decide)
                  have hs_569 : MTq I_566 J_378 x b_2 = (MT_.w_sign (MT_.w_kind (MT_.w_frm s_387 (v_382)) (4)) (x_405)) := by rw [hI_566]; exact ((mq_sign wmqx).trans (congrArg (fun z : MT_ => MT_.w_sign z (x_405)) hs_565)).trans rfl
                  refine g_aload_n C 1 dX12_go_187 rfl rfl ?_
                  refine g_dup C dX12_go_188 rfl ?_
                  refine g_getI C K hLx hkx f_12_95 (v := v_382) (kp_j hI_566 (by decide) (kp_j hI_562 (by decide) (kp_j hI_394 (by decide) q_383))) dX12_go_189 ?_
                  refine g_iconst C (v := 1) dX12_go_192 (by decide) ?_
                  obtain ⟨x_570, hx_570, rx_570, tx_570⟩ := ex_add 1 900 r_403 rc_1 (by decide) (by decide) (by decide) (by decide)
                  refine g_iadd C (v := x_570) dX12_go_193 hx_570 ?_
                  refine h_putI C K hLx hkx f_12_95 p_12_5 dX12_go_194 (fun I_571 hI_571 => ?_)
                  have hU_572 := iw_put W9 hU_567 hI_571 (ro_o hkx (by decide)) (lo := 0) (hi := 940) (rfl) (rg_w rx_570 (by decide) (by decide)) rfl
                  have hF_573 := fq_puto hF_568 hI_571 hkx (by decide) (by decide)
                  have hs_574 : MTq I_571 J_378 x b_2 = (MT_.w_to (MT_.w_sign (MT_.w_kind (MT_.w_frm s_387 (v_382)) (4)) (x_405)) (x_570)) := by rw [hI_571]; exact ((mq_to wmqx).trans (congrArg (fun z : MT_ => MT_.w_to z (x_570)) hs_569)).trans rfl
                  exact g_vret B K rfl ⟨hU_572, hF_573, hG_381, (by (try simp only [f_390, hx_391, f_392, h_393, hx_398, f_399, h_400, h_402, hx_405, f_406, c_411, (eq_true h_412), c_480, (eq_true h_481), (eq_true h_560), hx_570, if_true, if_false, mqM_tp, mqM_size, mqM_limit, mqM_to, mqM_frm, mqM_kind, mqM_number, mqM_sign, mqM_word, MT_.w_tp, MT_.w_size, MT_.w_limit, MT_.w_to, MT_.w_frm, MT_.w_kind, MT_.w_number, MT_.w_sign, MT_.w_word] at hQ_388); (try simp only [f_390, hx_391, f_392, h_393, hx_398, f_399, h_400, h_402, hx_405, f_406, c_411, (eq_true h_412), c_480, (eq_true h_481), (eq_true h_560), hx_570, if_true, if_false, mqM_tp, mqM_size, mqM_limit, mqM_to, mqM_frm, mqM_kind, mqM_number, mqM_sign, mqM_word, MT_.w_tp, MT_.w_size, MT_.w_limit, MT_.w_to, MT_.w_frm, MT_.w_kind, MT_.w_number, MT_.w_sign, MT_.w_word] at u_389); simp only [mGo, mGo2, mGo3, mGoE, mSg, mStep, mGood, Int32.sub_self, (by decide : (7 ≤ (0 : Int32)) = False), (by decide : (3 ≤ (0 : Int32)) = False), (by decide : 10 * (0 : Int32) = 0), emqx, hs_574, hs_3, hQ_388, f_390, u_389, hx_391, f_392, h_393, hx_398, f_399, h_400, h_402, hx_405, f_406, c_411, (eq_true h_412), c_480, (eq_true h_481), (eq_true h_560), hx_570, if_true, if_false, mqM_tp, mqM_size, mqM_limit, mqM_to, mqM_frm, mqM_kind, mqM_number, mqM_sign, mqM_word, MT_.w_tp, MT_.w_size, MT_.w_limit, MT_.w_to, MT_.w_frm, MT_.w_kind, MT_.w_number, MT_.w_sign, MT_.w_word]), (ps_mk hx_1 (kp_s hI_571) (kp_j hI_571 (by decide) (kp_j hI_566 (by decide) (kp_s hI_562))) (Int.le_of_lt (by have := hj_385; have := (ti_k tx_570 rc_1); omega)) (Or.inl (by have := hj_385; have := (ti_k tx_570 rc_1); omega)))⟩ dX12_go_197
                · skip
                  have n_575 : ¬ x_405 = 59 := h_560
                  refine g_iload_n C 0 dX12_go_144 rfl rfl ?_
                  refine g_bipush C (v := 60) dX12_go_145 (by decide) ?_
                  refine g_icmp_eq C (tgt := 174) dX12_go_147 (by decide) (fun h_576 => ?_) (fun h_576 => ?_)
                  · skip
                    have r_577 := (⟨(eq_rg (h_576) rc_60).1, (eq_rg (h_576) rc_60).2⟩ : Rg 60 60 x_405)
                    refine g_iconst C (v := 4) dX12_go_174 (by decide) ?_
                    refine g_goto C (tgt := 179) dX12_go_175 (by decide) ?_
                    refine h_putI C K hLx hkx f_12_104 p_12_7 dX12_go_179 (fun I_578 hI_578 => ?_)
                    have hU_579 := iw_put W9 hU_395 hI_578 (ro_o hkx (by decide)) (lo := 0) (hi := 4) (rfl) (rg_w rc_4 (by decide) (by decide)) rfl
                    have hF_580 := fq_puto hF_396 hI_578 hkx (by decide) (by decide)
                    have hs_581 : MTq I_578 J_378 x b_2 = (MT_.w_kind (MT_.w_frm s_387 (v_382)) (4)) := by rw [hI_578]; exact ((mq_kind wmqx).trans (congrArg (fun z : MT_ => MT_.w_kind z (4)) hs_397)).trans rfl
                    refine g_aload_n C 1 dX12_go_182 rfl rfl ?_
                    refine g_iload_n C 0 dX12_go_183 rfl rfl ?_
                    refine h_putI C K hLx hkx f_12_114 p_12_9 dX12_go_184 (fun I_582 hI_582 => ?_)
                    have hU_583 := iw_put W9 hU_579 hI_582 (ro_o hkx (by decide)) (lo := (-2147483648)) (hi := 2147483647) (rfl) (rg_all _) rfl
                    have hF_584 := fq_puto hF_580 hI_582 hkx (by decide) (by decide)
                    have hs_585 : MTq I_582 J_378 x b_2 = (MT_.w_sign (MT_.w_kind (MT_.w_frm s_387 (v_382)) (4)) (x_405)) := by rw [hI_582]; exact ((mq_sign wmqx).trans (congrArg (fun z : MT_ => MT_.w_sign z (x_405)) hs_581)).trans rfl
                    refine g_aload_n C 1 dX12_go_187 rfl rfl ?_
                    refine g_dup C dX12_go_188 rfl ?_
                    refine g_getI C K hLx hkx f_12_95 (v := v_382) (kp_j hI_582 (by decide) (kp_j hI_578 (by decide) (kp_j hI_394 (by decide) q_383))) dX12_go_189 ?_
                    refine g_iconst C (v := 1) dX12_go_192 (by decide) ?_
                    obtain ⟨x_586, hx_586, rx_586, tx_586⟩ := ex_add 1 900 r_403 rc_1 (by decide) (by decide) (by decide) (by decide)
                    refine g_iadd C (v := x_586) dX12_go_193 hx_586 ?_
                    refine h_putI C K hLx hkx f_12_95 p_12_5 dX12_go_194 (fun I_587 hI_587 => ?_)
                    have hU_588 := iw_put W9 hU_583 hI_587 (ro_o hkx (by decide)) (lo := 0) (hi := 940) (rfl) (rg_w rx_586 (by decide) (by decide)) rfl
                    have hF_589 := fq_puto hF_584 hI_587 hkx (by decide) (by decide)
                    have hs_590 : MTq I_587 J_378 x b_2 = (MT_.w_to (MT_.w_sign (MT_.w_kind (MT_.w_frm s_387 (v_382)) (4)) (x_405)) (x_586)) := by rw [hI_587]; exact ((mq_to wmqx).trans (congrArg (fun z : MT_ => MT_.w_to z (x_586)) hs_585)).trans rfl
                    exact g_vret B K rfl ⟨hU_588, hF_589, hG_381, (by (try simp only [f_390, hx_391, f_392, h_393, hx_398, f_399, h_400, h_402, hx_405, f_406, c_411, (eq_true h_412), c_480, (eq_true h_481), h_560, (eq_true h_576), hx_586, if_true, if_false, mqM_tp, mqM_size, mqM_limit, mqM_to, mqM_frm, mqM_kind, mqM_number, mqM_sign, mqM_word, MT_.w_tp, MT_.w_size, MT_.w_limit, MT_.w_to, MT_.w_frm, MT_.w_kind, MT_.w_number, MT_.w_sign, MT_.w_word] at hQ_388); (try simp only [f_390, hx_391, f_392, h_393, hx_398, f_399, h_400, h_402, hx_405, f_406, c_411, (eq_true h_412), c_480, (eq_true h_481), h_560, (eq_true h_576), hx_586, if_true, if_false, mqM_tp, mqM_size, mqM_limit, mqM_to, mqM_frm, mqM_kind, mqM_number, mqM_sign, mqM_word, MT_.w_tp, MT_.w_size, MT_.w_limit, MT_.w_to, MT_.w_frm, MT_.w_kind, MT_.w_number, MT_.w_sign, MT_.w_word] at u_389); simp only [mGo, mGo2, mGo3, mGoE, mSg, mStep, mGood, Int32.sub_self, (by decide : (7 ≤ (0 : Int32)) = False), (by decide : (3 ≤ (0 : Int32)) = False), (by decide : 10 * (0 : Int32) = 0), emqx, hs_590, hs_3, hQ_388, f_390, u_389, hx_391, f_392, h_393, hx_398, f_399, h_400, h_402, hx_405, f_406, c_411, (eq_true h_412), c_480, (eq_true h_481), h_560, (eq_true h_576), hx_586, if_true, if_false, mqM_tp, mqM_size, mqM_limit, mqM_to, mqM_frm, mqM_kind, mqM_number, mqM_sign, mqM_word, MT_.w_tp, MT_.w_size, MT_.w_limit, MT_.w_to, MT_.w_frm, MT_.w_kind, MT_.w_number, MT_.w_sign, MT_.w_word]), (ps_mk hx_1 (kp_s hI_587) (kp_j hI_587 (by decide) (kp_j hI_582 (by decide) (kp_s hI_578))) (Int.le_of_lt (by have := hj_385; have := (ti_k tx_586 rc_1); omega)) (Or.inl (by have := hj_385; have := (ti_k tx_586 rc_1); omega)))⟩ dX12_go_197
                  · skip
                    have n_591 : ¬ x_405 = 60 := h_576
                    refine g_iload_n C 0 dX12_go_150 rfl rfl ?_
                    refine g_bipush C (v := 61) dX12_go_151 (by decide) ?_
                    refine g_icmp_eq C (tgt := 174) dX12_go_153 (by decide) (fun h_592 => ?_) (fun h_592 => ?_)
                    · skip
                      have r_593 := (⟨(eq_rg (h_592) rc_61).1, (eq_rg (h_592) rc_61).2⟩ : Rg 61 61 x_405)
                      refine g_iconst C (v := 4) dX12_go_174 (by decide) ?_
                      refine g_goto C (tgt := 179) dX12_go_175 (by decide) ?_
                      refine h_putI C K hLx hkx f_12_104 p_12_7 dX12_go_179 (fun I_594 hI_594 => ?_)
                      have hU_595 := iw_put W9 hU_395 hI_594 (ro_o hkx (by decide)) (lo := 0) (hi := 4) (rfl) (rg_w rc_4 (by decide) (by decide)) rfl
                      have hF_596 := fq_puto hF_396 hI_594 hkx (by decide) (by decide)
                      have hs_597 : MTq I_594 J_378 x b_2 = (MT_.w_kind (MT_.w_frm s_387 (v_382)) (4)) := by rw [hI_594]; exact ((mq_kind wmqx).trans (congrArg (fun z : MT_ => MT_.w_kind z (4)) hs_397)).trans rfl
                      refine g_aload_n C 1 dX12_go_182 rfl rfl ?_
                      refine g_iload_n C 0 dX12_go_183 rfl rfl ?_
                      refine h_putI C K hLx hkx f_12_114 p_12_9 dX12_go_184 (fun I_598 hI_598 => ?_)
                      have hU_599 := iw_put W9 hU_595 hI_598 (ro_o hkx (by decide)) (lo := (-2147483648)) (hi := 2147483647) (rfl) (rg_all _) rfl
                      have hF_600 := fq_puto hF_596 hI_598 hkx (by decide) (by decide)
                      have hs_601 : MTq I_598 J_378 x b_2 = (MT_.w_sign (MT_.w_kind (MT_.w_frm s_387 (v_382)) (4)) (x_405)) := by rw [hI_598]; exact ((mq_sign wmqx).trans (congrArg (fun z : MT_ => MT_.w_sign z (x_405)) hs_597)).trans rfl
                      refine g_aload_n C 1 dX12_go_187 rfl rfl ?_
                      refine g_dup C dX12_go_188 rfl ?_
                      refine g_getI C K hLx hkx f_12_95 (v := v_382) (kp_j hI_598 (by decide) (kp_j hI_594 (by decide) (kp_j hI_394 (by decide) q_383))) dX12_go_189 ?_
                      refine g_iconst C (v := 1) dX12_go_192 (by decide) ?_
                      obtain ⟨x_602, hx_602, rx_602, tx_602⟩ := ex_add 1 900 r_403 rc_1 (by decide) (by decide) (by decide) (by decide)
                      refine g_iadd C (v := x_602) dX12_go_193 hx_602 ?_
                      refine h_putI C K hLx hkx f_12_95 p_12_5 dX12_go_194 (fun I_603 hI_603 => ?_)
                      have hU_604 := iw_put W9 hU_599 hI_603 (ro_o hkx (by decide)) (lo := 0) (hi := 940) (rfl) (rg_w rx_602 (by decide) (by decide)) rfl
                      have hF_605 := fq_puto hF_600 hI_603 hkx (by decide) (by decide)
                      have hs_606 : MTq I_603 J_378 x b_2 = (MT_.w_to (MT_.w_sign (MT_.w_kind (MT_.w_frm s_387 (v_382)) (4)) (x_405)) (x_602)) := by rw [hI_603]; exact ((mq_to wmqx).trans (congrArg (fun z : MT_ => MT_.w_to z (x_602)) hs_601)).trans rfl
                      exact g_vret B K rfl ⟨hU_604, hF_605, hG_381, (by (try simp only [f_390, hx_391, f_392, h_393, hx_398, f_399, h_400, h_402, hx_405, f_406, c_411, (eq_true h_412), c_480, (eq_true h_481), h_560, h_576, (eq_true h_592), hx_602, if_true, if_false, mqM_tp, mqM_size, mqM_limit, mqM_to, mqM_frm, mqM_kind, mqM_number, mqM_sign, mqM_word, MT_.w_tp, MT_.w_size, MT_.w_limit, MT_.w_to, MT_.w_frm, MT_.w_kind, MT_.w_number, MT_.w_sign, MT_.w_word] at hQ_388); (try simp only [f_390, hx_391, f_392, h_393, hx_398, f_399, h_400, h_402, hx_405, f_406, c_411, (eq_true h_412), c_480, (eq_true h_481), h_560, h_576, (eq_true h_592), hx_602, if_true, if_false, mqM_tp, mqM_size, mqM_limit, mqM_to, mqM_frm, mqM_kind, mqM_number, mqM_sign, mqM_word, MT_.w_tp, MT_.w_size, MT_.w_limit, MT_.w_to, MT_.w_frm, MT_.w_kind, MT_.w_number, MT_.w_sign, MT_.w_word] at u_389); simp only [mGo, mGo2, mGo3, mGoE, mSg, mStep, mGood, Int32.sub_self, (by decide : (7 ≤ (0 : Int32)) = False), (by decide : (3 ≤ (0 : Int32)) = False), (by decide : 10 * (0 : Int32) = 0), emqx, hs_606, hs_3, hQ_388, f_390, u_389, hx_391, f_392, h_393, hx_398, f_399, h_400, h_402, hx_405, f_406, c_411, (eq_true h_412), c_480, (eq_true h_481), h_560, h_576, (eq_true h_592), hx_602, if_true, if_false, mqM_tp, mqM_size, mqM_limit, mqM_to, mqM_frm, mqM_kind, mqM_number, mqM_sign, mqM_word, MT_.w_tp, MT_.w_size, MT_.w_limit, MT_.w_to, MT_.w_frm, MT_.w_kind, MT_.w_number, MT_.w_sign, MT_.w_word]), (ps_mk hx_1 (kp_s hI_603) (kp_j hI_603 (by decide) (kp_j hI_598 (by decide) (kp_s hI_594))) (Int.le_of_lt (by have := hj_385; have := (ti_k tx_602 rc_1); omega)) (Or.inl (by have := hj_385; have := (ti_k tx_602 rc_1); omega)))⟩ dX12_go_197
                    · skip
                      have n_607 : ¬ x_405 = 61 := h_592
                      refine g_iload_n C 0 dX12_go_156 rfl rfl ?_
                      refine g_bipush C (v := 62) dX12_go_157 (by decide) ?_
                      refine g_icmp_eq C (tgt := 174) dX12_go_159 (by decide) (fun h_608 => ?_) (fun h_608 => ?_)
                      · skip
                        have r_609 := (⟨(eq_rg (h_608) rc_62).1, (eq_rg (h_608) rc_62).2⟩ : Rg 62 62 x_405)
                        refine g_iconst C (v := 4) dX12_go_174 (by decide) ?_
                        refine g_goto C (tgt := 179) dX12_go_175 (by decide) ?_
                        refine h_putI C K hLx hkx f_12_104 p_12_7 dX12_go_179 (fun I_610 hI_610 => ?_)
                        have hU_611 := iw_put W9 hU_395 hI_610 (ro_o hkx (by decide)) (lo := 0) (hi := 4) (rfl) (rg_w rc_4 (by decide) (by decide)) rfl
                        have hF_612 := fq_puto hF_396 hI_610 hkx (by decide) (by decide)
                        have hs_613 : MTq I_610 J_378 x b_2 = (MT_.w_kind (MT_.w_frm s_387 (v_382)) (4)) := by rw [hI_610]; exact ((mq_kind wmqx).trans (congrArg (fun z : MT_ => MT_.w_kind z (4)) hs_397)).trans rfl
                        refine g_aload_n C 1 dX12_go_182 rfl rfl ?_
                        refine g_iload_n C 0 dX12_go_183 rfl rfl ?_
                        refine h_putI C K hLx hkx f_12_114 p_12_9 dX12_go_184 (fun I_614 hI_614 => ?_)
                        have hU_615 := iw_put W9 hU_611 hI_614 (ro_o hkx (by decide)) (lo := (-2147483648)) (hi := 2147483647) (rfl) (rg_all _) rfl
                        have hF_616 := fq_puto hF_612 hI_614 hkx (by decide) (by decide)
                        have hs_617 : MTq I_614 J_378 x b_2 = (MT_.w_sign (MT_.w_kind (MT_.w_frm s_387 (v_382)) (4)) (x_405)) := by rw [hI_614]; exact ((mq_sign wmqx).trans (congrArg (fun z : MT_ => MT_.w_sign z (x_405)) hs_613)).trans rfl
                        refine g_aload_n C 1 dX12_go_187 rfl rfl ?_
                        refine g_dup C dX12_go_188 rfl ?_
                        refine g_getI C K hLx hkx f_12_95 (v := v_382) (kp_j hI_614 (by decide) (kp_j hI_610 (by decide) (kp_j hI_394 (by decide) q_383))) dX12_go_189 ?_
                        refine g_iconst C (v := 1) dX12_go_192 (by decide) ?_
                        obtain ⟨x_618, hx_618, rx_618, tx_618⟩ := ex_add 1 900 r_403 rc_1 (by decide) (by decide) (by decide) (by decide)
                        refine g_iadd C (v := x_618) dX12_go_193 hx_618 ?_
                        refine h_putI C K hLx hkx f_12_95 p_12_5 dX12_go_194 (fun I_619 hI_619 => ?_)
                        have hU_620 := iw_put W9 hU_615 hI_619 (ro_o hkx (by decide)) (lo := 0) (hi := 940) (rfl) (rg_w rx_618 (by decide) (by decide)) rfl
                        have hF_621 := fq_puto hF_616 hI_619 hkx (by decide) (by decide)
                        have hs_622 : MTq I_619 J_378 x b_2 = (MT_.w_to (MT_.w_sign (MT_.w_kind (MT_.w_frm s_387 (v_382)) (4)) (x_405)) (x_618)) := by rw [hI_619]; exact ((mq_to wmqx).trans (congrArg (fun z : MT_ => MT_.w_to z (x_618)) hs_617)).trans rfl
                        exact g_vret B K rfl ⟨hU_620, hF_621, hG_381, (by (try simp only [f_390, hx_391, f_392, h_393, hx_398, f_399, h_400, h_402, hx_405, f_406, c_411, (eq_true h_412), c_480, (eq_true h_481), h_560, h_576, h_592, (eq_true h_608), hx_618, if_true, if_false, mqM_tp, mqM_size, mqM_limit, mqM_to, mqM_frm, mqM_kind, mqM_number, mqM_sign, mqM_word, MT_.w_tp, MT_.w_size, MT_.w_limit, MT_.w_to, MT_.w_frm, MT_.w_kind, MT_.w_number, MT_.w_sign, MT_.w_word] at hQ_388); (try simp only [f_390, hx_391, f_392, h_393, hx_398, f_399, h_400, h_402, hx_405, f_406, c_411, (eq_true h_412), c_480, (eq_true h_481), h_560, h_576, h_592, (eq_true h_608), hx_618, if_true, if_false, mqM_tp, mqM_size, mqM_limit, mqM_to, mqM_frm, mqM_kind, mqM_number, mqM_sign, mqM_word, MT_.w_tp, MT_.w_size, MT_.w_limit, MT_.w_to, MT_.w_frm, MT_.w_kind, MT_.w_number, MT_.w_sign, MT_.w_word] at u_389); simp only [mGo, mGo2, mGo3, mGoE, mSg, mStep, mGood, Int32.sub_self, (by decide : (7 ≤ (0 : Int32)) = False), (by decide : (3 ≤ (0 : Int32)) = False), (by decide : 10 * (0 : Int32) = 0), emqx, hs_622, hs_3, hQ_388, f_390, u_389, hx_391, f_392, h_393, hx_398, f_399, h_400, h_402, hx_405, f_406, c_411, (eq_true h_412), c_480, (eq_true h_481), h_560, h_576, h_592, (eq_true h_608), hx_618, if_true, if_false, mqM_tp, mqM_size, mqM_limit, mqM_to, mqM_frm, mqM_kind, mqM_number, mqM_sign, mqM_word, MT_.w_tp, MT_.w_size, MT_.w_limit, MT_.w_to, MT_.w_frm, MT_.w_kind, MT_.w_number, MT_.w_sign, MT_.w_word]), (ps_mk hx_1 (kp_s hI_619) (kp_j hI_619 (by decide) (kp_j hI_614 (by decide) (kp_s hI_610))) (Int.le_of_lt (by have := hj_385; have := (ti_k tx_618 rc_1); omega)) (Or.inl (by have := hj_385; have := (ti_k tx_618 rc_1); omega)))⟩ dX12_go_197
                      · skip
                        have n_623 : ¬ x_405 = 62 := h_608
                        refine g_iload_n C 0 dX12_go_162 rfl rfl ?_
                        refine g_bipush C (v := 40) dX12_go_163 (by decide) ?_
                        refine g_icmp_eq C (tgt := 174) dX12_go_165 (by decide) (fun h_624 => ?_) (fun h_624 => ?_)
                        · skip
                          have r_625 := (⟨(eq_rg (h_624) rc_40).1, (eq_rg (h_624) rc_40).2⟩ : Rg 40 40 x_405)
                          refine g_iconst C (v := 4) dX12_go_174 (by decide) ?_
                          refine g_goto C (tgt := 179) dX12_go_175 (by decide) ?_
                          refine h_putI C K hLx hkx f_12_104 p_12_7 dX12_go_179 (fun I_626 hI_626 => ?_)
                          have hU_627 := iw_put W9 hU_395 hI_626 (ro_o hkx (by decide)) (lo := 0) (hi := 4) (rfl) (rg_w rc_4 (by decide) (by decide)) rfl
                          have hF_628 := fq_puto hF_396 hI_626 hkx (by decide) (by decide)
                          have hs_629 : MTq I_626 J_378 x b_2 = (MT_.w_kind (MT_.w_frm s_387 (v_382)) (4)) := by rw [hI_626]; exact ((mq_kind wmqx).trans (congrArg (fun z : MT_ => MT_.w_kind z (4)) hs_397)).trans rfl
                          refine g_aload_n C 1 dX12_go_182 rfl rfl ?_
                          refine g_iload_n C 0 dX12_go_183 rfl rfl ?_
                          refine h_putI C K hLx hkx f_12_114 p_12_9 dX12_go_184 (fun I_630 hI_630 => ?_)
                          have hU_631 := iw_put W9 hU_627 hI_630 (ro_o hkx (by decide)) (lo := (-2147483648)) (hi := 2147483647) (rfl) (rg_all _) rfl
                          have hF_632 := fq_puto hF_628 hI_630 hkx (by decide) (by decide)
                          have hs_633 : MTq I_630 J_378 x b_2 = (MT_.w_sign (MT_.w_kind (MT_.w_frm s_387 (v_382)) (4)) (x_405)) := by rw [hI_630]; exact ((mq_sign wmqx).trans (congrArg (fun z : MT_ => MT_.w_sign z (x_405)) hs_629)).trans rfl
                          refine g_aload_n C 1 dX12_go_187 rfl rfl ?_
                          refine g_dup C dX12_go_188 rfl ?_
                          refine g_getI C K hLx hkx f_12_95 (v := v_382) (kp_j hI_630 (by decide) (kp_j hI_626 (by decide) (kp_j hI_394 (by decide) q_383))) dX12_go_189 ?_
                          refine g_iconst C (v := 1) dX12_go_192 (by decide) ?_
                          obtain ⟨x_634, hx_634, rx_634, tx_634⟩ := ex_add 1 900 r_403 rc_1 (by decide) (by decide) (by decide) (by decide)
                          refine g_iadd C (v := x_634) dX12_go_193 hx_634 ?_
                          refine h_putI C K hLx hkx f_12_95 p_12_5 dX12_go_194 (fun I_635 hI_635 => ?_)
                          have hU_636 := iw_put W9 hU_631 hI_635 (ro_o hkx (by decide)) (lo := 0) (hi := 940) (rfl) (rg_w rx_634 (by decide) (by decide)) rfl
                          have hF_637 := fq_puto hF_632 hI_635 hkx (by decide) (by decide)
                          have hs_638 : MTq I_635 J_378 x b_2 = (MT_.w_to (MT_.w_sign (MT_.w_kind (MT_.w_frm s_387 (v_382)) (4)) (x_405)) (x_634)) := by rw [hI_635]; exact ((mq_to wmqx).trans (congrArg (fun z : MT_ => MT_.w_to z (x_634)) hs_633)).trans rfl
                          exact g_vret B K rfl ⟨hU_636, hF_637, hG_381, (by (try simp only [f_390, hx_391, f_392, h_393, hx_398, f_399, h_400, h_402, hx_405, f_406, c_411, (eq_true h_412), c_480, (eq_true h_481), h_560, h_576, h_592, h_608, (eq_true h_624), hx_634, if_true, if_false, mqM_tp, mqM_size, mqM_limit, mqM_to, mqM_frm, mqM_kind, mqM_number, mqM_sign, mqM_word, MT_.w_tp, MT_.w_size, MT_.w_limit, MT_.w_to, MT_.w_frm, MT_.w_kind, MT_.w_number, MT_.w_sign, MT_.w_word] at hQ_388); (try simp only [f_390, hx_391, f_392, h_393, hx_398, f_399, h_400, h_402, hx_405, f_406, c_411, (eq_true h_412), c_480, (eq_true h_481), h_560, h_576, h_592, h_608, (eq_true h_624), hx_634, if_true, if_false, mqM_tp, mqM_size, mqM_limit, mqM_to, mqM_frm, mqM_kind, mqM_number, mqM_sign, mqM_word, MT_.w_tp, MT_.w_size, MT_.w_limit, MT_.w_to, MT_.w_frm, MT_.w_kind, MT_.w_number, MT_.w_sign, MT_.w_word] at u_389); simp only [mGo, mGo2, mGo3, mGoE, mSg, mStep, mGood, Int32.sub_self, (by decide : (7 ≤ (0 : Int32)) = False), (by decide : (3 ≤ (0 : Int32)) = False), (by decide : 10 * (0 : Int32) = 0), emqx, hs_638, hs_3, hQ_388, f_390, u_389, hx_391, f_392, h_393, hx_398, f_399, h_400, h_402, hx_405, f_406, c_411, (eq_true h_412), c_480, (eq_true h_481), h_560, h_576, h_592, h_608, (eq_true h_624), hx_634, if_true, if_false, mqM_tp, mqM_size, mqM_limit, mqM_to, mqM_frm, mqM_kind, mqM_number, mqM_sign, mqM_word, MT_.w_tp, MT_.w_size, MT_.w_limit, MT_.w_to, MT_.w_frm, MT_.w_kind, MT_.w_number, MT_.w_sign, MT_.w_word]), (ps_mk hx_1 (kp_s hI_635) (kp_j hI_635 (by decide) (kp_j hI_630 (by decide) (kp_s hI_626))) (Int.le_of_lt (by have := hj_385; have := (ti_k tx_634 rc_1); omega)) (Or.inl (by have := hj_385; have := (ti_k tx_634 rc_1); omega)))⟩ dX12_go_197
                        · skip
                          have n_639 : ¬ x_405 = 40 := h_624
                          refine g_iload_n C 0 dX12_go_168 rfl rfl ?_
                          refine g_bipush C (v := 41) dX12_go_169 (by decide) ?_
                          refine g_icmp_ne C (tgt := 178) dX12_go_171 (by decide) (fun h_640 => ?_) (fun h_640 => ?_)
                          · skip
                            have n_641 : ¬ x_405 = 41 := h_640
                            refine g_iconst C (v := 1) dX12_go_178 (by decide) ?_
                            refine h_putI C K hLx hkx f_12_104 p_12_7 dX12_go_179 (fun I_642 hI_642 => ?_)
                            have hU_643 := iw_put W9 hU_395 hI_642 (ro_o hkx (by decide)) (lo := 0) (hi := 4) (rfl) (rg_w rc_1 (by decide) (by decide)) rfl
                            have hF_644 := fq_puto hF_396 hI_642 hkx (by decide) (by decide)
                            have hs_645 : MTq I_642 J_378 x b_2 = (MT_.w_kind (MT_.w_frm s_387 (v_382)) (1)) := by rw [hI_642]; exact ((mq_kind wmqx).trans (congrArg (fun z : MT_ => MT_.w_kind z (1)) hs_397)).trans rfl
                            refine g_aload_n C 1 dX12_go_182 rfl rfl ?_
                            refine g_iload_n C 0 dX12_go_183 rfl rfl ?_
                            refine h_putI C K hLx hkx f_12_114 p_12_9 dX12_go_184 (fun I_646 hI_646 => ?_)
                            have hU_647 := iw_put W9 hU_643 hI_646 (ro_o hkx (by decide)) (lo := (-2147483648)) (hi := 2147483647) (rfl) (rg_all _) rfl
                            have hF_648 := fq_puto hF_644 hI_646 hkx (by decide) (by decide)
                            have hs_649 : MTq I_646 J_378 x b_2 = (MT_.w_sign (MT_.w_kind (MT_.w_frm s_387 (v_382)) (1)) (x_405)) := by rw [hI_646]; exact ((mq_sign wmqx).trans (congrArg (fun z : MT_ => MT_.w_sign z (x_405)) hs_645)).trans rfl
                            refine g_aload_n C 1 dX12_go_187 rfl rfl ?_
                            refine g_dup C dX12_go_188 rfl ?_
                            refine g_getI C K hLx hkx f_12_95 (v := v_382) (kp_j hI_646 (by decide) (kp_j hI_642 (by decide) (kp_j hI_394 (by decide) q_383))) dX12_go_189 ?_
                            refine g_iconst C (v := 1) dX12_go_192 (by decide) ?_
                            obtain ⟨x_650, hx_650, rx_650, tx_650⟩ := ex_add 1 900 r_403 rc_1 (by decide) (by decide) (by decide) (by decide)
                            refine g_iadd C (v := x_650) dX12_go_193 hx_650 ?_
                            refine h_putI C K hLx hkx f_12_95 p_12_5 dX12_go_194 (fun I_651 hI_651 => ?_)
                            have hU_652 := iw_put W9 hU_647 hI_651 (ro_o hkx (by decide)) (lo := 0) (hi := 940) (rfl) (rg_w rx_650 (by decide) (by decide)) rfl
                            have hF_653 := fq_puto hF_648 hI_651 hkx (by decide) (by decide)
                            have hs_654 : MTq I_651 J_378 x b_2 = (MT_.w_to (MT_.w_sign (MT_.w_kind (MT_.w_frm s_387 (v_382)) (1)) (x_405)) (x_650)) := by rw [hI_651]; exact ((mq_to wmqx).trans (congrArg (fun z : MT_ => MT_.w_to z (x_650)) hs_649)).trans rfl
                            exact g_vret B K rfl ⟨hU_652, hF_653, hG_381, (by (try simp only [f_390, hx_391, f_392, h_393, hx_398, f_399, h_400, h_402, hx_405, f_406, c_411, (eq_true h_412), c_480, (eq_true h_481), h_560, h_576, h_592, h_608, h_624, h_640, hx_650, if_true, if_false, mqM_tp, mqM_size, mqM_limit, mqM_to, mqM_frm, mqM_kind, mqM_number, mqM_sign, mqM_word, MT_.w_tp, MT_.w_size, MT_.w_limit, MT_.w_to, MT_.w_frm, MT_.w_kind, MT_.w_number, MT_.w_sign, MT_.w_word] at hQ_388); (try simp only [f_390, hx_391, f_392, h_393, hx_398, f_399, h_400, h_402, hx_405, f_406, c_411, (eq_true h_412), c_480, (eq_true h_481), h_560, h_576, h_592, h_608, h_624, h_640, hx_650, if_true, if_false, mqM_tp, mqM_size, mqM_limit, mqM_to, mqM_frm, mqM_kind, mqM_number, mqM_sign, mqM_word, MT_.w_tp, MT_.w_size, MT_.w_limit, MT_.w_to, MT_.w_frm, MT_.w_kind, MT_.w_number, MT_.w_sign, MT_.w_word] at u_389); simp only [mGo, mGo2, mGo3, mGoE, mSg, mStep, mGood, Int32.sub_self, (by decide : (7 ≤ (0 : Int32)) = False), (by decide : (3 ≤ (0 : Int32)) = False), (by decide : 10 * (0 : Int32) = 0), emqx, hs_654, hs_3, hQ_388, f_390, u_389, hx_391, f_392, h_393, hx_398, f_399, h_400, h_402, hx_405, f_406, c_411, (eq_true h_412), c_480, (eq_true h_481), h_560, h_576, h_592, h_608, h_624, h_640, hx_650, if_true, if_false, mqM_tp, mqM_size, mqM_limit, mqM_to, mqM_frm, mqM_kind, mqM_number, mqM_sign, mqM_word, MT_.w_tp, MT_.w_size, MT_.w_limit, MT_.w_to, MT_.w_frm, MT_.w_kind, MT_.w_number, MT_.w_sign, MT_.w_word]), (ps_mk hx_1 (kp_s hI_651) (kp_j hI_651 (by decide) (kp_j hI_646 (by decide) (kp_s hI_642))) (by have := hj_385; have := (ti_k tx_650 rc_1); omega) (Or.inr (by have := (rc_1).2; omega)))⟩ dX12_go_197
                          · skip
                            have r_655 := (⟨(eq_rg (h_640) rc_41).1, (eq_rg (h_640) rc_41).2⟩ : Rg 41 41 x_405)
                            refine g_iconst C (v := 4) dX12_go_174 (by decide) ?_
                            refine g_goto C (tgt := 179) dX12_go_175 (by decide) ?_
                            refine h_putI C K hLx hkx f_12_104 p_12_7 dX12_go_179 (fun I_656 hI_656 => ?_)
                            have hU_657 := iw_put W9 hU_395 hI_656 (ro_o hkx (by decide)) (lo := 0) (hi := 4) (rfl) (rg_w rc_4 (by decide) (by decide)) rfl
                            have hF_658 := fq_puto hF_396 hI_656 hkx (by decide) (by decide)
                            have hs_659 : MTq I_656 J_378 x b_2 = (MT_.w_kind (MT_.w_frm s_387 (v_382)) (4)) := by rw [hI_656]; exact ((mq_kind wmqx).trans (congrArg (fun z : MT_ => MT_.w_kind z (4)) hs_397)).trans rfl
                            refine g_aload_n C 1 dX12_go_182 rfl rfl ?_
                            refine g_iload_n C 0 dX12_go_183 rfl rfl ?_
                            refine h_putI C K hLx hkx f_12_114 p_12_9 dX12_go_184 (fun I_660 hI_660 => ?_)
                            have hU_661 := iw_put W9 hU_657 hI_660 (ro_o hkx (by decide)) (lo := (-2147483648)) (hi := 2147483647) (rfl) (rg_all _) rfl
                            have hF_662 := fq_puto hF_658 hI_660 hkx (by decide) (by decide)
                            have hs_663 : MTq I_660 J_378 x b_2 = (MT_.w_sign (MT_.w_kind (MT_.w_frm s_387 (v_382)) (4)) (x_405)) := by rw [hI_660]; exact ((mq_sign wmqx).trans (congrArg (fun z : MT_ => MT_.w_sign z (x_405)) hs_659)).trans rfl
                            refine g_aload_n C 1 dX12_go_187 rfl rfl ?_
                            refine g_dup C dX12_go_188 rfl ?_
                            refine g_getI C K hLx hkx f_12_95 (v := v_382) (kp_j hI_660 (by decide) (kp_j hI_656 (by decide) (kp_j hI_394 (by decide) q_383))) dX12_go_189 ?_
                            refine g_iconst C (v := 1) dX12_go_192 (by decide) ?_
                            obtain ⟨x_664, hx_664, rx_664, tx_664⟩ := ex_add 1 900 r_403 rc_1 (by decide) (by decide) (by decide) (by decide)
                            refine g_iadd C (v := x_664) dX12_go_193 hx_664 ?_
                            refine h_putI C K hLx hkx f_12_95 p_12_5 dX12_go_194 (fun I_665 hI_665 => ?_)
                            have hU_666 := iw_put W9 hU_661 hI_665 (ro_o hkx (by decide)) (lo := 0) (hi := 940) (rfl) (rg_w rx_664 (by decide) (by decide)) rfl
                            have hF_667 := fq_puto hF_662 hI_665 hkx (by decide) (by decide)
                            have hs_668 : MTq I_665 J_378 x b_2 = (MT_.w_to (MT_.w_sign (MT_.w_kind (MT_.w_frm s_387 (v_382)) (4)) (x_405)) (x_664)) := by rw [hI_665]; exact ((mq_to wmqx).trans (congrArg (fun z : MT_ => MT_.w_to z (x_664)) hs_663)).trans rfl
                            exact g_vret B K rfl ⟨hU_666, hF_667, hG_381, (by (try simp only [f_390, hx_391, f_392, h_393, hx_398, f_399, h_400, h_402, hx_405, f_406, c_411, (eq_true h_412), c_480, (eq_true h_481), h_560, h_576, h_592, h_608, h_624, (eq_true h_640), hx_664, if_true, if_false, mqM_tp, mqM_size, mqM_limit, mqM_to, mqM_frm, mqM_kind, mqM_number, mqM_sign, mqM_word, MT_.w_tp, MT_.w_size, MT_.w_limit, MT_.w_to, MT_.w_frm, MT_.w_kind, MT_.w_number, MT_.w_sign, MT_.w_word] at hQ_388); (try simp only [f_390, hx_391, f_392, h_393, hx_398, f_399, h_400, h_402, hx_405, f_406, c_411, (eq_true h_412), c_480, (eq_true h_481), h_560, h_576, h_592, h_608, h_624, (eq_true h_640), hx_664, if_true, if_false, mqM_tp, mqM_size, mqM_limit, mqM_to, mqM_frm, mqM_kind, mqM_number, mqM_sign, mqM_word, MT_.w_tp, MT_.w_size, MT_.w_limit, MT_.w_to, MT_.w_frm, MT_.w_kind, MT_.w_number, MT_.w_sign, MT_.w_word] at u_389); simp only [mGo, mGo2, mGo3, mGoE, mSg, mStep, mGood, Int32.sub_self, (by decide : (7 ≤ (0 : Int32)) = False), (by decide : (3 ≤ (0 : Int32)) = False), (by decide : 10 * (0 : Int32) = 0), emqx, hs_668, hs_3, hQ_388, f_390, u_389, hx_391, f_392, h_393, hx_398, f_399, h_400, h_402, hx_405, f_406, c_411, (eq_true h_412), c_480, (eq_true h_481), h_560, h_576, h_592, h_608, h_624, (eq_true h_640), hx_664, if_true, if_false, mqM_tp, mqM_size, mqM_limit, mqM_to, mqM_frm, mqM_kind, mqM_number, mqM_sign, mqM_word, MT_.w_tp, MT_.w_size, MT_.w_limit, MT_.w_to, MT_.w_frm, MT_.w_kind, MT_.w_number, MT_.w_sign, MT_.w_word]), (ps_mk hx_1 (kp_s hI_665) (kp_j hI_665 (by decide) (kp_j hI_660 (by decide) (kp_s hI_656))) (Int.le_of_lt (by have := hj_385; have := (ti_k tx_664 rc_1); omega)) (Or.inl (by have := hj_385; have := (ti_k tx_664 rc_1); omega)))⟩ dX12_go_197
          · skip
            refine g_aload_n C 0 dX12_go_107 rfl rfl ?_
            refine g_iconst C (v := 0) dX12_go_108 (by decide) ?_
            refine h_putI C K hLx hkx f_12_104 p_12_7 dX12_go_109 (fun I_669 hI_669 => ?_)
            have hU_670 := iw_put W9 hU_395 hI_669 (ro_o hkx (by decide)) (lo := 0) (hi := 4) (rfl) (rg_w rc_0 (by decide) (by decide)) rfl
            have hF_671 := fq_puto hF_396 hI_669 hkx (by decide) (by decide)
            have hs_672 : MTq I_669 J_378 x b_2 = (MT_.w_kind (MT_.w_frm s_387 (v_382)) (0)) := by rw [hI_669]; exact ((mq_kind wmqx).trans (congrArg (fun z : MT_ => MT_.w_kind z (0)) hs_397)).trans rfl
            exact g_vret B K rfl ⟨hU_670, hF_671, hG_381, (by (try simp only [f_390, hx_391, f_392, h_393, hx_398, f_399, h_400, h_402, (nlt h_402), if_true, if_false, mqM_tp, mqM_size, mqM_limit, mqM_to, mqM_frm, mqM_kind, mqM_number, mqM_sign, mqM_word, MT_.w_tp, MT_.w_size, MT_.w_limit, MT_.w_to, MT_.w_frm, MT_.w_kind, MT_.w_number, MT_.w_sign, MT_.w_word] at hQ_388); (try simp only [f_390, hx_391, f_392, h_393, hx_398, f_399, h_400, h_402, (nlt h_402), if_true, if_false, mqM_tp, mqM_size, mqM_limit, mqM_to, mqM_frm, mqM_kind, mqM_number, mqM_sign, mqM_word, MT_.w_tp, MT_.w_size, MT_.w_limit, MT_.w_to, MT_.w_frm, MT_.w_kind, MT_.w_number, MT_.w_sign, MT_.w_word] at u_389); simp only [mGo, mGo2, mGo3, mGoE, mSg, mStep, mGood, Int32.sub_self, (by decide : (7 ≤ (0 : Int32)) = False), (by decide : (3 ≤ (0 : Int32)) = False), (by decide : 10 * (0 : Int32) = 0), emqx, hs_672, hs_3, hQ_388, f_390, u_389, hx_391, f_392, h_393, hx_398, f_399, h_400, h_402, (nlt h_402), if_true, if_false, mqM_tp, mqM_size, mqM_limit, mqM_to, mqM_frm, mqM_kind, mqM_number, mqM_sign, mqM_word, MT_.w_tp, MT_.w_size, MT_.w_limit, MT_.w_to, MT_.w_frm, MT_.w_kind, MT_.w_number, MT_.w_sign, MT_.w_word]), (ps_mk hx_1 (kp_j hI_669 (by decide) (kp_j hI_394 (by decide) q_383)) (kp_s hI_669) (by have := hj_385; omega) (Or.inr (by have := (rc_0).2; omega)))⟩ dX12_go_112
        · skip
          have r_673 := lt_r (lo := 1) (nle h_400) rx_398 rx_391 (by decide)
          refine g_aload_n C 0 dX12_go_71 rfl rfl ?_
          refine g_getI C K hLx hkx f_12_98 (v := v_382) (kp_s hI_394) dX12_go_72 ?_
          refine g_aload_n C 0 dX12_go_75 rfl rfl ?_
          refine g_getI C K hLx hkx f_12_101 (v := x_398) hx_398 dX12_go_76 ?_
          refine g_icmp_lt C (tgt := 96) dX12_go_79 (by decide) (fun h_674 => ?_) (fun h_674 => ?_)
          · skip
            have r_675 := lt_l (hi := 899) (h_674) rv_382 rx_398 (by decide)
            have r_676 := lt_r (lo := 1) (h_674) rv_382 rx_398 (by decide)
            refine g_aload_n C 0 dX12_go_96 rfl rfl ?_
            refine g_getI C K hLx hkx f_12_95 (v := v_382) (kp_j hI_394 (by decide) q_383) dX12_go_97 ?_
            refine g_aload_n C 0 dX12_go_100 rfl rfl ?_
            refine g_getI C K hLx hkx f_12_92 (v := x_391) (kp_j hI_394 (by decide) hx_391) dX12_go_101 ?_
            refine g_icmp_lt C (tgt := 113) dX12_go_104 (by decide) (fun h_677 => ?_) (fun h_677 => ?_)
            · skip
              refine g_aload_n C 0 dX12_go_113 rfl rfl ?_
              refine g_getR C K hLx hkx f_12_7 hb_2 dX12_go_114 ?_
              refine g_aload_n C 0 dX12_go_117 rfl rfl ?_
              refine g_getI C K hLx hkx f_12_95 (v := v_382) (kp_j hI_394 (by decide) q_383) dX12_go_118 ?_
              obtain ⟨x_678, hx_678, rx_678⟩ := ex_getw (I := I_394) (a := b_2) (j := v_382.toNatClampNeg) (lo := 0) (hi := 255) hU_395.1 hb_2L (ro_a hb_2k (by decide) hb_2o hkx rfl) (rfl)
              refine h_iald C K hb_2L hb_2k (v := x_678) (v_382.toNatClampNeg) (rfl) (ix_0 r_675 (by decide)) (ix_lt r_675 (by decide) hb_2n (by decide)) hx_678 dX12_go_121 ?_
              have f_679 : s_387.tp (v_382.toNatClampNeg) = x_678 := (congrFun (congrArg MT_.tp hs_397) _).symm.trans hx_678
              refine g_istore_n C dX12_go_122 rfl (by decide) (lo2 := [(1, .int x_678), (0, .ref x)]) rfl ?_
              refine g_iload_n C 0 dX12_go_123 rfl rfl ?_
              refine g_callSI C K (c_X12_isLetter W9 x_678  hU_395) s_12_107 rfl ⟨rfl, rfl⟩ ⟨Nat.le_of_ble_eq_true rfl, Nat.le_of_ble_eq_true rfl⟩ (Nat.le_of_ble_eq_true rfl) ⟨Nat.le_of_ble_eq_true rfl, Nat.le_of_ble_eq_true rfl⟩ dX12_go_124 rfl (st := []) (fun x_680 I_681 J_682 h_683 => ?_)
              obtain ⟨rfl, rfl, rx_680, fx_680, ex_680⟩ := h_683
              have c_684 : isLc (x_678) = x_680 := fx_680.symm
              refine g_if_ne C (tgt := 198) dX12_go_127 (by decide) (fun h_685 => ?_) (fun h_685 => ?_)
              · skip
                have n_686 : ¬ x_680 = 0 := h_685
                have r_687 := ne_lo (lo := 1) n_686 rx_680 rc_0 rfl (by decide)
                have r_688 := rg_i rx_678 ((ex_680.2) n_686) (lo := 97) (hi := 122) (by decide) (by decide)
                refine g_iload_n C 0 dX12_go_198 rfl rfl ?_
                refine g_callSI C K (c_X12_isLetter W9 x_678  hU_395) s_12_107 rfl ⟨rfl, rfl⟩ ⟨Nat.le_of_ble_eq_true rfl, Nat.le_of_ble_eq_true rfl⟩ (Nat.le_of_ble_eq_true rfl) ⟨Nat.le_of_ble_eq_true rfl, Nat.le_of_ble_eq_true rfl⟩ dX12_go_199 rfl (st := []) (fun x_689 I_690 J_691 h_692 => ?_)
                obtain ⟨rfl, rfl, rx_689, fx_689, ex_689⟩ := h_692
                have c_693 : isLc (x_678) = x_689 := fx_689.symm
                have ec_693 : x_680 = x_689 := c_684.symm.trans c_693
                subst ec_693
                refine g_istore_n C dX12_go_202 rfl (by decide) (lo2 := [(2, .int x_680), (1, .int x_678), (0, .ref x)]) rfl ?_
                refine g_iconst C (v := 1) dX12_go_203 (by decide) ?_
                refine g_istore_n C dX12_go_204 rfl (by decide) (lo2 := [(3, .int 1), (2, .int x_680), (1, .int x_678), (0, .ref x)]) rfl ?_
                refine g_aload_n C 3 dX12_go_205 rfl rfl ?_
                refine g_lconst C (v := 0) dX12_go_206 (by decide) ?_
                refine h_putJ C K hLx hkx f_12_117 p_12_12 dX12_go_207 (fun J_694 hJ_694 => ?_)
                have hG_695 := fq_puto hG_381 hJ_694 hkx (by decide) (by decide)
                have hs_696 : MTq I_394 J_694 x b_2 = (MT_.w_word (MT_.w_frm s_387 (v_382)) (0)) := by rw [hJ_694]; exact ((mq_word wmqx).trans (congrArg (fun z : MT_ => MT_.w_word z (0)) hs_397)).trans rfl
                refine g_aload_n C 3 dX12_go_210 rfl rfl ?_
                refine g_iconst C (v := 0) dX12_go_211 (by decide) ?_
                refine h_putI C K hLx hkx f_12_121 p_12_8 dX12_go_212 (fun I_697 hI_697 => ?_)
                have hU_698 := iw_put W9 hU_395 hI_697 (ro_o hkx (by decide)) (lo := (-2147483648)) (hi := 2147483647) (rfl) (rg_all _) rfl
                have hF_699 := fq_puto hF_396 hI_697 hkx (by decide) (by decide)
                have hs_700 : MTq I_697 J_694 x b_2 = (MT_.w_number (MT_.w_word (MT_.w_frm s_387 (v_382)) (0)) (0)) := by rw [hI_697]; exact ((mq_number wmqx).trans (congrArg (fun z : MT_ => MT_.w_number z (0)) hs_696)).trans rfl
                have u_701 := mrun_eq (lt := x_680) (g := 1) (m := (MT_.w_number (MT_.w_word (MT_.w_frm s_387 (v_382)) (0)) (0))) ((congrArg MT_.to hs_700).symm.trans (kp_j hI_697 (by decide) (kp_j hI_394 (by decide) q_383))) (rg_w r_675 (by decide) (by decide))
                refine g_aload_n C 3 dX12_go_215 rfl rfl ?_
                refine g_aload_n C 3 dX12_go_216 rfl rfl ?_
                refine g_getI C K hLx hkx f_12_95 (v := v_382) (kp_j hI_697 (by decide) (kp_j hI_394 (by decide) q_383)) dX12_go_217 ?_
                refine g_callVI C K (c_X12_tapeAt W9 hLx hkx v_382 (rg_w r_675 (by decide) (by decide)) hU_698) hLx hkx (by decide) rfl v_12_124 rfl ⟨rfl, rfl⟩ ⟨Nat.le_of_ble_eq_true rfl, Nat.le_of_ble_eq_true rfl⟩ (Nat.le_of_ble_eq_true rfl) ⟨Nat.le_of_ble_eq_true rfl, Nat.le_of_ble_eq_true rfl⟩ dX12_go_220 rfl (st := []) (fun x_702 I_703 J_704 h_705 => ?_)
                obtain ⟨rfl, rfl, rx_702, fx_702, ex_702⟩ := h_705
                have c_706 : mTapeAt (v_382) ((MT_.w_number (MT_.w_word (MT_.w_frm s_387 (v_382)) (0)) (0))) = x_702 := by have q := fx_702; simp only [emqx, hs_700] at q; exact q.symm
                have r_707 := eq_rg ((ex_702.1 _ hb_2 (by rw [(kp_j hI_697 (by decide) (kp_j hI_394 (by decide) hx_391))]; exact h_677)).trans (kp_k (κ := κ) hI_697 (by rw [hb_2k, hkx]; decide) hx_678)) r_688
                refine g_callSI C K (c_X12_isLetter W9 x_702  hU_698) s_12_107 rfl ⟨rfl, rfl⟩ ⟨Nat.le_of_ble_eq_true rfl, Nat.le_of_ble_eq_true rfl⟩ (Nat.le_of_ble_eq_true rfl) ⟨Nat.le_of_ble_eq_true rfl, Nat.le_of_ble_eq_true rfl⟩ dX12_go_223 rfl (st := []) (fun x_708 I_709 J_710 h_711 => ?_)
                obtain ⟨rfl, rfl, rx_708, fx_708, ex_708⟩ := h_711
                have c_712 : isLc (x_702) = x_708 := fx_708.symm
                have n_713 : ¬ x_708 = 0 := by rcases ex_708.1 with q | q | q; exact q; exact absurd q (by have := (r_707).1; omega); exact absurd q (by have := (r_707).2; omega)
                have n_714 : ¬ x_708 = 0 := n_713
                have r_715 := ne_lo (lo := 1) n_714 rx_708 rc_0 rfl (by decide)
                refine g_if_ne C (tgt := 243) dX12_go_226 (by decide) (fun h_716 => ?_) (fun h_716 => ?_)
                · skip
                  have n_717 : ¬ x_708 = 0 := h_716
                  refine g_aload_n C 3 dX12_go_243 rfl rfl ?_
                  refine g_getR C K hLx hkx f_12_7 hb_2 dX12_go_244 ?_
                  refine g_aload_n C 3 dX12_go_247 rfl rfl ?_
                  refine g_getI C K hLx hkx f_12_95 (v := v_382) (kp_j hI_697 (by decide) (kp_j hI_394 (by decide) q_383)) dX12_go_248 ?_
                  refine h_iald C K hb_2L hb_2k (v := x_678) (v_382.toNatClampNeg) (rfl) (ix_0 r_675 (by decide)) (ix_lt r_675 (by decide) hb_2n (by decide)) (kp_k (κ := κ) hI_697 (by rw [hb_2k, hkx]; decide) hx_678) dX12_go_251 ?_
                  refine g_istore C dX12_go_252 (by decide) (lo2 := [(4, .int x_678), (3, .int 1), (2, .int x_680), (1, .int x_678), (0, .ref x)]) rfl ?_
                  refine g_iload_n C 1 dX12_go_254 rfl rfl ?_
                  refine g_if_eq C (tgt := 271) dX12_go_255 (by decide) (fun h_719 => ?_) (fun h_719 => ?_)
                  · skip
                    exact absurd (h_719) (by decide)
                  · skip
                    refine g_iload C 0 dX12_go_258 rfl ?_
                    refine g_callSI C K (c_X12_isLetter W9 x_678  hU_698) s_12_107 rfl ⟨rfl, rfl⟩ ⟨Nat.le_of_ble_eq_true rfl, Nat.le_of_ble_eq_true rfl⟩ (Nat.le_of_ble_eq_true rfl) ⟨Nat.le_of_ble_eq_true rfl, Nat.le_of_ble_eq_true rfl⟩ dX12_go_260 rfl (st := []) (fun x_720 I_721 J_722 h_723 => ?_)
                    obtain ⟨rfl, rfl, rx_720, fx_720, ex_720⟩ := h_723
                    have c_724 : isLc (x_678) = x_720 := fx_720.symm
                    have ec_724 : x_680 = x_720 := c_684.symm.trans c_724
                    subst ec_724
                    refine g_iload_n C 2 dX12_go_263 rfl rfl ?_
                    refine g_icmp_ne C (tgt := 271) dX12_go_264 (by decide) (fun h_725 => ?_) (fun h_725 => ?_)
                    · skip
                      exact ne_no (h_725) r_687 r_687
                    · skip
                      refine g_iconst C (v := 1) dX12_go_267 (by decide) ?_
                      refine g_goto C (tgt := 272) dX12_go_268 (by decide) ?_
                      refine g_istore_n C dX12_go_272 rfl (by decide) (lo2 := [(3, .int 1), (4, .int x_678), (2, .int x_680), (1, .int x_678), (0, .ref x)]) rfl ?_
                      refine g_aload_n C 4 dX12_go_273 rfl rfl ?_
                      refine g_getI C K hLx hkx f_12_95 (v := v_382) (kp_j hI_697 (by decide) (kp_j hI_394 (by decide) q_383)) dX12_go_274 ?_
                      refine g_aload_n C 4 dX12_go_277 rfl rfl ?_
                      refine g_getI C K hLx hkx f_12_98 (v := v_382) (kp_j hI_697 (by decide) (kp_s hI_394)) dX12_go_278 ?_
                      refine g_isub C (v := 0) dX12_go_281 (Int32.sub_self _) ?_
                      refine g_bipush C (v := 7) dX12_go_282 (by decide) ?_
                      refine g_icmp_ge C (tgt := 307) dX12_go_284 (by decide) (fun h_726 => ?_) (fun h_726 => ?_)
                      · skip
                        exact absurd (h_726) (by decide)
                      · skip
                        refine g_aload_n C 4 dX12_go_287 rfl rfl ?_
                        refine g_ldc2 C kl_128 dX12_go_288 ?_
                        refine g_aload_n C 4 dX12_go_291 rfl rfl ?_
                        obtain ⟨y_727, hy_727⟩ : ∃ z, J_694 x 12 = z := ⟨_, rfl⟩
                        have e_728 : 0 = y_727 := (congrArg MT_.word hs_700).symm.trans hy_727
                        subst e_728
                        refine g_getJ C K hLx hkx f_12_117 (v := 0) hy_727 dX12_go_292 ?_
                        refine g_lmulE C dX12_go_295 (fun y_729 hy_729 => ?_)
                        refine g_iload C 1 dX12_go_296 rfl ?_
                        obtain ⟨y_730, hy_730⟩ : ∃ z, Int32.toInt64 x_678 = z := ⟨_, rfl⟩
                        refine g_i2l C (v := y_730) dX12_go_298 hy_730 ?_
                        refine g_laddE C dX12_go_299 (fun y_731 hy_731 => ?_)
                        refine g_ldc2 C kl_130 dX12_go_300 ?_
                        refine g_lsubE C dX12_go_303 (fun y_732 hy_732 => ?_)
                        refine h_putJ C K hLx hkx f_12_117 p_12_12 dX12_go_304 (fun J_733 hJ_733 => ?_)
                        have hG_734 := fq_puto hG_695 hJ_733 hkx (by decide) (by decide)
                        have hs_735 : MTq I_697 J_733 x b_2 = (MT_.w_word (MT_.w_number (MT_.w_frm s_387 (v_382)) (0)) (y_732)) := by rw [hJ_733]; exact ((mq_word wmqx).trans (congrArg (fun z : MT_ => MT_.w_word z (y_732)) hs_700)).trans rfl
                        refine g_aload_n C 4 dX12_go_307 rfl rfl ?_
                        refine g_getI C K hLx hkx f_12_95 (v := v_382) (kp_j hI_697 (by decide) (kp_j hI_394 (by decide) q_383)) dX12_go_308 ?_
                        refine g_aload_n C 4 dX12_go_311 rfl rfl ?_
                        refine g_getI C K hLx hkx f_12_98 (v := v_382) (kp_j hI_697 (by decide) (kp_s hI_394)) dX12_go_312 ?_
                        refine g_isub C (v := 0) dX12_go_315 (Int32.sub_self _) ?_
                        refine g_iconst C (v := 3) dX12_go_316 (by decide) ?_
                        refine g_icmp_ge C (tgt := 337) dX12_go_317 (by decide) (fun h_736 => ?_) (fun h_736 => ?_)
                        · skip
                          exact absurd (h_736) (by decide)
                        · skip
                          refine g_aload_n C 4 dX12_go_320 rfl rfl ?_
                          refine g_bipush C (v := 10) dX12_go_321 (by decide) ?_
                          refine g_aload_n C 4 dX12_go_323 rfl rfl ?_
                          refine g_getI C K hLx hkx f_12_121 (v := 0) (kp_s hI_697) dX12_go_324 ?_
                          refine g_imul C (v := 0) dX12_go_327 (by decide) ?_
                          refine g_iload C 1 dX12_go_328 rfl ?_
                          obtain ⟨x_737, hx_737, rx_737, tx_737⟩ := ex_add 97 122 rc_0 r_688 (by decide) (by decide) (by decide) (by decide)
                          refine g_iadd C (v := x_737) dX12_go_330 hx_737 ?_
                          refine g_bipush C (v := 48) dX12_go_331 (by decide) ?_
                          obtain ⟨x_738, hx_738, rx_738, tx_738⟩ := ex_sub 49 74 rx_737 rc_48 (by decide) (by decide) (by decide) (by decide)
                          refine g_isub C (v := x_738) dX12_go_333 hx_738 ?_
                          refine h_putI C K hLx hkx f_12_121 p_12_8 dX12_go_334 (fun I_739 hI_739 => ?_)
                          have hU_740 := iw_put W9 hU_698 hI_739 (ro_o hkx (by decide)) (lo := (-2147483648)) (hi := 2147483647) (rfl) (rg_all _) rfl
                          have hF_741 := fq_puto hF_699 hI_739 hkx (by decide) (by decide)
                          have hs_742 : MTq I_739 J_733 x b_2 = (MT_.w_number (MT_.w_word (MT_.w_frm s_387 (v_382)) (y_732)) (x_738)) := by rw [hI_739]; exact ((mq_number wmqx).trans (congrArg (fun z : MT_ => MT_.w_number z (x_738)) hs_735)).trans rfl
                          refine g_aload_n C 4 dX12_go_337 rfl rfl ?_
                          refine g_dup C dX12_go_338 rfl ?_
                          refine g_getI C K hLx hkx f_12_95 (v := v_382) (kp_j hI_739 (by decide) (kp_j hI_697 (by decide) (kp_j hI_394 (by decide) q_383))) dX12_go_339 ?_
                          refine g_iconst C (v := 1) dX12_go_342 (by decide) ?_
                          obtain ⟨x_743, hx_743, rx_743, tx_743⟩ := ex_add 1 900 r_675 rc_1 (by decide) (by decide) (by decide) (by decide)
                          refine g_iadd C (v := x_743) dX12_go_343 hx_743 ?_
                          refine h_putI C K hLx hkx f_12_95 p_12_5 dX12_go_344 (fun I_744 hI_744 => ?_)
                          have hU_745 := iw_put W9 hU_740 hI_744 (ro_o hkx (by decide)) (lo := 0) (hi := 940) (rfl) (rg_w rx_743 (by decide) (by decide)) rfl
                          have hF_746 := fq_puto hF_741 hI_744 hkx (by decide) (by decide)
                          have hs_747 : MTq I_744 J_733 x b_2 = (MT_.w_to (MT_.w_number (MT_.w_word (MT_.w_frm s_387 (v_382)) (y_732)) (x_738)) (x_743)) := by rw [hI_744]; exact ((mq_to wmqx).trans (congrArg (fun z : MT_ => MT_.w_to z (x_743)) hs_742)).trans rfl
                          refine g_goto C (tgt := 215) dX12_go_347 (by decide) ?_
                          refine g_lo (is := [4, 3, 2, 0, 1]) (lo2 := [(0, .ref x), (1, .int x_678), (2, .int x_680), (3, .int 1), (4, .int x_678)]) rfl ?_
                          exact l_215 940 I_744 J_733 hU_745 hF_746 hG_734 x_678 (rg_w r_688 (by decide) (by decide)) (rg_nek r_688 rc_10 (by decide)) (rg_nek r_688 rc_32 (by decide)) x_680 (rg_w r_687 (by decide) (by decide)) 1 (rg_w rc_1 (by decide) (by decide)) x_678 (rg_w r_688 (by decide) (by decide)) x_391 (r_673) x_398 (rg_w r_676 (by decide) (by decide)) x_743 (rg_w rx_743 (by decide) (by decide)) v_382 (r_675) x_738 (kp_j hI_744 (by decide) (kp_j hI_739 (by decide) (kp_j hI_697 (by decide) (kp_j hI_394 (by decide) hx_391)))) (kp_j hI_744 (by decide) (kp_j hI_739 (by decide) (kp_j hI_697 (by decide) hx_398))) (kp_s hI_744) (kp_j hI_744 (by decide) (kp_j hI_739 (by decide) (kp_j hI_697 (by decide) (kp_s hI_394)))) (kp_j hI_744 (by decide) (kp_s hI_739)) (by (try simp only [f_390, hx_391, f_392, h_393, hx_398, f_399, h_400, (nle h_400), h_674, h_677, hx_678, f_679, c_684, h_685, c_712, h_716, h_719, (eq_true h_725), h_726, (nle h_726), hy_727, hy_729, hy_730, hy_731, hy_732, h_736, (nle h_736), hx_737, hx_738, hx_743, if_true, if_false, mqM_tp, mqM_size, mqM_limit, mqM_to, mqM_frm, mqM_kind, mqM_number, mqM_sign, mqM_word, MT_.w_tp, MT_.w_size, MT_.w_limit, MT_.w_to, MT_.w_frm, MT_.w_kind, MT_.w_number, MT_.w_sign, MT_.w_word] at hQ_388); (try simp only [f_390, hx_391, f_392, h_393, hx_398, f_399, h_400, (nle h_400), h_674, h_677, hx_678, f_679, c_684, h_685, c_712, h_716, h_719, (eq_true h_725), h_726, (nle h_726), hy_727, hy_729, hy_730, hy_731, hy_732, h_736, (nle h_736), hx_737, hx_738, hx_743, if_true, if_false, mqM_tp, mqM_size, mqM_limit, mqM_to, mqM_frm, mqM_kind, mqM_number, mqM_sign, mqM_word, MT_.w_tp, MT_.w_size, MT_.w_limit, MT_.w_to, MT_.w_frm, MT_.w_kind, MT_.w_number, MT_.w_sign, MT_.w_word] at u_389); (try simp only [f_390, hx_391, f_392, h_393, hx_398, f_399, h_400, (nle h_400), h_674, h_677, hx_678, f_679, c_684, h_685, c_712, h_716, h_719, (eq_true h_725), h_726, (nle h_726), hy_727, hy_729, hy_730, hy_731, hy_732, h_736, (nle h_736), hx_737, hx_738, hx_743, if_true, if_false, mqM_tp, mqM_size, mqM_limit, mqM_to, mqM_frm, mqM_kind, mqM_number, mqM_sign, mqM_word, MT_.w_tp, MT_.w_size, MT_.w_limit, MT_.w_to, MT_.w_frm, MT_.w_kind, MT_.w_number, MT_.w_sign, MT_.w_word] at u_701); (try simp only [f_390, hx_391, f_392, h_393, hx_398, f_399, h_400, (nle h_400), h_674, h_677, hx_678, f_679, c_684, h_685, c_712, h_716, h_719, (eq_true h_725), h_726, (nle h_726), hy_727, hy_729, hy_730, hy_731, hy_732, h_736, (nle h_736), hx_737, hx_738, hx_743, if_true, if_false, mqM_tp, mqM_size, mqM_limit, mqM_to, mqM_frm, mqM_kind, mqM_number, mqM_sign, mqM_word, MT_.w_tp, MT_.w_size, MT_.w_limit, MT_.w_to, MT_.w_frm, MT_.w_kind, MT_.w_number, MT_.w_sign, MT_.w_word] at c_706); simp only [mGo, mGo2, mGo3, mGoE, mSg, mStep, mGood, Int32.sub_self, (by decide : (7 ≤ (0 : Int32)) = False), (by decide : (3 ≤ (0 : Int32)) = False), (by decide : 10 * (0 : Int32) = 0), emqx, hs_747, hs_3, hQ_388, f_390, u_389, hx_391, f_392, h_393, hx_398, f_399, h_400, (nle h_400), h_674, h_677, hx_678, f_679, c_684, h_685, u_701, c_706, c_712, h_716, h_719, (eq_true h_725), h_726, (nle h_726), hy_727, hy_729, hy_730, hy_731, hy_732, h_736, (nle h_736), hx_737, hx_738, hx_743, if_true, if_false, mqM_tp, mqM_size, mqM_limit, mqM_to, mqM_frm, mqM_kind, mqM_number, mqM_sign, mqM_word, MT_.w_tp, MT_.w_size, MT_.w_limit, MT_.w_to, MT_.w_frm, MT_.w_kind, MT_.w_number, MT_.w_sign, MT_.w_word]) (by have := hj_385; have := (ti_k tx_743 rc_1); omega) (ms_s (a := 1) (b := 940) (N := 940) (rg_w rx_743 (by decide) (by decide)) (by decide))
                · skip
                  exact eq_no (h_716) r_715 rc_0 (by decide)
              · skip
                have r_748 := (⟨(rx_680).1, (eq_rg (h_685) rc_0).2⟩ : Rg 0 0 x_680)
                refine g_iload_n C 0 dX12_go_130 rfl rfl ?_
                refine g_callSI C K (c_X12_isDigit W9 x_678  hU_395) s_12_111 rfl ⟨rfl, rfl⟩ ⟨Nat.le_of_ble_eq_true rfl, Nat.le_of_ble_eq_true rfl⟩ (Nat.le_of_ble_eq_true rfl) ⟨Nat.le_of_ble_eq_true rfl, Nat.le_of_ble_eq_true rfl⟩ dX12_go_131 rfl (st := []) (fun x_749 I_750 J_751 h_752 => ?_)
                obtain ⟨rfl, rfl, rx_749, fx_749, ex_749⟩ := h_752
                have c_753 : isDc (x_678) = x_749 := fx_749.symm
                refine g_if_ne C (tgt := 198) dX12_go_134 (by decide) (fun h_754 => ?_) (fun h_754 => ?_)
                · skip
                  have n_755 : ¬ x_749 = 0 := h_754
                  have r_756 := ne_lo (lo := 1) n_755 rx_749 rc_0 rfl (by decide)
                  have r_757 := rg_i rx_678 ((ex_749.2) n_755) (lo := 48) (hi := 57) (by decide) (by decide)
                  refine g_iload_n C 0 dX12_go_198 rfl rfl ?_
                  refine g_callSI C K (c_X12_isLetter W9 x_678  hU_395) s_12_107 rfl ⟨rfl, rfl⟩ ⟨Nat.le_of_ble_eq_true rfl, Nat.le_of_ble_eq_true rfl⟩ (Nat.le_of_ble_eq_true rfl) ⟨Nat.le_of_ble_eq_true rfl, Nat.le_of_ble_eq_true rfl⟩ dX12_go_199 rfl (st := []) (fun x_758 I_759 J_760 h_761 => ?_)
                  obtain ⟨rfl, rfl, rx_758, fx_758, ex_758⟩ := h_761
                  have c_762 : isLc (x_678) = x_758 := fx_758.symm
                  have ec_762 : x_680 = x_758 := c_684.symm.trans c_762
                  subst ec_762
                  refine g_istore_n C dX12_go_202 rfl (by decide) (lo2 := [(2, .int x_680), (1, .int x_678), (0, .ref x)]) rfl ?_
                  refine g_iconst C (v := 1) dX12_go_203 (by decide) ?_
                  refine g_istore_n C dX12_go_204 rfl (by decide) (lo2 := [(3, .int 1), (2, .int x_680), (1, .int x_678), (0, .ref x)]) rfl ?_
                  refine g_aload_n C 3 dX12_go_205 rfl rfl ?_
                  refine g_lconst C (v := 0) dX12_go_206 (by decide) ?_
                  refine h_putJ C K hLx hkx f_12_117 p_12_12 dX12_go_207 (fun J_763 hJ_763 => ?_)
                  have hG_764 := fq_puto hG_381 hJ_763 hkx (by decide) (by decide)
                  have hs_765 : MTq I_394 J_763 x b_2 = (MT_.w_word (MT_.w_frm s_387 (v_382)) (0)) := by rw [hJ_763]; exact ((mq_word wmqx).trans (congrArg (fun z : MT_ => MT_.w_word z (0)) hs_397)).trans rfl
                  refine g_aload_n C 3 dX12_go_210 rfl rfl ?_
                  refine g_iconst C (v := 0) dX12_go_211 (by decide) ?_
                  refine h_putI C K hLx hkx f_12_121 p_12_8 dX12_go_212 (fun I_766 hI_766 => ?_)
                  have hU_767 := iw_put W9 hU_395 hI_766 (ro_o hkx (by decide)) (lo := (-2147483648)) (hi := 2147483647) (rfl) (rg_all _) rfl
                  have hF_768 := fq_puto hF_396 hI_766 hkx (by decide) (by decide)
                  have hs_769 : MTq I_766 J_763 x b_2 = (MT_.w_number (MT_.w_word (MT_.w_frm s_387 (v_382)) (0)) (0)) := by rw [hI_766]; exact ((mq_number wmqx).trans (congrArg (fun z : MT_ => MT_.w_number z (0)) hs_765)).trans rfl
                  have u_770 := mrun_eq (lt := x_680) (g := 1) (m := (MT_.w_number (MT_.w_word (MT_.w_frm s_387 (v_382)) (0)) (0))) ((congrArg MT_.to hs_769).symm.trans (kp_j hI_766 (by decide) (kp_j hI_394 (by decide) q_383))) (rg_w r_675 (by decide) (by decide))
                  refine g_aload_n C 3 dX12_go_215 rfl rfl ?_
                  refine g_aload_n C 3 dX12_go_216 rfl rfl ?_
                  refine g_getI C K hLx hkx f_12_95 (v := v_382) (kp_j hI_766 (by decide) (kp_j hI_394 (by decide) q_383)) dX12_go_217 ?_
                  refine g_callVI C K (c_X12_tapeAt W9 hLx hkx v_382 (rg_w r_675 (by decide) (by decide)) hU_767) hLx hkx (by decide) rfl v_12_124 rfl ⟨rfl, rfl⟩ ⟨Nat.le_of_ble_eq_true rfl, Nat.le_of_ble_eq_true rfl⟩ (Nat.le_of_ble_eq_true rfl) ⟨Nat.le_of_ble_eq_true rfl, Nat.le_of_ble_eq_true rfl⟩ dX12_go_220 rfl (st := []) (fun x_771 I_772 J_773 h_774 => ?_)
                  obtain ⟨rfl, rfl, rx_771, fx_771, ex_771⟩ := h_774
                  have c_775 : mTapeAt (v_382) ((MT_.w_number (MT_.w_word (MT_.w_frm s_387 (v_382)) (0)) (0))) = x_771 := by have q := fx_771; simp only [emqx, hs_769] at q; exact q.symm
                  have r_776 := eq_rg ((ex_771.1 _ hb_2 (by rw [(kp_j hI_766 (by decide) (kp_j hI_394 (by decide) hx_391))]; exact h_677)).trans (kp_k (κ := κ) hI_766 (by rw [hb_2k, hkx]; decide) hx_678)) r_757
                  refine g_callSI C K (c_X12_isLetter W9 x_771  hU_767) s_12_107 rfl ⟨rfl, rfl⟩ ⟨Nat.le_of_ble_eq_true rfl, Nat.le_of_ble_eq_true rfl⟩ (Nat.le_of_ble_eq_true rfl) ⟨Nat.le_of_ble_eq_true rfl, Nat.le_of_ble_eq_true rfl⟩ dX12_go_223 rfl (st := []) (fun x_777 I_778 J_779 h_780 => ?_)
                  obtain ⟨rfl, rfl, rx_777, fx_777, ex_777⟩ := h_780
                  have c_781 : isLc (x_771) = x_777 := fx_777.symm
                  refine g_if_ne C (tgt := 243) dX12_go_226 (by decide) (fun h_782 => ?_) (fun h_782 => ?_)
                  · skip
                    have n_783 : ¬ x_777 = 0 := h_782
                    have r_784 := ne_lo (lo := 1) n_783 rx_777 rc_0 rfl (by decide)
                    have r_785 := rg_i r_776 ((ex_777.2) n_783) (lo := 97) (hi := 57) (by decide) (by decide)
                    exact rg_no r_785 (by decide)
                  · skip
                    have r_786 := (⟨(rx_777).1, (eq_rg (h_782) rc_0).2⟩ : Rg 0 0 x_777)
                    refine g_aload_n C 3 dX12_go_229 rfl rfl ?_
                    refine g_aload_n C 3 dX12_go_230 rfl rfl ?_
                    refine g_getI C K hLx hkx f_12_95 (v := v_382) (kp_j hI_766 (by decide) (kp_j hI_394 (by decide) q_383)) dX12_go_231 ?_
                    refine g_callVI C K (c_X12_tapeAt W9 hLx hkx v_382 (rg_w r_675 (by decide) (by decide)) hU_767) hLx hkx (by decide) rfl v_12_124 rfl ⟨rfl, rfl⟩ ⟨Nat.le_of_ble_eq_true rfl, Nat.le_of_ble_eq_true rfl⟩ (Nat.le_of_ble_eq_true rfl) ⟨Nat.le_of_ble_eq_true rfl, Nat.le_of_ble_eq_true rfl⟩ dX12_go_234 rfl (st := []) (fun x_787 I_788 J_789 h_790 => ?_)
                    obtain ⟨rfl, rfl, rx_787, fx_787, ex_787⟩ := h_790
                    have c_791 : mTapeAt (v_382) ((MT_.w_number (MT_.w_word (MT_.w_frm s_387 (v_382)) (0)) (0))) = x_787 := by have q := fx_787; simp only [emqx, hs_769] at q; exact q.symm
                    have ec_791 : x_771 = x_787 := c_775.symm.trans c_791
                    subst ec_791
                    refine g_callSI C K (c_X12_isDigit W9 x_771  hU_767) s_12_111 rfl ⟨rfl, rfl⟩ ⟨Nat.le_of_ble_eq_true rfl, Nat.le_of_ble_eq_true rfl⟩ (Nat.le_of_ble_eq_true rfl) ⟨Nat.le_of_ble_eq_true rfl, Nat.le_of_ble_eq_true rfl⟩ dX12_go_237 rfl (st := []) (fun x_792 I_793 J_794 h_795 => ?_)
                    obtain ⟨rfl, rfl, rx_792, fx_792, ex_792⟩ := h_795
                    have c_796 : isDc (x_771) = x_792 := fx_792.symm
                    have n_797 : ¬ x_792 = 0 := by rcases ex_792.1 with q | q | q; exact q; exact absurd q (by have := (r_776).1; omega); exact absurd q (by have := (r_776).2; omega)
                    have n_798 : ¬ x_792 = 0 := n_797
                    have r_799 := ne_lo (lo := 1) n_798 rx_792 rc_0 rfl (by decide)
                    refine g_if_eq C (tgt := 350) dX12_go_240 (by decide) (fun h_800 => ?_) (fun h_800 => ?_)
                    · skip
                      exact eq_no (h_800) r_799 rc_0 (by decide)
                    · skip
                      have n_801 : ¬ x_792 = 0 := h_800
                      refine g_aload_n C 3 dX12_go_243 rfl rfl ?_
                      refine g_getR C K hLx hkx f_12_7 hb_2 dX12_go_244 ?_
                      refine g_aload_n C 3 dX12_go_247 rfl rfl ?_
                      refine g_getI C K hLx hkx f_12_95 (v := v_382) (kp_j hI_766 (by decide) (kp_j hI_394 (by decide) q_383)) dX12_go_248 ?_
                      refine h_iald C K hb_2L hb_2k (v := x_678) (v_382.toNatClampNeg) (rfl) (ix_0 r_675 (by decide)) (ix_lt r_675 (by decide) hb_2n (by decide)) (kp_k (κ := κ) hI_766 (by rw [hb_2k, hkx]; decide) hx_678) dX12_go_251 ?_
                      refine g_istore C dX12_go_252 (by decide) (lo2 := [(4, .int x_678), (3, .int 1), (2, .int x_680), (1, .int x_678), (0, .ref x)]) rfl ?_
                      refine g_iload_n C 1 dX12_go_254 rfl rfl ?_
                      refine g_if_eq C (tgt := 271) dX12_go_255 (by decide) (fun h_803 => ?_) (fun h_803 => ?_)
                      · skip
                        exact absurd (h_803) (by decide)
                      · skip
                        refine g_iload C 0 dX12_go_258 rfl ?_
                        refine g_callSI C K (c_X12_isLetter W9 x_678  hU_767) s_12_107 rfl ⟨rfl, rfl⟩ ⟨Nat.le_of_ble_eq_true rfl, Nat.le_of_ble_eq_true rfl⟩ (Nat.le_of_ble_eq_true rfl) ⟨Nat.le_of_ble_eq_true rfl, Nat.le_of_ble_eq_true rfl⟩ dX12_go_260 rfl (st := []) (fun x_804 I_805 J_806 h_807 => ?_)
                        obtain ⟨rfl, rfl, rx_804, fx_804, ex_804⟩ := h_807
                        have c_808 : isLc (x_678) = x_804 := fx_804.symm
                        have ec_808 : x_680 = x_804 := c_684.symm.trans c_808
                        subst ec_808
                        refine g_iload_n C 2 dX12_go_263 rfl rfl ?_
                        refine g_icmp_ne C (tgt := 271) dX12_go_264 (by decide) (fun h_809 => ?_) (fun h_809 => ?_)
                        · skip
                          exact ne_no (h_809) r_748 r_748
                        · skip
                          refine g_iconst C (v := 1) dX12_go_267 (by decide) ?_
                          refine g_goto C (tgt := 272) dX12_go_268 (by decide) ?_
                          refine g_istore_n C dX12_go_272 rfl (by decide) (lo2 := [(3, .int 1), (4, .int x_678), (2, .int x_680), (1, .int x_678), (0, .ref x)]) rfl ?_
                          refine g_aload_n C 4 dX12_go_273 rfl rfl ?_
                          refine g_getI C K hLx hkx f_12_95 (v := v_382) (kp_j hI_766 (by decide) (kp_j hI_394 (by decide) q_383)) dX12_go_274 ?_
                          refine g_aload_n C 4 dX12_go_277 rfl rfl ?_
                          refine g_getI C K hLx hkx f_12_98 (v := v_382) (kp_j hI_766 (by decide) (kp_s hI_394)) dX12_go_278 ?_
                          refine g_isub C (v := 0) dX12_go_281 (Int32.sub_self _) ?_
                          refine g_bipush C (v := 7) dX12_go_282 (by decide) ?_
                          refine g_icmp_ge C (tgt := 307) dX12_go_284 (by decide) (fun h_810 => ?_) (fun h_810 => ?_)
                          · skip
                            exact absurd (h_810) (by decide)
                          · skip
                            refine g_aload_n C 4 dX12_go_287 rfl rfl ?_
                            refine g_ldc2 C kl_128 dX12_go_288 ?_
                            refine g_aload_n C 4 dX12_go_291 rfl rfl ?_
                            obtain ⟨y_811, hy_811⟩ : ∃ z, J_763 x 12 = z := ⟨_, rfl⟩
                            have e_812 : 0 = y_811 := (congrArg MT_.word hs_769).symm.trans hy_811
                            subst e_812
                            refine g_getJ C K hLx hkx f_12_117 (v := 0) hy_811 dX12_go_292 ?_
                            refine g_lmulE C dX12_go_295 (fun y_813 hy_813 => ?_)
                            refine g_iload C 1 dX12_go_296 rfl ?_
                            obtain ⟨y_814, hy_814⟩ : ∃ z, Int32.toInt64 x_678 = z := ⟨_, rfl⟩
                            refine g_i2l C (v := y_814) dX12_go_298 hy_814 ?_
                            refine g_laddE C dX12_go_299 (fun y_815 hy_815 => ?_)
                            refine g_ldc2 C kl_130 dX12_go_300 ?_
                            refine g_lsubE C dX12_go_303 (fun y_816 hy_816 => ?_)
                            refine h_putJ C K hLx hkx f_12_117 p_12_12 dX12_go_304 (fun J_817 hJ_817 => ?_)
                            have hG_818 := fq_puto hG_764 hJ_817 hkx (by decide) (by decide)
                            have hs_819 : MTq I_766 J_817 x b_2 = (MT_.w_word (MT_.w_number (MT_.w_frm s_387 (v_382)) (0)) (y_816)) := by rw [hJ_817]; exact ((mq_word wmqx).trans (congrArg (fun z : MT_ => MT_.w_word z (y_816)) hs_769)).trans rfl
                            refine g_aload_n C 4 dX12_go_307 rfl rfl ?_
                            refine g_getI C K hLx hkx f_12_95 (v := v_382) (kp_j hI_766 (by decide) (kp_j hI_394 (by decide) q_383)) dX12_go_308 ?_
                            refine g_aload_n C 4 dX12_go_311 rfl rfl ?_
                            refine g_getI C K hLx hkx f_12_98 (v := v_382) (kp_j hI_766 (by decide) (kp_s hI_394)) dX12_go_312 ?_
                            refine g_isub C (v := 0) dX12_go_315 (Int32.sub_self _) ?_
                            refine g_iconst C (v := 3) dX12_go_316 (by decide) ?_
                            refine g_icmp_ge C (tgt := 337) dX12_go_317 (by decide) (fun h_820 => ?_) (fun h_820 => ?_)
                            · skip
                              exact absurd (h_820) (by decide)
                            · skip
                              refine g_aload_n C 4 dX12_go_320 rfl rfl ?_
                              refine g_bipush C (v := 10) dX12_go_321 (by decide) ?_
                              refine g_aload_n C 4 dX12_go_323 rfl rfl ?_
                              refine g_getI C K hLx hkx f_12_121 (v := 0) (kp_s hI_766) dX12_go_324 ?_
                              refine g_imul C (v := 0) dX12_go_327 (by decide) ?_
                              refine g_iload C 1 dX12_go_328 rfl ?_
                              obtain ⟨x_821, hx_821, rx_821, tx_821⟩ := ex_add 48 57 rc_0 r_757 (by decide) (by decide) (by decide) (by decide)
                              refine g_iadd C (v := x_821) dX12_go_330 hx_821 ?_
                              refine g_bipush C (v := 48) dX12_go_331 (by decide) ?_
                              obtain ⟨x_822, hx_822, rx_822, tx_822⟩ := ex_sub 0 9 rx_821 rc_48 (by decide) (by decide) (by decide) (by decide)
                              refine g_isub C (v := x_822) dX12_go_333 hx_822 ?_
                              refine h_putI C K hLx hkx f_12_121 p_12_8 dX12_go_334 (fun I_823 hI_823 => ?_)
                              have hU_824 := iw_put W9 hU_767 hI_823 (ro_o hkx (by decide)) (lo := (-2147483648)) (hi := 2147483647) (rfl) (rg_all _) rfl
                              have hF_825 := fq_puto hF_768 hI_823 hkx (by decide) (by decide)
                              have hs_826 : MTq I_823 J_817 x b_2 = (MT_.w_number (MT_.w_word (MT_.w_frm s_387 (v_382)) (y_816)) (x_822)) := by rw [hI_823]; exact ((mq_number wmqx).trans (congrArg (fun z : MT_ => MT_.w_number z (x_822)) hs_819)).trans rfl
                              refine g_aload_n C 4 dX12_go_337 rfl rfl ?_
                              refine g_dup C dX12_go_338 rfl ?_
                              refine g_getI C K hLx hkx f_12_95 (v := v_382) (kp_j hI_823 (by decide) (kp_j hI_766 (by decide) (kp_j hI_394 (by decide) q_383))) dX12_go_339 ?_
                              refine g_iconst C (v := 1) dX12_go_342 (by decide) ?_
                              obtain ⟨x_827, hx_827, rx_827, tx_827⟩ := ex_add 1 900 r_675 rc_1 (by decide) (by decide) (by decide) (by decide)
                              refine g_iadd C (v := x_827) dX12_go_343 hx_827 ?_
                              refine h_putI C K hLx hkx f_12_95 p_12_5 dX12_go_344 (fun I_828 hI_828 => ?_)
                              have hU_829 := iw_put W9 hU_824 hI_828 (ro_o hkx (by decide)) (lo := 0) (hi := 940) (rfl) (rg_w rx_827 (by decide) (by decide)) rfl
                              have hF_830 := fq_puto hF_825 hI_828 hkx (by decide) (by decide)
                              have hs_831 : MTq I_828 J_817 x b_2 = (MT_.w_to (MT_.w_number (MT_.w_word (MT_.w_frm s_387 (v_382)) (y_816)) (x_822)) (x_827)) := by rw [hI_828]; exact ((mq_to wmqx).trans (congrArg (fun z : MT_ => MT_.w_to z (x_827)) hs_826)).trans rfl
                              refine g_goto C (tgt := 215) dX12_go_347 (by decide) ?_
                              refine g_lo (is := [4, 3, 2, 0, 1]) (lo2 := [(0, .ref x), (1, .int x_678), (2, .int x_680), (3, .int 1), (4, .int x_678)]) rfl ?_
                              exact l_215 940 I_828 J_817 hU_829 hF_830 hG_818 x_678 (rg_w r_757 (by decide) (by decide)) (rg_nek r_757 rc_10 (by decide)) (rg_nek r_757 rc_32 (by decide)) x_680 (rg_w r_748 (by decide) (by decide)) 1 (rg_w rc_1 (by decide) (by decide)) x_678 (rg_w r_757 (by decide) (by decide)) x_391 (r_673) x_398 (rg_w r_676 (by decide) (by decide)) x_827 (rg_w rx_827 (by decide) (by decide)) v_382 (r_675) x_822 (kp_j hI_828 (by decide) (kp_j hI_823 (by decide) (kp_j hI_766 (by decide) (kp_j hI_394 (by decide) hx_391)))) (kp_j hI_828 (by decide) (kp_j hI_823 (by decide) (kp_j hI_766 (by decide) hx_398))) (kp_s hI_828) (kp_j hI_828 (by decide) (kp_j hI_823 (by decide) (kp_j hI_766 (by decide) (kp_s hI_394)))) (kp_j hI_828 (by decide) (kp_s hI_823)) (by (try simp only [f_390, hx_391, f_392, h_393, hx_398, f_399, h_400, (nle h_400), h_674, h_677, hx_678, f_679, c_684, (eq_true h_685), c_753, h_754, c_781, (eq_true h_782), c_796, h_800, h_803, (eq_true h_809), h_810, (nle h_810), hy_811, hy_813, hy_814, hy_815, hy_816, h_820, (nle h_820), hx_821, hx_822, hx_827, if_true, if_false, mqM_tp, mqM_size, mqM_limit, mqM_to, mqM_frm, mqM_kind, mqM_number, mqM_sign, mqM_word, MT_.w_tp, MT_.w_size, MT_.w_limit, MT_.w_to, MT_.w_frm, MT_.w_kind, MT_.w_number, MT_.w_sign, MT_.w_word] at hQ_388); (try simp only [f_390, hx_391, f_392, h_393, hx_398, f_399, h_400, (nle h_400), h_674, h_677, hx_678, f_679, c_684, (eq_true h_685), c_753, h_754, c_781, (eq_true h_782), c_796, h_800, h_803, (eq_true h_809), h_810, (nle h_810), hy_811, hy_813, hy_814, hy_815, hy_816, h_820, (nle h_820), hx_821, hx_822, hx_827, if_true, if_false, mqM_tp, mqM_size, mqM_limit, mqM_to, mqM_frm, mqM_kind, mqM_number, mqM_sign, mqM_word, MT_.w_tp, MT_.w_size, MT_.w_limit, MT_.w_to, MT_.w_frm, MT_.w_kind, MT_.w_number, MT_.w_sign, MT_.w_word] at u_389); (try simp only [f_390, hx_391, f_392, h_393, hx_398, f_399, h_400, (nle h_400), h_674, h_677, hx_678, f_679, c_684, (eq_true h_685), c_753, h_754, c_781, (eq_true h_782), c_796, h_800, h_803, (eq_true h_809), h_810, (nle h_810), hy_811, hy_813, hy_814, hy_815, hy_816, h_820, (nle h_820), hx_821, hx_822, hx_827, if_true, if_false, mqM_tp, mqM_size, mqM_limit, mqM_to, mqM_frm, mqM_kind, mqM_number, mqM_sign, mqM_word, MT_.w_tp, MT_.w_size, MT_.w_limit, MT_.w_to, MT_.w_frm, MT_.w_kind, MT_.w_number, MT_.w_sign, MT_.w_word] at u_770); (try simp only [f_390, hx_391, f_392, h_393, hx_398, f_399, h_400, (nle h_400), h_674, h_677, hx_678, f_679, c_684, (eq_true h_685), c_753, h_754, c_781, (eq_true h_782), c_796, h_800, h_803, (eq_true h_809), h_810, (nle h_810), hy_811, hy_813, hy_814, hy_815, hy_816, h_820, (nle h_820), hx_821, hx_822, hx_827, if_true, if_false, mqM_tp, mqM_size, mqM_limit, mqM_to, mqM_frm, mqM_kind, mqM_number, mqM_sign, mqM_word, MT_.w_tp, MT_.w_size, MT_.w_limit, MT_.w_to, MT_.w_frm, MT_.w_kind, MT_.w_number, MT_.w_sign, MT_.w_word] at c_775); simp only [mGo, mGo2, mGo3, mGoE, mSg, mStep, mGood, Int32.sub_self, (by decide : (7 ≤ (0 : Int32)) = False), (by decide : (3 ≤ (0 : Int32)) = False), (by decide : 10 * (0 : Int32) = 0), emqx, hs_831, hs_3, hQ_388, f_390, u_389, hx_391, f_392, h_393, hx_398, f_399, h_400, (nle h_400), h_674, h_677, hx_678, f_679, c_684, (eq_true h_685), c_753, h_754, u_770, c_775, c_781, (eq_true h_782), c_796, h_800, h_803, (eq_true h_809), h_810, (nle h_810), hy_811, hy_813, hy_814, hy_815, hy_816, h_820, (nle h_820), hx_821, hx_822, hx_827, if_true, if_false, mqM_tp, mqM_size, mqM_limit, mqM_to, mqM_frm, mqM_kind, mqM_number, mqM_sign, mqM_word, MT_.w_tp, MT_.w_size, MT_.w_limit, MT_.w_to, MT_.w_frm, MT_.w_kind, MT_.w_number, MT_.w_sign, MT_.w_word]) (by have := hj_385; have := (ti_k tx_827 rc_1); omega) (ms_s (a := 1) (b := 940) (N := 940) (rg_w rx_827 (by decide) (by decide)) (by decide))
                · skip
                  have r_832 := (⟨(rx_749).1, (eq_rg (h_754) rc_0).2⟩ : Rg 0 0 x_749)
                  refine g_aload_n C 1 dX12_go_137 rfl rfl ?_
                  refine g_iload_n C 0 dX12_go_138 rfl rfl ?_
                  refine g_bipush C (v := 59) dX12_go_139 (by decide) ?_
                  refine g_icmp_eq C (tgt := 174) dX12_go_141 (by decide) (fun h_833 => ?_) (fun h_833 => ?_)
                  · skip
                    have r_834 := (⟨(eq_rg (h_833) rc_59).1, (eq_rg (h_833) rc_59).2⟩ : Rg 59 59 x_678)
                    refine g_iconst C (v := 4) dX12_go_174 (by decide) ?_
                    refine g_goto C (tgt := 179) dX12_go_175 (by decide) ?_
                    refine h_putI C K hLx hkx f_12_104 p_12_7 dX12_go_179 (fun I_835 hI_835 => ?_)
                    have hU_836 := iw_put W9 hU_395 hI_835 (ro_o hkx (by decide)) (lo := 0) (hi := 4) (rfl) (rg_w rc_4 (by decide) (by decide)) rfl
                    have hF_837 := fq_puto hF_396 hI_835 hkx (by decide) (by decide)
                    have hs_838 : MTq I_835 J_378 x b_2 = (MT_.w_kind (MT_.w_frm s_387 (v_382)) (4)) := by rw [hI_835]; exact ((mq_kind wmqx).trans (congrArg (fun z : MT_ => MT_.w_kind z (4)) hs_397)).trans rfl
                    refine g_aload_n C 1 dX12_go_182 rfl rfl ?_
                    refine g_iload_n C 0 dX12_go_183 rfl rfl ?_
                    refine h_putI C K hLx hkx f_12_114 p_12_9 dX12_go_184 (fun I_839 hI_839 => ?_)
                    have hU_840 := iw_put W9 hU_836 hI_839 (ro_o hkx (by decide)) (lo := (-2147483648)) (hi := 2147483647) (rfl) (rg_all _) rfl
                    have hF_841 := fq_puto hF_837 hI_839 hkx (by decide) (by decide)
                    have hs_842 : MTq I_839 J_378 x b_2 = (MT_.w_sign (MT_.w_kind (MT_.w_frm s_387 (v_382)) (4)) (x_678)) := by rw [hI_839]; exact ((mq_sign wmqx).trans (congrArg (fun z : MT_ => MT_.w_sign z (x_678)) hs_838)).trans rfl
                    refine g_aload_n C 1 dX12_go_187 rfl rfl ?_
                    refine g_dup C dX12_go_188 rfl ?_
                    refine g_getI C K hLx hkx f_12_95 (v := v_382) (kp_j hI_839 (by decide) (kp_j hI_835 (by decide) (kp_j hI_394 (by decide) q_383))) dX12_go_189 ?_
                    refine g_iconst C (v := 1) dX12_go_192 (by decide) ?_
                    obtain ⟨x_843, hx_843, rx_843, tx_843⟩ := ex_add 1 900 r_675 rc_1 (by decide) (by decide) (by decide) (by decide)
                    refine g_iadd C (v := x_843) dX12_go_193 hx_843 ?_
                    refine h_putI C K hLx hkx f_12_95 p_12_5 dX12_go_194 (fun I_844 hI_844 => ?_)
                    have hU_845 := iw_put W9 hU_840 hI_844 (ro_o hkx (by decide)) (lo := 0) (hi := 940) (rfl) (rg_w rx_843 (by decide) (by decide)) rfl
                    have hF_846 := fq_puto hF_841 hI_844 hkx (by decide) (by decide)
                    have hs_847 : MTq I_844 J_378 x b_2 = (MT_.w_to (MT_.w_sign (MT_.w_kind (MT_.w_frm s_387 (v_382)) (4)) (x_678)) (x_843)) := by rw [hI_844]; exact ((mq_to wmqx).trans (congrArg (fun z : MT_ => MT_.w_to z (x_843)) hs_842)).trans rfl
                    exact g_vret B K rfl ⟨hU_845, hF_846, hG_381, (by (try simp only [f_390, hx_391, f_392, h_393, hx_398, f_399, h_400, (nle h_400), h_674, h_677, hx_678, f_679, c_684, (eq_true h_685), c_753, (eq_true h_754), (eq_true h_833), hx_843, if_true, if_false, mqM_tp, mqM_size, mqM_limit, mqM_to, mqM_frm, mqM_kind, mqM_number, mqM_sign, mqM_word, MT_.w_tp, MT_.w_size, MT_.w_limit, MT_.w_to, MT_.w_frm, MT_.w_kind, MT_.w_number, MT_.w_sign, MT_.w_word] at hQ_388); (try simp only [f_390, hx_391, f_392, h_393, hx_398, f_399, h_400, (nle h_400), h_674, h_677, hx_678, f_679, c_684, (eq_true h_685), c_753, (eq_true h_754), (eq_true h_833), hx_843, if_true, if_false, mqM_tp, mqM_size, mqM_limit, mqM_to, mqM_frm, mqM_kind, mqM_number, mqM_sign, mqM_word, MT_.w_tp, MT_.w_size, MT_.w_limit, MT_.w_to, MT_.w_frm, MT_.w_kind, MT_.w_number, MT_.w_sign, MT_.w_word] at u_389); simp only [mGo, mGo2, mGo3, mGoE, mSg, mStep, mGood, Int32.sub_self, (by decide : (7 ≤ (0 : Int32)) = False), (by decide : (3 ≤ (0 : Int32)) = False), (by decide : 10 * (0 : Int32) = 0), emqx, hs_847, hs_3, hQ_388, f_390, u_389, hx_391, f_392, h_393, hx_398, f_399, h_400, (nle h_400), h_674, h_677, hx_678, f_679, c_684, (eq_true h_685), c_753, (eq_true h_754), (eq_true h_833), hx_843, if_true, if_false, mqM_tp, mqM_size, mqM_limit, mqM_to, mqM_frm, mqM_kind, mqM_number, mqM_sign, mqM_word, MT_.w_tp, MT_.w_size, MT_.w_limit, MT_.w_to, MT_.w_frm, MT_.w_kind, MT_.w_number, MT_.w_sign, MT_.w_word]), (ps_mk hx_1 (kp_s hI_844) (kp_j hI_844 (by decide) (kp_j hI_839 (by decide) (kp_s hI_835))) (Int.le_of_lt (by have := hj_385; have := (ti_k tx_843 rc_1); omega)) (Or.inl (by have := hj_385; have := (ti_k tx_843 rc_1); omega)))⟩ dX12_go_197
                  · skip
                    have n_848 : ¬ x_678 = 59 := h_833
                    refine g_iload_n C 0 dX12_go_144 rfl rfl ?_
                    refine g_bipush C (v := 60) dX12_go_145 (by decide) ?_
                    refine g_icmp_eq C (tgt := 174) dX12_go_147 (by decide) (fun h_849 => ?_) (fun h_849 => ?_)
                    · skip
                      have r_850 := (⟨(eq_rg (h_849) rc_60).1, (eq_rg (h_849) rc_60).2⟩ : Rg 60 60 x_678)
                      refine g_iconst C (v := 4) dX12_go_174 (by decide) ?_
                      refine g_goto C (tgt := 179) dX12_go_175 (by decide) ?_
                      refine h_putI C K hLx hkx f_12_104 p_12_7 dX12_go_179 (fun I_851 hI_851 => ?_)
                      have hU_852 := iw_put W9 hU_395 hI_851 (ro_o hkx (by decide)) (lo := 0) (hi := 4) (rfl) (rg_w rc_4 (by decide) (by decide)) rfl
                      have hF_853 := fq_puto hF_396 hI_851 hkx (by decide) (by decide)
                      have hs_854 : MTq I_851 J_378 x b_2 = (MT_.w_kind (MT_.w_frm s_387 (v_382)) (4)) := by rw [hI_851]; exact ((mq_kind wmqx).trans (congrArg (fun z : MT_ => MT_.w_kind z (4)) hs_397)).trans rfl
                      refine g_aload_n C 1 dX12_go_182 rfl rfl ?_
                      refine g_iload_n C 0 dX12_go_183 rfl rfl ?_
                      refine h_putI C K hLx hkx f_12_114 p_12_9 dX12_go_184 (fun I_855 hI_855 => ?_)
                      have hU_856 := iw_put W9 hU_852 hI_855 (ro_o hkx (by decide)) (lo := (-2147483648)) (hi := 2147483647) (rfl) (rg_all _) rfl
                      have hF_857 := fq_puto hF_853 hI_855 hkx (by decide) (by decide)
                      have hs_858 : MTq I_855 J_378 x b_2 = (MT_.w_sign (MT_.w_kind (MT_.w_frm s_387 (v_382)) (4)) (x_678)) := by rw [hI_855]; exact ((mq_sign wmqx).trans (congrArg (fun z : MT_ => MT_.w_sign z (x_678)) hs_854)).trans rfl
                      refine g_aload_n C 1 dX12_go_187 rfl rfl ?_
                      refine g_dup C dX12_go_188 rfl ?_
                      refine g_getI C K hLx hkx f_12_95 (v := v_382) (kp_j hI_855 (by decide) (kp_j hI_851 (by decide) (kp_j hI_394 (by decide) q_383))) dX12_go_189 ?_
                      refine g_iconst C (v := 1) dX12_go_192 (by decide) ?_
                      obtain ⟨x_859, hx_859, rx_859, tx_859⟩ := ex_add 1 900 r_675 rc_1 (by decide) (by decide) (by decide) (by decide)
                      refine g_iadd C (v := x_859) dX12_go_193 hx_859 ?_
                      refine h_putI C K hLx hkx f_12_95 p_12_5 dX12_go_194 (fun I_860 hI_860 => ?_)
                      have hU_861 := iw_put W9 hU_856 hI_860 (ro_o hkx (by decide)) (lo := 0) (hi := 940) (rfl) (rg_w rx_859 (by decide) (by decide)) rfl
                      have hF_862 := fq_puto hF_857 hI_860 hkx (by decide) (by decide)
                      have hs_863 : MTq I_860 J_378 x b_2 = (MT_.w_to (MT_.w_sign (MT_.w_kind (MT_.w_frm s_387 (v_382)) (4)) (x_678)) (x_859)) := by rw [hI_860]; exact ((mq_to wmqx).trans (congrArg (fun z : MT_ => MT_.w_to z (x_859)) hs_858)).trans rfl
                      exact g_vret B K rfl ⟨hU_861, hF_862, hG_381, (by (try simp only [f_390, hx_391, f_392, h_393, hx_398, f_399, h_400, (nle h_400), h_674, h_677, hx_678, f_679, c_684, (eq_true h_685), c_753, (eq_true h_754), h_833, (eq_true h_849), hx_859, if_true, if_false, mqM_tp, mqM_size, mqM_limit, mqM_to, mqM_frm, mqM_kind, mqM_number, mqM_sign, mqM_word, MT_.w_tp, MT_.w_size, MT_.w_limit, MT_.w_to, MT_.w_frm, MT_.w_kind, MT_.w_number, MT_.w_sign, MT_.w_word] at hQ_388); (try simp only [f_390, hx_391, f_392, h_393, hx_398, f_399, h_400, (nle h_400), h_674, h_677, hx_678, f_679, c_684, (eq_true h_685), c_753, (eq_true h_754), h_833, (eq_true h_849), hx_859, if_true, if_false, mqM_tp, mqM_size, mqM_limit, mqM_to, mqM_frm, mqM_kind, mqM_number, mqM_sign, mqM_word, MT_.w_tp, MT_.w_size, MT_.w_limit, MT_.w_to, MT_.w_frm, MT_.w_kind, MT_.w_number, MT_.w_sign, MT_.w_word] at u_389); simp only [mGo, mGo2, mGo3, mGoE, mSg, mStep, mGood, Int32.sub_self, (by decide : (7 ≤ (0 : Int32)) = False), (by decide : (3 ≤ (0 : Int32)) = False), (by decide : 10 * (0 : Int32) = 0), emqx, hs_863, hs_3, hQ_388, f_390, u_389, hx_391, f_392, h_393, hx_398, f_399, h_400, (nle h_400), h_674, h_677, hx_678, f_679, c_684, (eq_true h_685), c_753, (eq_true h_754), h_833, (eq_true h_849), hx_859, if_true, if_false, mqM_tp, mqM_size, mqM_limit, mqM_to, mqM_frm, mqM_kind, mqM_number, mqM_sign, mqM_word, MT_.w_tp, MT_.w_size, MT_.w_limit, MT_.w_to, MT_.w_frm, MT_.w_kind, MT_.w_number, MT_.w_sign, MT_.w_word]), (ps_mk hx_1 (kp_s hI_860) (kp_j hI_860 (by decide) (kp_j hI_855 (by decide) (kp_s hI_851))) (Int.le_of_lt (by have := hj_385; have := (ti_k tx_859 rc_1); omega)) (Or.inl (by have := hj_385; have := (ti_k tx_859 rc_1); omega)))⟩ dX12_go_197
                    · skip
                      have n_864 : ¬ x_678 = 60 := h_849
                      refine g_iload_n C 0 dX12_go_150 rfl rfl ?_
                      refine g_bipush C (v := 61) dX12_go_151 (by decide) ?_
                      refine g_icmp_eq C (tgt := 174) dX12_go_153 (by decide) (fun h_865 => ?_) (fun h_865 => ?_)
                      · skip
                        have r_866 := (⟨(eq_rg (h_865) rc_61).1, (eq_rg (h_865) rc_61).2⟩ : Rg 61 61 x_678)
                        refine g_iconst C (v := 4) dX12_go_174 (by decide) ?_
                        refine g_goto C (tgt := 179) dX12_go_175 (by decide) ?_
                        refine h_putI C K hLx hkx f_12_104 p_12_7 dX12_go_179 (fun I_867 hI_867 => ?_)
                        have hU_868 := iw_put W9 hU_395 hI_867 (ro_o hkx (by decide)) (lo := 0) (hi := 4) (rfl) (rg_w rc_4 (by decide) (by decide)) rfl
                        have hF_869 := fq_puto hF_396 hI_867 hkx (by decide) (by decide)
                        have hs_870 : MTq I_867 J_378 x b_2 = (MT_.w_kind (MT_.w_frm s_387 (v_382)) (4)) := by rw [hI_867]; exact ((mq_kind wmqx).trans (congrArg (fun z : MT_ => MT_.w_kind z (4)) hs_397)).trans rfl
                        refine g_aload_n C 1 dX12_go_182 rfl rfl ?_
                        refine g_iload_n C 0 dX12_go_183 rfl rfl ?_
                        refine h_putI C K hLx hkx f_12_114 p_12_9 dX12_go_184 (fun I_871 hI_871 => ?_)
                        have hU_872 := iw_put W9 hU_868 hI_871 (ro_o hkx (by decide)) (lo := (-2147483648)) (hi := 2147483647) (rfl) (rg_all _) rfl
                        have hF_873 := fq_puto hF_869 hI_871 hkx (by decide) (by decide)
                        have hs_874 : MTq I_871 J_378 x b_2 = (MT_.w_sign (MT_.w_kind (MT_.w_frm s_387 (v_382)) (4)) (x_678)) := by rw [hI_871]; exact ((mq_sign wmqx).trans (congrArg (fun z : MT_ => MT_.w_sign z (x_678)) hs_870)).trans rfl
                        refine g_aload_n C 1 dX12_go_187 rfl rfl ?_
                        refine g_dup C dX12_go_188 rfl ?_
                        refine g_getI C K hLx hkx f_12_95 (v := v_382) (kp_j hI_871 (by decide) (kp_j hI_867 (by decide) (kp_j hI_394 (by decide) q_383))) dX12_go_189 ?_
                        refine g_iconst C (v := 1) dX12_go_192 (by decide) ?_
                        obtain ⟨x_875, hx_875, rx_875, tx_875⟩ := ex_add 1 900 r_675 rc_1 (by decide) (by decide) (by decide) (by decide)
                        refine g_iadd C (v := x_875) dX12_go_193 hx_875 ?_
                        refine h_putI C K hLx hkx f_12_95 p_12_5 dX12_go_194 (fun I_876 hI_876 => ?_)
                        have hU_877 := iw_put W9 hU_872 hI_876 (ro_o hkx (by decide)) (lo := 0) (hi := 940) (rfl) (rg_w rx_875 (by decide) (by decide)) rfl
                        have hF_878 := fq_puto hF_873 hI_876 hkx (by decide) (by decide)
                        have hs_879 : MTq I_876 J_378 x b_2 = (MT_.w_to (MT_.w_sign (MT_.w_kind (MT_.w_frm s_387 (v_382)) (4)) (x_678)) (x_875)) := by rw [hI_876]; exact ((mq_to wmqx).trans (congrArg (fun z : MT_ => MT_.w_to z (x_875)) hs_874)).trans rfl
                        exact g_vret B K rfl ⟨hU_877, hF_878, hG_381, (by (try simp only [f_390, hx_391, f_392, h_393, hx_398, f_399, h_400, (nle h_400), h_674, h_677, hx_678, f_679, c_684, (eq_true h_685), c_753, (eq_true h_754), h_833, h_849, (eq_true h_865), hx_875, if_true, if_false, mqM_tp, mqM_size, mqM_limit, mqM_to, mqM_frm, mqM_kind, mqM_number, mqM_sign, mqM_word, MT_.w_tp, MT_.w_size, MT_.w_limit, MT_.w_to, MT_.w_frm, MT_.w_kind, MT_.w_number, MT_.w_sign, MT_.w_word] at hQ_388); (try simp only [f_390, hx_391, f_392, h_393, hx_398, f_399, h_400, (nle h_400), h_674, h_677, hx_678, f_679, c_684, (eq_true h_685), c_753, (eq_true h_754), h_833, h_849, (eq_true h_865), hx_875, if_true, if_false, mqM_tp, mqM_size, mqM_limit, mqM_to, mqM_frm, mqM_kind, mqM_number, mqM_sign, mqM_word, MT_.w_tp, MT_.w_size, MT_.w_limit, MT_.w_to, MT_.w_frm, MT_.w_kind, MT_.w_number, MT_.w_sign, MT_.w_word] at u_389); simp only [mGo, mGo2, mGo3, mGoE, mSg, mStep, mGood, Int32.sub_self, (by decide : (7 ≤ (0 : Int32)) = False), (by decide : (3 ≤ (0 : Int32)) = False), (by decide : 10 * (0 : Int32) = 0), emqx, hs_879, hs_3, hQ_388, f_390, u_389, hx_391, f_392, h_393, hx_398, f_399, h_400, (nle h_400), h_674, h_677, hx_678, f_679, c_684, (eq_true h_685), c_753, (eq_true h_754), h_833, h_849, (eq_true h_865), hx_875, if_true, if_false, mqM_tp, mqM_size, mqM_limit, mqM_to, mqM_frm, mqM_kind, mqM_number, mqM_sign, mqM_word, MT_.w_tp, MT_.w_size, MT_.w_limit, MT_.w_to, MT_.w_frm, MT_.w_kind, MT_.w_number, MT_.w_sign, MT_.w_word]), (ps_mk hx_1 (kp_s hI_876) (kp_j hI_876 (by decide) (kp_j hI_871 (by decide) (kp_s hI_867))) (Int.le_of_lt (by have := hj_385; have := (ti_k tx_875 rc_1); omega)) (Or.inl (by have := hj_385; have := (ti_k tx_875 rc_1); omega)))⟩ dX12_go_197
                      · skip
                        have n_880 : ¬ x_678 = 61 := h_865
                        refine g_iload_n C 0 dX12_go_156 rfl rfl ?_
                        refine g_bipush C (v := 62) dX12_go_157 (by decide) ?_
                        refine g_icmp_eq C (tgt := 174) dX12_go_159 (by decide) (fun h_881 => ?_) (fun h_881 => ?_)
                        · skip
                          have r_882 := (⟨(eq_rg (h_881) rc_62).1, (eq_rg (h_881) rc_62).2⟩ : Rg 62 62 x_678)
                          refine g_iconst C (v := 4) dX12_go_174 (by decide) ?_
                          refine g_goto C (tgt := 179) dX12_go_175 (by decide) ?_
                          refine h_putI C K hLx hkx f_12_104 p_12_7 dX12_go_179 (fun I_883 hI_883 => ?_)
                          have hU_884 := iw_put W9 hU_395 hI_883 (ro_o hkx (by decide)) (lo := 0) (hi := 4) (rfl) (rg_w rc_4 (by decide) (by decide)) rfl
                          have hF_885 := fq_puto hF_396 hI_883 hkx (by decide) (by decide)
                          have hs_886 : MTq I_883 J_378 x b_2 = (MT_.w_kind (MT_.w_frm s_387 (v_382)) (4)) := by rw [hI_883]; exact ((mq_kind wmqx).trans (congrArg (fun z : MT_ => MT_.w_kind z (4)) hs_397)).trans rfl
                          refine g_aload_n C 1 dX12_go_182 rfl rfl ?_
                          refine g_iload_n C 0 dX12_go_183 rfl rfl ?_
                          refine h_putI C K hLx hkx f_12_114 p_12_9 dX12_go_184 (fun I_887 hI_887 => ?_)
                          have hU_888 := iw_put W9 hU_884 hI_887 (ro_o hkx (by decide)) (lo := (-2147483648)) (hi := 2147483647) (rfl) (rg_all _) rfl
                          have hF_889 := fq_puto hF_885 hI_887 hkx (by decide) (by decide)
                          have hs_890 : MTq I_887 J_378 x b_2 = (MT_.w_sign (MT_.w_kind (MT_.w_frm s_387 (v_382)) (4)) (x_678)) := by rw [hI_887]; exact ((mq_sign wmqx).trans (congrArg (fun z : MT_ => MT_.w_sign z (x_678)) hs_886)).trans rfl
                          refine g_aload_n C 1 dX12_go_187 rfl rfl ?_
                          refine g_dup C dX12_go_188 rfl ?_
                          refine g_getI C K hLx hkx f_12_95 (v := v_382) (kp_j hI_887 (by decide) (kp_j hI_883 (by decide) (kp_j hI_394 (by decide) q_383))) dX12_go_189 ?_
                          refine g_iconst C (v := 1) dX12_go_192 (by decide) ?_
                          obtain ⟨x_891, hx_891, rx_891, tx_891⟩ := ex_add 1 900 r_675 rc_1 (by decide) (by decide) (by decide) (by decide)
                          refine g_iadd C (v := x_891) dX12_go_193 hx_891 ?_
                          refine h_putI C K hLx hkx f_12_95 p_12_5 dX12_go_194 (fun I_892 hI_892 => ?_)
                          have hU_893 := iw_put W9 hU_888 hI_892 (ro_o hkx (by decide)) (lo := 0) (hi := 940) (rfl) (rg_w rx_891 (by decide) (by decide)) rfl
                          have hF_894 := fq_puto hF_889 hI_892 hkx (by decide) (by decide)
                          have hs_895 : MTq I_892 J_378 x b_2 = (MT_.w_to (MT_.w_sign (MT_.w_kind (MT_.w_frm s_387 (v_382)) (4)) (x_678)) (x_891)) := by rw [hI_892]; exact ((mq_to wmqx).trans (congrArg (fun z : MT_ => MT_.w_to z (x_891)) hs_890)).trans rfl
                          exact g_vret B K rfl ⟨hU_893, hF_894, hG_381, (by (try simp only [f_390, hx_391, f_392, h_393, hx_398, f_399, h_400, (nle h_400), h_674, h_677, hx_678, f_679, c_684, (eq_true h_685), c_753, (eq_true h_754), h_833, h_849, h_865, (eq_true h_881), hx_891, if_true, if_false, mqM_tp, mqM_size, mqM_limit, mqM_to, mqM_frm, mqM_kind, mqM_number, mqM_sign, mqM_word, MT_.w_tp, MT_.w_size, MT_.w_limit, MT_.w_to, MT_.w_frm, MT_.w_kind, MT_.w_number, MT_.w_sign, MT_.w_word] at hQ_388); (try simp only [f_390, hx_391, f_392, h_393, hx_398, f_399, h_400, (nle h_400), h_674, h_677, hx_678, f_679, c_684, (eq_true h_685), c_753, (eq_true h_754), h_833, h_849, h_865, (eq_true h_881), hx_891, if_true, if_false, mqM_tp, mqM_size, mqM_limit, mqM_to, mqM_frm, mqM_kind, mqM_number, mqM_sign, mqM_word, MT_.w_tp, MT_.w_size, MT_.w_limit, MT_.w_to, MT_.w_frm, MT_.w_kind, MT_.w_number, MT_.w_sign, MT_.w_word] at u_389); simp only [mGo, mGo2, mGo3, mGoE, mSg, mStep, mGood, Int32.sub_self, (by decide : (7 ≤ (0 : Int32)) = False), (by decide : (3 ≤ (0 : Int32)) = False), (by decide : 10 * (0 : Int32) = 0), emqx, hs_895, hs_3, hQ_388, f_390, u_389, hx_391, f_392, h_393, hx_398, f_399, h_400, (nle h_400), h_674, h_677, hx_678, f_679, c_684, (eq_true h_685), c_753, (eq_true h_754), h_833, h_849, h_865, (eq_true h_881), hx_891, if_true, if_false, mqM_tp, mqM_size, mqM_limit, mqM_to, mqM_frm, mqM_kind, mqM_number, mqM_sign, mqM_word, MT_.w_tp, MT_.w_size, MT_.w_limit, MT_.w_to, MT_.w_frm, MT_.w_kind, MT_.w_number, MT_.w_sign, MT_.w_word]), (ps_mk hx_1 (kp_s hI_892) (kp_j hI_892 (by decide) (kp_j hI_887 (by decide) (kp_s hI_883))) (Int.le_of_lt (by have := hj_385; have := (ti_k tx_891 rc_1); omega)) (Or.inl (by have := hj_385; have := (ti_k tx_891 rc_1); omega)))⟩ dX12_go_197
                        · skip
                          have n_896 : ¬ x_678 = 62 := h_881
                          refine g_iload_n C 0 dX12_go_162 rfl rfl ?_
                          refine g_bipush C (v := 40) dX12_go_163 (by decide) ?_
                          refine g_icmp_eq C (tgt := 174) dX12_go_165 (by decide) (fun h_897 => ?_) (fun h_897 => ?_)
                          · skip
                            have r_898 := (⟨(eq_rg (h_897) rc_40).1, (eq_rg (h_897) rc_40).2⟩ : Rg 40 40 x_678)
                            refine g_iconst C (v := 4) dX12_go_174 (by decide) ?_
                            refine g_goto C (tgt := 179) dX12_go_175 (by decide) ?_
                            refine h_putI C K hLx hkx f_12_104 p_12_7 dX12_go_179 (fun I_899 hI_899 => ?_)
                            have hU_900 := iw_put W9 hU_395 hI_899 (ro_o hkx (by decide)) (lo := 0) (hi := 4) (rfl) (rg_w rc_4 (by decide) (by decide)) rfl
                            have hF_901 := fq_puto hF_396 hI_899 hkx (by decide) (by decide)
                            have hs_902 : MTq I_899 J_378 x b_2 = (MT_.w_kind (MT_.w_frm s_387 (v_382)) (4)) := by rw [hI_899]; exact ((mq_kind wmqx).trans (congrArg (fun z : MT_ => MT_.w_kind z (4)) hs_397)).trans rfl
                            refine g_aload_n C 1 dX12_go_182 rfl rfl ?_
                            refine g_iload_n C 0 dX12_go_183 rfl rfl ?_
                            refine h_putI C K hLx hkx f_12_114 p_12_9 dX12_go_184 (fun I_903 hI_903 => ?_)
                            have hU_904 := iw_put W9 hU_900 hI_903 (ro_o hkx (by decide)) (lo := (-2147483648)) (hi := 2147483647) (rfl) (rg_all _) rfl
                            have hF_905 := fq_puto hF_901 hI_903 hkx (by decide) (by decide)
                            have hs_906 : MTq I_903 J_378 x b_2 = (MT_.w_sign (MT_.w_kind (MT_.w_frm s_387 (v_382)) (4)) (x_678)) := by rw [hI_903]; exact ((mq_sign wmqx).trans (congrArg (fun z : MT_ => MT_.w_sign z (x_678)) hs_902)).trans rfl
                            refine g_aload_n C 1 dX12_go_187 rfl rfl ?_
                            refine g_dup C dX12_go_188 rfl ?_
                            refine g_getI C K hLx hkx f_12_95 (v := v_382) (kp_j hI_903 (by decide) (kp_j hI_899 (by decide) (kp_j hI_394 (by decide) q_383))) dX12_go_189 ?_
                            refine g_iconst C (v := 1) dX12_go_192 (by decide) ?_
                            obtain ⟨x_907, hx_907, rx_907, tx_907⟩ := ex_add 1 900 r_675 rc_1 (by decide) (by decide) (by decide) (by decide)
                            refine g_iadd C (v := x_907) dX12_go_193 hx_907 ?_
                            refine h_putI C K hLx hkx f_12_95 p_12_5 dX12_go_194 (fun I_908 hI_908 => ?_)
                            have hU_909 := iw_put W9 hU_904 hI_908 (ro_o hkx (by decide)) (lo := 0) (hi := 940) (rfl) (rg_w rx_907 (by decide) (by decide)) rfl
                            have hF_910 := fq_puto hF_905 hI_908 hkx (by decide) (by decide)
                            have hs_911 : MTq I_908 J_378 x b_2 = (MT_.w_to (MT_.w_sign (MT_.w_kind (MT_.w_frm s_387 (v_382)) (4)) (x_678)) (x_907)) := by rw [hI_908]; exact ((mq_to wmqx).trans (congrArg (fun z : MT_ => MT_.w_to z (x_907)) hs_906)).trans rfl
                            exact g_vret B K rfl ⟨hU_909, hF_910, hG_381, (by (try simp only [f_390, hx_391, f_392, h_393, hx_398, f_399, h_400, (nle h_400), h_674, h_677, hx_678, f_679, c_684, (eq_true h_685), c_753, (eq_true h_754), h_833, h_849, h_865, h_881, (eq_true h_897), hx_907, if_true, if_false, mqM_tp, mqM_size, mqM_limit, mqM_to, mqM_frm, mqM_kind, mqM_number, mqM_sign, mqM_word, MT_.w_tp, MT_.w_size, MT_.w_limit, MT_.w_to, MT_.w_frm, MT_.w_kind, MT_.w_number, MT_.w_sign, MT_.w_word] at hQ_388); (try simp only [f_390, hx_391, f_392, h_393, hx_398, f_399, h_400, (nle h_400), h_674, h_677, hx_678, f_679, c_684, (eq_true h_685), c_753, (eq_true h_754), h_833, h_849, h_865, h_881, (eq_true h_897), hx_907, if_true, if_false, mqM_tp, mqM_size, mqM_limit, mqM_to, mqM_frm, mqM_kind, mqM_number, mqM_sign, mqM_word, MT_.w_tp, MT_.w_size, MT_.w_limit, MT_.w_to, MT_.w_frm, MT_.w_kind, MT_.w_number, MT_.w_sign, MT_.w_word] at u_389); simp only [mGo, mGo2, mGo3, mGoE, mSg, mStep, mGood, Int32.sub_self, (by decide : (7 ≤ (0 : Int32)) = False), (by decide : (3 ≤ (0 : Int32)) = False), (by decide : 10 * (0 : Int32) = 0), emqx, hs_911, hs_3, hQ_388, f_390, u_389, hx_391, f_392, h_393, hx_398, f_399, h_400, (nle h_400), h_674, h_677, hx_678, f_679, c_684, (eq_true h_685), c_753, (eq_true h_754), h_833, h_849, h_865, h_881, (eq_true h_897), hx_907, if_true, if_false, mqM_tp, mqM_size, mqM_limit, mqM_to, mqM_frm, mqM_kind, mqM_number, mqM_sign, mqM_word, MT_.w_tp, MT_.w_size, MT_.w_limit, MT_.w_to, MT_.w_frm, MT_.w_kind, MT_.w_number, MT_.w_sign, MT_.w_word]), (ps_mk hx_1 (kp_s hI_908) (kp_j hI_908 (by decide) (kp_j hI_903 (by decide) (kp_s hI_899))) (Int.le_of_lt (by have := hj_385; have := (ti_k tx_907 rc_1); omega)) (Or.inl (by have := hj_385; have := (ti_k tx_907 rc_1); omega)))⟩ dX12_go_197
                          · skip
                            have n_912 : ¬ x_678 = 40 := h_897
                            refine g_iload_n C 0 dX12_go_168 rfl rfl ?_
                            refine g_bipush C (v := 41) dX12_go_169 (by decide) ?_
                            refine g_icmp_ne C (tgt := 178) dX12_go_171 (by decide) (fun h_913 => ?_) (fun h_913 => ?_)
                            · skip
                              have n_914 : ¬ x_678 = 41 := h_913
                              refine g_iconst C (v := 1) dX12_go_178 (by decide) ?_
                              refine h_putI C K hLx hkx f_12_104 p_12_7 dX12_go_179 (fun I_915 hI_915 => ?_)
                              have hU_916 := iw_put W9 hU_395 hI_915 (ro_o hkx (by decide)) (lo := 0) (hi := 4) (rfl) (rg_w rc_1 (by decide) (by decide)) rfl
                              have hF_917 := fq_puto hF_396 hI_915 hkx (by decide) (by decide)
                              have hs_918 : MTq I_915 J_378 x b_2 = (MT_.w_kind (MT_.w_frm s_387 (v_382)) (1)) := by rw [hI_915]; exact ((mq_kind wmqx).trans (congrArg (fun z : MT_ => MT_.w_kind z (1)) hs_397)).trans rfl
                              refine g_aload_n C 1 dX12_go_182 rfl rfl ?_
                              refine g_iload_n C 0 dX12_go_183 rfl rfl ?_
                              refine h_putI C K hLx hkx f_12_114 p_12_9 dX12_go_184 (fun I_919 hI_919 => ?_)
                              have hU_920 := iw_put W9 hU_916 hI_919 (ro_o hkx (by decide)) (lo := (-2147483648)) (hi := 2147483647) (rfl) (rg_all _) rfl
                              have hF_921 := fq_puto hF_917 hI_919 hkx (by decide) (by decide)
                              have hs_922 : MTq I_919 J_378 x b_2 = (MT_.w_sign (MT_.w_kind (MT_.w_frm s_387 (v_382)) (1)) (x_678)) := by rw [hI_919]; exact ((mq_sign wmqx).trans (congrArg (fun z : MT_ => MT_.w_sign z (x_678)) hs_918)).trans rfl
                              refine g_aload_n C 1 dX12_go_187 rfl rfl ?_
                              refine g_dup C dX12_go_188 rfl ?_
                              refine g_getI C K hLx hkx f_12_95 (v := v_382) (kp_j hI_919 (by decide) (kp_j hI_915 (by decide) (kp_j hI_394 (by decide) q_383))) dX12_go_189 ?_
                              refine g_iconst C (v := 1) dX12_go_192 (by decide) ?_
                              obtain ⟨x_923, hx_923, rx_923, tx_923⟩ := ex_add 1 900 r_675 rc_1 (by decide) (by decide) (by decide) (by decide)
                              refine g_iadd C (v := x_923) dX12_go_193 hx_923 ?_
                              refine h_putI C K hLx hkx f_12_95 p_12_5 dX12_go_194 (fun I_924 hI_924 => ?_)
                              have hU_925 := iw_put W9 hU_920 hI_924 (ro_o hkx (by decide)) (lo := 0) (hi := 940) (rfl) (rg_w rx_923 (by decide) (by decide)) rfl
                              have hF_926 := fq_puto hF_921 hI_924 hkx (by decide) (by decide)
                              have hs_927 : MTq I_924 J_378 x b_2 = (MT_.w_to (MT_.w_sign (MT_.w_kind (MT_.w_frm s_387 (v_382)) (1)) (x_678)) (x_923)) := by rw [hI_924]; exact ((mq_to wmqx).trans (congrArg (fun z : MT_ => MT_.w_to z (x_923)) hs_922)).trans rfl
                              exact g_vret B K rfl ⟨hU_925, hF_926, hG_381, (by (try simp only [f_390, hx_391, f_392, h_393, hx_398, f_399, h_400, (nle h_400), h_674, h_677, hx_678, f_679, c_684, (eq_true h_685), c_753, (eq_true h_754), h_833, h_849, h_865, h_881, h_897, h_913, hx_923, if_true, if_false, mqM_tp, mqM_size, mqM_limit, mqM_to, mqM_frm, mqM_kind, mqM_number, mqM_sign, mqM_word, MT_.w_tp, MT_.w_size, MT_.w_limit, MT_.w_to, MT_.w_frm, MT_.w_kind, MT_.w_number, MT_.w_sign, MT_.w_word] at hQ_388); (try simp only [f_390, hx_391, f_392, h_393, hx_398, f_399, h_400, (nle h_400), h_674, h_677, hx_678, f_679, c_684, (eq_true h_685), c_753, (eq_true h_754), h_833, h_849, h_865, h_881, h_897, h_913, hx_923, if_true, if_false, mqM_tp, mqM_size, mqM_limit, mqM_to, mqM_frm, mqM_kind, mqM_number, mqM_sign, mqM_word, MT_.w_tp, MT_.w_size, MT_.w_limit, MT_.w_to, MT_.w_frm, MT_.w_kind, MT_.w_number, MT_.w_sign, MT_.w_word] at u_389); simp only [mGo, mGo2, mGo3, mGoE, mSg, mStep, mGood, Int32.sub_self, (by decide : (7 ≤ (0 : Int32)) = False), (by decide : (3 ≤ (0 : Int32)) = False), (by decide : 10 * (0 : Int32) = 0), emqx, hs_927, hs_3, hQ_388, f_390, u_389, hx_391, f_392, h_393, hx_398, f_399, h_400, (nle h_400), h_674, h_677, hx_678, f_679, c_684, (eq_true h_685), c_753, (eq_true h_754), h_833, h_849, h_865, h_881, h_897, h_913, hx_923, if_true, if_false, mqM_tp, mqM_size, mqM_limit, mqM_to, mqM_frm, mqM_kind, mqM_number, mqM_sign, mqM_word, MT_.w_tp, MT_.w_size, MT_.w_limit, MT_.w_to, MT_.w_frm, MT_.w_kind, MT_.w_number, MT_.w_sign, MT_.w_word]), (ps_mk hx_1 (kp_s hI_924) (kp_j hI_924 (by decide) (kp_j hI_919 (by decide) (kp_s hI_915))) (by have := hj_385; have := (ti_k tx_923 rc_1); omega) (Or.inr (by have := (rc_1).2; omega)))⟩ dX12_go_197
                            · skip
                              have r_928 := (⟨(eq_rg (h_913) rc_41).1, (eq_rg (h_913) rc_41).2⟩ : Rg 41 41 x_678)
                              refine g_iconst C (v := 4) dX12_go_174 (by decide) ?_
                              refine g_goto C (tgt := 179) dX12_go_175 (by decide) ?_
                              refine h_putI C K hLx hkx f_12_104 p_12_7 dX12_go_179 (fun I_929 hI_929 => ?_)
                              have hU_930 := iw_put W9 hU_395 hI_929 (ro_o hkx (by decide)) (lo := 0) (hi := 4) (rfl) (rg_w rc_4 (by decide) (by decide)) rfl
                              have hF_931 := fq_puto hF_396 hI_929 hkx (by decide) (by decide)
                              have hs_932 : MTq I_929 J_378 x b_2 = (MT_.w_kind (MT_.w_frm s_387 (v_382)) (4)) := by rw [hI_929]; exact ((mq_kind wmqx).trans (congrArg (fun z : MT_ => MT_.w_kind z (4)) hs_397)).trans rfl
                              refine g_aload_n C 1 dX12_go_182 rfl rfl ?_
                              refine g_iload_n C 0 dX12_go_183 rfl rfl ?_
                              refine h_putI C K hLx hkx f_12_114 p_12_9 dX12_go_184 (fun I_933 hI_933 => ?_)
                              have hU_934 := iw_put W9 hU_930 hI_933 (ro_o hkx (by decide)) (lo := (-2147483648)) (hi := 2147483647) (rfl) (rg_all _) rfl
                              have hF_935 := fq_puto hF_931 hI_933 hkx (by decide) (by decide)
                              have hs_936 : MTq I_933 J_378 x b_2 = (MT_.w_sign (MT_.w_kind (MT_.w_frm s_387 (v_382)) (4)) (x_678)) := by rw [hI_933]; exact ((mq_sign wmqx).trans (congrArg (fun z : MT_ => MT_.w_sign z (x_678)) hs_932)).trans rfl
                              refine g_aload_n C 1 dX12_go_187 rfl rfl ?_
                              refine g_dup C dX12_go_188 rfl ?_
                              refine g_getI C K hLx hkx f_12_95 (v := v_382) (kp_j hI_933 (by decide) (kp_j hI_929 (by decide) (kp_j hI_394 (by decide) q_383))) dX12_go_189 ?_
                              refine g_iconst C (v := 1) dX12_go_192 (by decide) ?_
                              obtain ⟨x_937, hx_937, rx_937, tx_937⟩ := ex_add 1 900 r_675 rc_1 (by decide) (by decide) (by decide) (by decide)
                              refine g_iadd C (v := x_937) dX12_go_193 hx_937 ?_
                              refine h_putI C K hLx hkx f_12_95 p_12_5 dX12_go_194 (fun I_938 hI_938 => ?_)
                              have hU_939 := iw_put W9 hU_934 hI_938 (ro_o hkx (by decide)) (lo := 0) (hi := 940) (rfl) (rg_w rx_937 (by decide) (by decide)) rfl
                              have hF_940 := fq_puto hF_935 hI_938 hkx (by decide) (by decide)
                              have hs_941 : MTq I_938 J_378 x b_2 = (MT_.w_to (MT_.w_sign (MT_.w_kind (MT_.w_frm s_387 (v_382)) (4)) (x_678)) (x_937)) := by rw [hI_938]; exact ((mq_to wmqx).trans (congrArg (fun z : MT_ => MT_.w_to z (x_937)) hs_936)).trans rfl
                              exact g_vret B K rfl ⟨hU_939, hF_940, hG_381, (by (try simp only [f_390, hx_391, f_392, h_393, hx_398, f_399, h_400, (nle h_400), h_674, h_677, hx_678, f_679, c_684, (eq_true h_685), c_753, (eq_true h_754), h_833, h_849, h_865, h_881, h_897, (eq_true h_913), hx_937, if_true, if_false, mqM_tp, mqM_size, mqM_limit, mqM_to, mqM_frm, mqM_kind, mqM_number, mqM_sign, mqM_word, MT_.w_tp, MT_.w_size, MT_.w_limit, MT_.w_to, MT_.w_frm, MT_.w_kind, MT_.w_number, MT_.w_sign, MT_.w_word] at hQ_388); (try simp only [f_390, hx_391, f_392, h_393, hx_398, f_399, h_400, (nle h_400), h_674, h_677, hx_678, f_679, c_684, (eq_true h_685), c_753, (eq_true h_754), h_833, h_849, h_865, h_881, h_897, (eq_true h_913), hx_937, if_true, if_false, mqM_tp, mqM_size, mqM_limit, mqM_to, mqM_frm, mqM_kind, mqM_number, mqM_sign, mqM_word, MT_.w_tp, MT_.w_size, MT_.w_limit, MT_.w_to, MT_.w_frm, MT_.w_kind, MT_.w_number, MT_.w_sign, MT_.w_word] at u_389); simp only [mGo, mGo2, mGo3, mGoE, mSg, mStep, mGood, Int32.sub_self, (by decide : (7 ≤ (0 : Int32)) = False), (by decide : (3 ≤ (0 : Int32)) = False), (by decide : 10 * (0 : Int32) = 0), emqx, hs_941, hs_3, hQ_388, f_390, u_389, hx_391, f_392, h_393, hx_398, f_399, h_400, (nle h_400), h_674, h_677, hx_678, f_679, c_684, (eq_true h_685), c_753, (eq_true h_754), h_833, h_849, h_865, h_881, h_897, (eq_true h_913), hx_937, if_true, if_false, mqM_tp, mqM_size, mqM_limit, mqM_to, mqM_frm, mqM_kind, mqM_number, mqM_sign, mqM_word, MT_.w_tp, MT_.w_size, MT_.w_limit, MT_.w_to, MT_.w_frm, MT_.w_kind, MT_.w_number, MT_.w_sign, MT_.w_word]), (ps_mk hx_1 (kp_s hI_938) (kp_j hI_938 (by decide) (kp_j hI_933 (by decide) (kp_s hI_929))) (Int.le_of_lt (by have := hj_385; have := (ti_k tx_937 rc_1); omega)) (Or.inl (by have := hj_385; have := (ti_k tx_937 rc_1); omega)))⟩ dX12_go_197
            · skip
              have r_942 := le_l (nlt h_677) r_673 r_675
              have r_943 := le_r (nlt h_677) r_673 r_675
              refine g_aload_n C 0 dX12_go_107 rfl rfl ?_
              refine g_iconst C (v := 0) dX12_go_108 (by decide) ?_
              refine h_putI C K hLx hkx f_12_104 p_12_7 dX12_go_109 (fun I_944 hI_944 => ?_)
              have hU_945 := iw_put W9 hU_395 hI_944 (ro_o hkx (by decide)) (lo := 0) (hi := 4) (rfl) (rg_w rc_0 (by decide) (by decide)) rfl
              have hF_946 := fq_puto hF_396 hI_944 hkx (by decide) (by decide)
              have hs_947 : MTq I_944 J_378 x b_2 = (MT_.w_kind (MT_.w_frm s_387 (v_382)) (0)) := by rw [hI_944]; exact ((mq_kind wmqx).trans (congrArg (fun z : MT_ => MT_.w_kind z (0)) hs_397)).trans rfl
              exact g_vret B K rfl ⟨hU_945, hF_946, hG_381, (by first | ((try simp only [f_390, hx_391, f_392, h_393, hx_398, f_399, h_400, (nle h_400), h_674, h_677, (nlt h_677), if_true, if_false, mqM_tp, mqM_size, mqM_limit, mqM_to, mqM_frm, mqM_kind, mqM_number, mqM_sign, mqM_word, MT_.w_tp, MT_.w_size, MT_.w_limit, MT_.w_to, MT_.w_frm, MT_.w_kind, MT_.w_number, MT_.w_sign, MT_.w_word] at hQ_388); (try simp only [f_390, hx_391, f_392, h_393, hx_398, f_399, h_400, (nle h_400), h_674, h_677, (nlt h_677), if_true, if_false, mqM_tp, mqM_size, mqM_limit, mqM_to, mqM_frm, mqM_kind, mqM_number, mqM_sign, mqM_word, MT_.w_tp, MT_.w_size, MT_.w_limit, MT_.w_to, MT_.w_frm, MT_.w_kind, MT_.w_number, MT_.w_sign, MT_.w_word] at u_389); simp only [mGo, mGo2, mGo3, mGoE, mSg, mStep, mGood, Int32.sub_self, (by decide : (7 ≤ (0 : Int32)) = False), (by decide : (3 ≤ (0 : Int32)) = False), (by decide : 10 * (0 : Int32) = 0), emqx, hs_947, hs_3, hQ_388, f_390, u_389, hx_391, f_392, h_393, hx_398, f_399, h_400, (nle h_400), h_674, h_677, (nlt h_677), if_true, if_false, mqM_tp, mqM_size, mqM_limit, mqM_to, mqM_frm, mqM_kind, mqM_number, mqM_sign, mqM_word, MT_.w_tp, MT_.w_size, MT_.w_limit, MT_.w_to, MT_.w_frm, MT_.w_kind, MT_.w_number, MT_.w_sign, MT_.w_word]; done) | exact absurd (nle h_400) h_677), (ps_mk hx_1 (kp_j hI_944 (by decide) (kp_j hI_394 (by decide) q_383)) (kp_s hI_944) (by have := hj_385; omega) (Or.inr (by have := (rc_0).2; omega)))⟩ dX12_go_112
          · skip
            refine g_aload_n C 0 dX12_go_82 rfl rfl ?_
            refine g_aload_n C 0 dX12_go_83 rfl rfl ?_
            refine g_getI C K hLx hkx f_12_101 (v := x_398) hx_398 dX12_go_84 ?_
            refine h_putI C K hLx hkx f_12_98 p_12_6 dX12_go_87 (fun I_948 hI_948 => ?_)
            have hU_949 := iw_put W9 hU_395 hI_948 (ro_o hkx (by decide)) (lo := 0) (hi := 940) (rfl) (rg_w rx_398 (by decide) (by decide)) rfl
            have hF_950 := fq_puto hF_396 hI_948 hkx (by decide) (by decide)
            have hs_951 : MTq I_948 J_378 x b_2 = (MT_.w_frm s_387 (x_398)) := by rw [hI_948]; exact ((mq_frm wmqx).trans (congrArg (fun z : MT_ => MT_.w_frm z (x_398)) hs_397)).trans rfl
            refine g_aload_n C 0 dX12_go_90 rfl rfl ?_
            refine g_iconst C (v := 1) dX12_go_91 (by decide) ?_
            refine h_putI C K hLx hkx f_12_104 p_12_7 dX12_go_92 (fun I_952 hI_952 => ?_)
            have hU_953 := iw_put W9 hU_949 hI_952 (ro_o hkx (by decide)) (lo := 0) (hi := 4) (rfl) (rg_w rc_1 (by decide) (by decide)) rfl
            have hF_954 := fq_puto hF_950 hI_952 hkx (by decide) (by decide)
            have hs_955 : MTq I_952 J_378 x b_2 = (MT_.w_kind (MT_.w_frm s_387 (x_398)) (1)) := by rw [hI_952]; exact ((mq_kind wmqx).trans (congrArg (fun z : MT_ => MT_.w_kind z (1)) hs_951)).trans rfl
            exact g_vret B K rfl ⟨hU_953, hF_954, hG_381, (by first | ((try simp only [f_390, hx_391, f_392, h_393, hx_398, f_399, h_400, (nle h_400), h_674, (nlt h_674), if_true, if_false, mqM_tp, mqM_size, mqM_limit, mqM_to, mqM_frm, mqM_kind, mqM_number, mqM_sign, mqM_word, MT_.w_tp, MT_.w_size, MT_.w_limit, MT_.w_to, MT_.w_frm, MT_.w_kind, MT_.w_number, MT_.w_sign, MT_.w_word] at hQ_388); (try simp only [f_390, hx_391, f_392, h_393, hx_398, f_399, h_400, (nle h_400), h_674, (nlt h_674), if_true, if_false, mqM_tp, mqM_size, mqM_limit, mqM_to, mqM_frm, mqM_kind, mqM_number, mqM_sign, mqM_word, MT_.w_tp, MT_.w_size, MT_.w_limit, MT_.w_to, MT_.w_frm, MT_.w_kind, MT_.w_number, MT_.w_sign, MT_.w_word] at u_389); simp only [mGo, mGo2, mGo3, mGoE, mSg, mStep, mGood, Int32.sub_self, (by decide : (7 ≤ (0 : Int32)) = False), (by decide : (3 ≤ (0 : Int32)) = False), (by decide : 10 * (0 : Int32) = 0), emqx, hs_955, hs_3, hQ_388, f_390, u_389, hx_391, f_392, h_393, hx_398, f_399, h_400, (nle h_400), h_674, (nlt h_674), if_true, if_false, mqM_tp, mqM_size, mqM_limit, mqM_to, mqM_frm, mqM_kind, mqM_number, mqM_sign, mqM_word, MT_.w_tp, MT_.w_size, MT_.w_limit, MT_.w_to, MT_.w_frm, MT_.w_kind, MT_.w_number, MT_.w_sign, MT_.w_word]; done) | exact absurd (nle h_400) h_674), (ps_mk hx_1 (kp_j hI_952 (by decide) (kp_j hI_948 (by decide) (kp_j hI_394 (by decide) q_383))) (kp_s hI_952) (by have := hj_385; omega) (Or.inr (by have := (rc_1).2; omega)))⟩ dX12_go_95
      · skip
        have r_956 := lt_l (hi := 939) (nle h_393) rv_382 rx_391 (by decide)
        have r_957 := lt_r (lo := 1) (nle h_393) rv_382 rx_391 (by decide)
        refine g_aload_n C 0 dX12_go_11 rfl rfl ?_
        refine g_getR C K hLx hkx f_12_7 hb_2 dX12_go_12 ?_
        refine g_aload_n C 0 dX12_go_15 rfl rfl ?_
        refine g_getI C K hLx hkx f_12_95 (v := v_382) q_383 dX12_go_16 ?_
        obtain ⟨x_958, hx_958, rx_958⟩ := ex_getw (I := I_377) (a := b_2) (j := v_382.toNatClampNeg) (lo := 0) (hi := 255) hU_379.1 hb_2L (ro_a hb_2k (by decide) hb_2o hkx rfl) (rfl)
        refine h_iald C K hb_2L hb_2k (v := x_958) (v_382.toNatClampNeg) (rfl) (ix_0 r_956 (by decide)) (ix_lt r_956 (by decide) hb_2n (by decide)) hx_958 dX12_go_19 ?_
        have f_959 : s_387.tp (v_382.toNatClampNeg) = x_958 := (congrFun (congrArg MT_.tp hs_387) _).symm.trans hx_958
        refine g_bipush C (v := 32) dX12_go_20 (by decide) ?_
        refine g_icmp_eq C (tgt := 39) dX12_go_22 (by decide) (fun h_960 => ?_) (fun h_960 => ?_)
        · skip
          have r_961 := (⟨(eq_rg (h_960) rc_32).1, (eq_rg (h_960) rc_32).2⟩ : Rg 32 32 x_958)
          refine g_aload_n C 0 dX12_go_39 rfl rfl ?_
          refine g_dup C dX12_go_40 rfl ?_
          refine g_getI C K hLx hkx f_12_95 (v := v_382) q_383 dX12_go_41 ?_
          refine g_iconst C (v := 1) dX12_go_44 (by decide) ?_
          obtain ⟨x_962, hx_962, rx_962, tx_962⟩ := ex_add 1 940 r_956 rc_1 (by decide) (by decide) (by decide) (by decide)
          refine g_iadd C (v := x_962) dX12_go_45 hx_962 ?_
          refine h_putI C K hLx hkx f_12_95 p_12_5 dX12_go_46 (fun I_963 hI_963 => ?_)
          have hU_964 := iw_put W9 hU_379 hI_963 (ro_o hkx (by decide)) (lo := 0) (hi := 940) (rfl) (rg_w rx_962 (by decide) (by decide)) rfl
          have hF_965 := fq_puto hF_380 hI_963 hkx (by decide) (by decide)
          have hs_966 : MTq I_963 J_378 x b_2 = (MT_.w_to s_387 (x_962)) := by rw [hI_963]; exact ((mq_to wmqx).trans (congrArg (fun z : MT_ => MT_.w_to z (x_962)) hs_387)).trans rfl
          refine g_goto C (tgt := 0) dX12_go_49 (by decide) ?_
          refine g_lo (is := [0]) (lo2 := [(0, .ref x)]) rfl ?_
          exact ih_0 I_963 J_378 hU_964 hF_965 hG_381 x_962 (rg_w rx_962 (by decide) (by decide)) (kp_s hI_963) (by (try simp only [f_390, hx_391, f_392, h_393, (nle h_393), hx_958, f_959, (eq_true h_960), hx_962, if_true, if_false, mqM_tp, mqM_size, mqM_limit, mqM_to, mqM_frm, mqM_kind, mqM_number, mqM_sign, mqM_word, MT_.w_tp, MT_.w_size, MT_.w_limit, MT_.w_to, MT_.w_frm, MT_.w_kind, MT_.w_number, MT_.w_sign, MT_.w_word] at hQ_388); (try simp only [f_390, hx_391, f_392, h_393, (nle h_393), hx_958, f_959, (eq_true h_960), hx_962, if_true, if_false, mqM_tp, mqM_size, mqM_limit, mqM_to, mqM_frm, mqM_kind, mqM_number, mqM_sign, mqM_word, MT_.w_tp, MT_.w_size, MT_.w_limit, MT_.w_to, MT_.w_frm, MT_.w_kind, MT_.w_number, MT_.w_sign, MT_.w_word] at u_389); simp only [mGo2, mGo3, mGoE, mSg, mStep, mGood, Int32.sub_self, (by decide : (7 ≤ (0 : Int32)) = False), (by decide : (3 ≤ (0 : Int32)) = False), (by decide : 10 * (0 : Int32) = 0), emqx, hs_966, hs_3, hQ_388, f_390, u_389, hx_391, f_392, h_393, (nle h_393), hx_958, f_959, (eq_true h_960), hx_962, if_true, if_false, mqM_tp, mqM_size, mqM_limit, mqM_to, mqM_frm, mqM_kind, mqM_number, mqM_sign, mqM_word, MT_.w_tp, MT_.w_size, MT_.w_limit, MT_.w_to, MT_.w_frm, MT_.w_kind, MT_.w_number, MT_.w_sign, MT_.w_word]) (by have := hj_385; have := (ti_k tx_962 rc_1); omega) (ms_1 hm_386 (ti_k tx_962 rc_1) (by decide))
        · skip
          have n_967 : ¬ x_958 = 32 := h_960
          refine g_aload_n C 0 dX12_go_25 rfl rfl ?_
          refine g_getR C K hLx hkx f_12_7 hb_2 dX12_go_26 ?_
          refine g_aload_n C 0 dX12_go_29 rfl rfl ?_
          refine g_getI C K hLx hkx f_12_95 (v := v_382) q_383 dX12_go_30 ?_
          refine h_iald C K hb_2L hb_2k (v := x_958) (v_382.toNatClampNeg) (rfl) (ix_0 r_956 (by decide)) (ix_lt r_956 (by decide) hb_2n (by decide)) hx_958 dX12_go_33 ?_
          refine g_bipush C (v := 10) dX12_go_34 (by decide) ?_
          refine g_icmp_ne C (tgt := 52) dX12_go_36 (by decide) (fun h_969 => ?_) (fun h_969 => ?_)
          · skip
            have n_970 : ¬ x_958 = 10 := h_969
            refine g_aload_n C 0 dX12_go_52 rfl rfl ?_
            refine g_aload_n C 0 dX12_go_53 rfl rfl ?_
            refine g_getI C K hLx hkx f_12_95 (v := v_382) q_383 dX12_go_54 ?_
            refine h_putI C K hLx hkx f_12_98 p_12_6 dX12_go_57 (fun I_971 hI_971 => ?_)
            have hU_972 := iw_put W9 hU_379 hI_971 (ro_o hkx (by decide)) (lo := 0) (hi := 940) (rfl) (rg_w r_956 (by decide) (by decide)) rfl
            have hF_973 := fq_puto hF_380 hI_971 hkx (by decide) (by decide)
            have hs_974 : MTq I_971 J_378 x b_2 = (MT_.w_frm s_387 (v_382)) := by rw [hI_971]; exact ((mq_frm wmqx).trans (congrArg (fun z : MT_ => MT_.w_frm z (v_382)) hs_387)).trans rfl
            refine g_aload_n C 0 dX12_go_60 rfl rfl ?_
            refine g_getI C K hLx hkx f_12_92 (v := x_391) (kp_j hI_971 (by decide) hx_391) dX12_go_61 ?_
            refine g_aload_n C 0 dX12_go_64 rfl rfl ?_
            obtain ⟨x_975, hx_975, rx_975⟩ := ex_getw (I := I_971) (a := x) (j := 4) (lo := 0) (hi := 900) hU_972.1 hLx (ro_o hkx (by decide)) rfl
            have f_976 : s_387.limit = x_975 := (congrArg MT_.limit hs_974).symm.trans hx_975
            refine g_getI C K hLx hkx f_12_101 (v := x_975) hx_975 dX12_go_65 ?_
            refine g_icmp_le C (tgt := 96) dX12_go_68 (by decide) (fun h_977 => ?_) (fun h_977 => ?_)
            · skip
              have r_978 := le_l (h_977) r_957 rx_975
              have r_979 := le_r (h_977) r_957 rx_975
              refine g_aload_n C 0 dX12_go_96 rfl rfl ?_
              refine g_getI C K hLx hkx f_12_95 (v := v_382) (kp_j hI_971 (by decide) q_383) dX12_go_97 ?_
              refine g_aload_n C 0 dX12_go_100 rfl rfl ?_
              refine g_getI C K hLx hkx f_12_92 (v := x_391) (kp_j hI_971 (by decide) hx_391) dX12_go_101 ?_
              refine g_icmp_lt C (tgt := 113) dX12_go_104 (by decide) (fun h_980 => ?_) (fun h_980 => ?_)
              · skip
                have r_981 := lt_l (hi := 899) (h_980) r_956 r_978 (by decide)
                refine g_aload_n C 0 dX12_go_113 rfl rfl ?_
                refine g_getR C K hLx hkx f_12_7 hb_2 dX12_go_114 ?_
                refine g_aload_n C 0 dX12_go_117 rfl rfl ?_
                refine g_getI C K hLx hkx f_12_95 (v := v_382) (kp_j hI_971 (by decide) q_383) dX12_go_118 ?_
                refine h_iald C K hb_2L hb_2k (v := x_958) (v_382.toNatClampNeg) (rfl) (ix_0 r_981 (by decide)) (ix_lt r_981 (by decide) hb_2n (by decide)) (kp_k (κ := κ) hI_971 (by rw [hb_2k, hkx]; decide) hx_958) dX12_go_121 ?_
                refine g_istore_n C dX12_go_122 rfl (by decide) (lo2 := [(1, .int x_958), (0, .ref x)]) rfl ?_
                refine g_iload_n C 0 dX12_go_123 rfl rfl ?_
                refine g_callSI C K (c_X12_isLetter W9 x_958  hU_972) s_12_107 rfl ⟨rfl, rfl⟩ ⟨Nat.le_of_ble_eq_true rfl, Nat.le_of_ble_eq_true rfl⟩ (Nat.le_of_ble_eq_true rfl) ⟨Nat.le_of_ble_eq_true rfl, Nat.le_of_ble_eq_true rfl⟩ dX12_go_124 rfl (st := []) (fun x_983 I_984 J_985 h_986 => ?_)
                obtain ⟨rfl, rfl, rx_983, fx_983, ex_983⟩ := h_986
                have c_987 : isLc (x_958) = x_983 := fx_983.symm
                refine g_if_ne C (tgt := 198) dX12_go_127 (by decide) (fun h_988 => ?_) (fun h_988 => ?_)
                · skip
                  have n_989 : ¬ x_983 = 0 := h_988
                  have r_990 := ne_lo (lo := 1) n_989 rx_983 rc_0 rfl (by decide)
                  have r_991 := rg_i rx_958 ((ex_983.2) n_989) (lo := 97) (hi := 122) (by decide) (by decide)
                  refine g_iload_n C 0 dX12_go_198 rfl rfl ?_
                  refine g_callSI C K (c_X12_isLetter W9 x_958  hU_972) s_12_107 rfl ⟨rfl, rfl⟩ ⟨Nat.le_of_ble_eq_true rfl, Nat.le_of_ble_eq_true rfl⟩ (Nat.le_of_ble_eq_true rfl) ⟨Nat.le_of_ble_eq_true rfl, Nat.le_of_ble_eq_true rfl⟩ dX12_go_199 rfl (st := []) (fun x_992 I_993 J_994 h_995 => ?_)
                  obtain ⟨rfl, rfl, rx_992, fx_992, ex_992⟩ := h_995
                  have c_996 : isLc (x_958) = x_992 := fx_992.symm
                  have ec_996 : x_983 = x_992 := c_987.symm.trans c_996
                  subst ec_996
                  refine g_istore_n C dX12_go_202 rfl (by decide) (lo2 := [(2, .int x_983), (1, .int x_958), (0, .ref x)]) rfl ?_
                  refine g_iconst C (v := 1) dX12_go_203 (by decide) ?_
                  refine g_istore_n C dX12_go_204 rfl (by decide) (lo2 := [(3, .int 1), (2, .int x_983), (1, .int x_958), (0, .ref x)]) rfl ?_
                  refine g_aload_n C 3 dX12_go_205 rfl rfl ?_
                  refine g_lconst C (v := 0) dX12_go_206 (by decide) ?_
                  refine h_putJ C K hLx hkx f_12_117 p_12_12 dX12_go_207 (fun J_997 hJ_997 => ?_)
                  have hG_998 := fq_puto hG_381 hJ_997 hkx (by decide) (by decide)
                  have hs_999 : MTq I_971 J_997 x b_2 = (MT_.w_word (MT_.w_frm s_387 (v_382)) (0)) := by rw [hJ_997]; exact ((mq_word wmqx).trans (congrArg (fun z : MT_ => MT_.w_word z (0)) hs_974)).trans rfl
                  refine g_aload_n C 3 dX12_go_210 rfl rfl ?_
                  refine g_iconst C (v := 0) dX12_go_211 (by decide) ?_
                  refine h_putI C K hLx hkx f_12_121 p_12_8 dX12_go_212 (fun I_1000 hI_1000 => ?_)
                  have hU_1001 := iw_put W9 hU_972 hI_1000 (ro_o hkx (by decide)) (lo := (-2147483648)) (hi := 2147483647) (rfl) (rg_all _) rfl
                  have hF_1002 := fq_puto hF_973 hI_1000 hkx (by decide) (by decide)
                  have hs_1003 : MTq I_1000 J_997 x b_2 = (MT_.w_number (MT_.w_word (MT_.w_frm s_387 (v_382)) (0)) (0)) := by rw [hI_1000]; exact ((mq_number wmqx).trans (congrArg (fun z : MT_ => MT_.w_number z (0)) hs_999)).trans rfl
                  have u_1004 := mrun_eq (lt := x_983) (g := 1) (m := (MT_.w_number (MT_.w_word (MT_.w_frm s_387 (v_382)) (0)) (0))) ((congrArg MT_.to hs_1003).symm.trans (kp_j hI_1000 (by decide) (kp_j hI_971 (by decide) q_383))) (rg_w r_981 (by decide) (by decide))
                  refine g_aload_n C 3 dX12_go_215 rfl rfl ?_
                  refine g_aload_n C 3 dX12_go_216 rfl rfl ?_
                  refine g_getI C K hLx hkx f_12_95 (v := v_382) (kp_j hI_1000 (by decide) (kp_j hI_971 (by decide) q_383)) dX12_go_217 ?_
                  refine g_callVI C K (c_X12_tapeAt W9 hLx hkx v_382 (rg_w r_981 (by decide) (by decide)) hU_1001) hLx hkx (by decide) rfl v_12_124 rfl ⟨rfl, rfl⟩ ⟨Nat.le_of_ble_eq_true rfl, Nat.le_of_ble_eq_true rfl⟩ (Nat.le_of_ble_eq_true rfl) ⟨Nat.le_of_ble_eq_true rfl, Nat.le_of_ble_eq_true rfl⟩ dX12_go_220 rfl (st := []) (fun x_1005 I_1006 J_1007 h_1008 => ?_)
                  obtain ⟨rfl, rfl, rx_1005, fx_1005, ex_1005⟩ := h_1008
                  have c_1009 : mTapeAt (v_382) ((MT_.w_number (MT_.w_word (MT_.w_frm s_387 (v_382)) (0)) (0))) = x_1005 := by have q := fx_1005; simp only [emqx, hs_1003] at q; exact q.symm
                  have r_1010 := eq_rg ((ex_1005.1 _ hb_2 (by rw [(kp_j hI_1000 (by decide) (kp_j hI_971 (by decide) hx_391))]; exact h_980)).trans (kp_k (κ := κ) hI_1000 (by rw [hb_2k, hkx]; decide) (kp_k (κ := κ) hI_971 (by rw [hb_2k, hkx]; decide) hx_958))) r_991
                  refine g_callSI C K (c_X12_isLetter W9 x_1005  hU_1001) s_12_107 rfl ⟨rfl, rfl⟩ ⟨Nat.le_of_ble_eq_true rfl, Nat.le_of_ble_eq_true rfl⟩ (Nat.le_of_ble_eq_true rfl) ⟨Nat.le_of_ble_eq_true rfl, Nat.le_of_ble_eq_true rfl⟩ dX12_go_223 rfl (st := []) (fun x_1011 I_1012 J_1013 h_1014 => ?_)
                  obtain ⟨rfl, rfl, rx_1011, fx_1011, ex_1011⟩ := h_1014
                  have c_1015 : isLc (x_1005) = x_1011 := fx_1011.symm
                  have n_1016 : ¬ x_1011 = 0 := by rcases ex_1011.1 with q | q | q; exact q; exact absurd q (by have := (r_1010).1; omega); exact absurd q (by have := (r_1010).2; omega)
                  have n_1017 : ¬ x_1011 = 0 := n_1016
                  have r_1018 := ne_lo (lo := 1) n_1017 rx_1011 rc_0 rfl (by decide)
                  refine g_if_ne C (tgt := 243) dX12_go_226 (by decide) (fun h_1019 => ?_) (fun h_1019 => ?_)
                  · skip
                    have n_1020 : ¬ x_1011 = 0 := h_1019
                    refine g_aload_n C 3 dX12_go_243 rfl rfl ?_
                    refine g_getR C K hLx hkx f_12_7 hb_2 dX12_go_244 ?_
                    refine g_aload_n C 3 dX12_go_247 rfl rfl ?_
                    refine g_getI C K hLx hkx f_12_95 (v := v_382) (kp_j hI_1000 (by decide) (kp_j hI_971 (by decide) q_383)) dX12_go_248 ?_
                    refine h_iald C K hb_2L hb_2k (v := x_958) (v_382.toNatClampNeg) (rfl) (ix_0 r_981 (by decide)) (ix_lt r_981 (by decide) hb_2n (by decide)) (kp_k (κ := κ) hI_1000 (by rw [hb_2k, hkx]; decide) (kp_k (κ := κ) hI_971 (by rw [hb_2k, hkx]; decide) hx_958)) dX12_go_251 ?_
                    refine g_istore C dX12_go_252 (by decide) (lo2 := [(4, .int x_958), (3, .int 1), (2, .int x_983), (1, .int x_958), (0, .ref x)]) rfl ?_
                    refine g_iload_n C 1 dX12_go_254 rfl rfl ?_
                    refine g_if_eq C (tgt := 271) dX12_go_255 (by decide) (fun h_1022 => ?_) (fun h_1022 => ?_)
                    · skip
                      exact absurd (h_1022) (by decide)
                    · skip
                      refine g_iload C 0 dX12_go_258 rfl ?_
                      refine g_callSI C K (c_X12_isLetter W9 x_958  hU_1001) s_12_107 rfl ⟨rfl, rfl⟩ ⟨Nat.le_of_ble_eq_true rfl, Nat.le_of_ble_eq_true rfl⟩ (Nat.le_of_ble_eq_true rfl) ⟨Nat.le_of_ble_eq_true rfl, Nat.le_of_ble_eq_true rfl⟩ dX12_go_260 rfl (st := []) (fun x_1023 I_1024 J_1025 h_1026 => ?_)
                      obtain ⟨rfl, rfl, rx_1023, fx_1023, ex_1023⟩ := h_1026
                      have c_1027 : isLc (x_958) = x_1023 := fx_1023.symm
                      have ec_1027 : x_983 = x_1023 := c_987.symm.trans c_1027
                      subst ec_1027
                      refine g_iload_n C 2 dX12_go_263 rfl rfl ?_
                      refine g_icmp_ne C (tgt := 271) dX12_go_264 (by decide) (fun h_1028 => ?_) (fun h_1028 => ?_)
                      · skip
                        exact ne_no (h_1028) r_990 r_990
                      · skip
                        refine g_iconst C (v := 1) dX12_go_267 (by decide) ?_
                        refine g_goto C (tgt := 272) dX12_go_268 (by decide) ?_
                        refine g_istore_n C dX12_go_272 rfl (by decide) (lo2 := [(3, .int 1), (4, .int x_958), (2, .int x_983), (1, .int x_958), (0, .ref x)]) rfl ?_
                        refine g_aload_n C 4 dX12_go_273 rfl rfl ?_
                        refine g_getI C K hLx hkx f_12_95 (v := v_382) (kp_j hI_1000 (by decide) (kp_j hI_971 (by decide) q_383)) dX12_go_274 ?_
                        refine g_aload_n C 4 dX12_go_277 rfl rfl ?_
                        refine g_getI C K hLx hkx f_12_98 (v := v_382) (kp_j hI_1000 (by decide) (kp_s hI_971)) dX12_go_278 ?_
                        refine g_isub C (v := 0) dX12_go_281 (Int32.sub_self _) ?_
                        refine g_bipush C (v := 7) dX12_go_282 (by decide) ?_
                        refine g_icmp_ge C (tgt := 307) dX12_go_284 (by decide) (fun h_1029 => ?_) (fun h_1029 => ?_)
                        · skip
                          exact absurd (h_1029) (by decide)
                        · skip
                          refine g_aload_n C 4 dX12_go_287 rfl rfl ?_
                          refine g_ldc2 C kl_128 dX12_go_288 ?_
                          refine g_aload_n C 4 dX12_go_291 rfl rfl ?_
                          obtain ⟨y_1030, hy_1030⟩ : ∃ z, J_997 x 12 = z := ⟨_, rfl⟩
                          have e_1031 : 0 = y_1030 := (congrArg MT_.word hs_1003).symm.trans hy_1030
                          subst e_1031
                          refine g_getJ C K hLx hkx f_12_117 (v := 0) hy_1030 dX12_go_292 ?_
                          refine g_lmulE C dX12_go_295 (fun y_1032 hy_1032 => ?_)
                          refine g_iload C 1 dX12_go_296 rfl ?_
                          obtain ⟨y_1033, hy_1033⟩ : ∃ z, Int32.toInt64 x_958 = z := ⟨_, rfl⟩
                          refine g_i2l C (v := y_1033) dX12_go_298 hy_1033 ?_
                          refine g_laddE C dX12_go_299 (fun y_1034 hy_1034 => ?_)
                          refine g_ldc2 C kl_130 dX12_go_300 ?_
                          refine g_lsubE C dX12_go_303 (fun y_1035 hy_1035 => ?_)
                          refine h_putJ C K hLx hkx f_12_117 p_12_12 dX12_go_304 (fun J_1036 hJ_1036 => ?_)
                          have hG_1037 := fq_puto hG_998 hJ_1036 hkx (by decide) (by decide)
                          have hs_1038 : MTq I_1000 J_1036 x b_2 = (MT_.w_word (MT_.w_number (MT_.w_frm s_387 (v_382)) (0)) (y_1035)) := by rw [hJ_1036]; exact ((mq_word wmqx).trans (congrArg (fun z : MT_ => MT_.w_word z (y_1035)) hs_1003)).trans rfl
                          refine g_aload_n C 4 dX12_go_307 rfl rfl ?_
                          refine g_getI C K hLx hkx f_12_95 (v := v_382) (kp_j hI_1000 (by decide) (kp_j hI_971 (by decide) q_383)) dX12_go_308 ?_
                          refine g_aload_n C 4 dX12_go_311 rfl rfl ?_
                          refine g_getI C K hLx hkx f_12_98 (v := v_382) (kp_j hI_1000 (by decide) (kp_s hI_971)) dX12_go_312 ?_
                          refine g_isub C (v := 0) dX12_go_315 (Int32.sub_self _) ?_
                          refine g_iconst C (v := 3) dX12_go_316 (by decide) ?_
                          refine g_icmp_ge C (tgt := 337) dX12_go_317 (by decide) (fun h_1039 => ?_) (fun h_1039 => ?_)
                          · skip
                            exact absurd (h_1039) (by decide)
                          · skip
                            refine g_aload_n C 4 dX12_go_320 rfl rfl ?_
                            refine g_bipush C (v := 10) dX12_go_321 (by decide) ?_
                            refine g_aload_n C 4 dX12_go_323 rfl rfl ?_
                            refine g_getI C K hLx hkx f_12_121 (v := 0) (kp_s hI_1000) dX12_go_324 ?_
                            refine g_imul C (v := 0) dX12_go_327 (by decide) ?_
                            refine g_iload C 1 dX12_go_328 rfl ?_
                            obtain ⟨x_1040, hx_1040, rx_1040, tx_1040⟩ := ex_add 97 122 rc_0 r_991 (by decide) (by decide) (by decide) (by decide)
                            refine g_iadd C (v := x_1040) dX12_go_330 hx_1040 ?_
                            refine g_bipush C (v := 48) dX12_go_331 (by decide) ?_
                            obtain ⟨x_1041, hx_1041, rx_1041, tx_1041⟩ := ex_sub 49 74 rx_1040 rc_48 (by decide) (by decide) (by decide) (by decide)
                            refine g_isub C (v := x_1041) dX12_go_333 hx_1041 ?_
                            refine h_putI C K hLx hkx f_12_121 p_12_8 dX12_go_334 (fun I_1042 hI_1042 => ?_)
                            have hU_1043 := iw_put W9 hU_1001 hI_1042 (ro_o hkx (by decide)) (lo := (-2147483648)) (hi := 2147483647) (rfl) (rg_all _) rfl
                            have hF_1044 := fq_puto hF_1002 hI_1042 hkx (by decide) (by decide)
                            have hs_1045 : MTq I_1042 J_1036 x b_2 = (MT_.w_number (MT_.w_word (MT_.w_frm s_387 (v_382)) (y_1035)) (x_1041)) := by rw [hI_1042]; exact ((mq_number wmqx).trans (congrArg (fun z : MT_ => MT_.w_number z (x_1041)) hs_1038)).trans rfl
                            refine g_aload_n C 4 dX12_go_337 rfl rfl ?_
                            refine g_dup C dX12_go_338 rfl ?_
                            refine g_getI C K hLx hkx f_12_95 (v := v_382) (kp_j hI_1042 (by decide) (kp_j hI_1000 (by decide) (kp_j hI_971 (by decide) q_383))) dX12_go_339 ?_
                            refine g_iconst C (v := 1) dX12_go_342 (by decide) ?_
                            obtain ⟨x_1046, hx_1046, rx_1046, tx_1046⟩ := ex_add 1 900 r_981 rc_1 (by decide) (by decide) (by decide) (by decide)
                            refine g_iadd C (v := x_1046) dX12_go_343 hx_1046 ?_
                            refine h_putI C K hLx hkx f_12_95 p_12_5 dX12_go_344 (fun I_1047 hI_1047 => ?_)
                            have hU_1048 := iw_put W9 hU_1043 hI_1047 (ro_o hkx (by decide)) (lo := 0) (hi := 940) (rfl) (rg_w rx_1046 (by decide) (by decide)) rfl
                            have hF_1049 := fq_puto hF_1044 hI_1047 hkx (by decide) (by decide)
                            have hs_1050 : MTq I_1047 J_1036 x b_2 = (MT_.w_to (MT_.w_number (MT_.w_word (MT_.w_frm s_387 (v_382)) (y_1035)) (x_1041)) (x_1046)) := by rw [hI_1047]; exact ((mq_to wmqx).trans (congrArg (fun z : MT_ => MT_.w_to z (x_1046)) hs_1045)).trans rfl
                            refine g_goto C (tgt := 215) dX12_go_347 (by decide) ?_
                            refine g_lo (is := [4, 3, 2, 0, 1]) (lo2 := [(0, .ref x), (1, .int x_958), (2, .int x_983), (3, .int 1), (4, .int x_958)]) rfl ?_
                            exact l_215 940 I_1047 J_1036 hU_1048 hF_1049 hG_1037 x_958 (rg_w r_991 (by decide) (by decide)) (n_970) (n_967) x_983 (rg_w r_990 (by decide) (by decide)) 1 (rg_w rc_1 (by decide) (by decide)) x_958 (rg_w r_991 (by decide) (by decide)) x_391 (rg_w r_978 (by decide) (by decide)) x_975 (rg_w r_979 (by decide) (by decide)) x_1046 (rg_w rx_1046 (by decide) (by decide)) v_382 (r_981) x_1041 (kp_j hI_1047 (by decide) (kp_j hI_1042 (by decide) (kp_j hI_1000 (by decide) (kp_j hI_971 (by decide) hx_391)))) (kp_j hI_1047 (by decide) (kp_j hI_1042 (by decide) (kp_j hI_1000 (by decide) hx_975))) (kp_s hI_1047) (kp_j hI_1047 (by decide) (kp_j hI_1042 (by decide) (kp_j hI_1000 (by decide) (kp_s hI_971)))) (kp_j hI_1047 (by decide) (kp_s hI_1042)) (by (try simp only [f_390, hx_391, f_392, h_393, (nle h_393), hx_958, f_959, h_960, h_969, hx_975, f_976, h_977, h_980, c_987, h_988, c_1015, h_1019, h_1022, (eq_true h_1028), h_1029, (nle h_1029), hy_1030, hy_1032, hy_1033, hy_1034, hy_1035, h_1039, (nle h_1039), hx_1040, hx_1041, hx_1046, if_true, if_false, mqM_tp, mqM_size, mqM_limit, mqM_to, mqM_frm, mqM_kind, mqM_number, mqM_sign, mqM_word, MT_.w_tp, MT_.w_size, MT_.w_limit, MT_.w_to, MT_.w_frm, MT_.w_kind, MT_.w_number, MT_.w_sign, MT_.w_word] at hQ_388); (try simp only [f_390, hx_391, f_392, h_393, (nle h_393), hx_958, f_959, h_960, h_969, hx_975, f_976, h_977, h_980, c_987, h_988, c_1015, h_1019, h_1022, (eq_true h_1028), h_1029, (nle h_1029), hy_1030, hy_1032, hy_1033, hy_1034, hy_1035, h_1039, (nle h_1039), hx_1040, hx_1041, hx_1046, if_true, if_false, mqM_tp, mqM_size, mqM_limit, mqM_to, mqM_frm, mqM_kind, mqM_number, mqM_sign, mqM_word, MT_.w_tp, MT_.w_size, MT_.w_limit, MT_.w_to, MT_.w_frm, MT_.w_kind, MT_.w_number, MT_.w_sign, MT_.w_word] at u_389); (try simp only [f_390, hx_391, f_392, h_393, (nle h_393), hx_958, f_959, h_960, h_969, hx_975, f_976, h_977, h_980, c_987, h_988, c_1015, h_1019, h_1022, (eq_true h_1028), h_1029, (nle h_1029), hy_1030, hy_1032, hy_1033, hy_1034, hy_1035, h_1039, (nle h_1039), hx_1040, hx_1041, hx_1046, if_true, if_false, mqM_tp, mqM_size, mqM_limit, mqM_to, mqM_frm, mqM_kind, mqM_number, mqM_sign, mqM_word, MT_.w_tp, MT_.w_size, MT_.w_limit, MT_.w_to, MT_.w_frm, MT_.w_kind, MT_.w_number, MT_.w_sign, MT_.w_word] at u_1004); (try simp only [f_390, hx_391, f_392, h_393, (nle h_393), hx_958, f_959, h_960, h_969, hx_975, f_976, h_977, h_980, c_987, h_988, c_1015, h_1019, h_1022, (eq_true h_1028), h_1029, (nle h_1029), hy_1030, hy_1032, hy_1033, hy_1034, hy_1035, h_1039, (nle h_1039), hx_1040, hx_1041, hx_1046, if_true, if_false, mqM_tp, mqM_size, mqM_limit, mqM_to, mqM_frm, mqM_kind, mqM_number, mqM_sign, mqM_word, MT_.w_tp, MT_.w_size, MT_.w_limit, MT_.w_to, MT_.w_frm, MT_.w_kind, MT_.w_number, MT_.w_sign, MT_.w_word] at c_1009); simp only [mGo, mGo2, mGo3, mGoE, mSg, mStep, mGood, Int32.sub_self, (by decide : (7 ≤ (0 : Int32)) = False), (by decide : (3 ≤ (0 : Int32)) = False), (by decide : 10 * (0 : Int32) = 0), emqx, hs_1050, hs_3, hQ_388, f_390, u_389, hx_391, f_392, h_393, (nle h_393), hx_958, f_959, h_960, h_969, hx_975, f_976, h_977, h_980, c_987, h_988, u_1004, c_1009, c_1015, h_1019, h_1022, (eq_true h_1028), h_1029, (nle h_1029), hy_1030, hy_1032, hy_1033, hy_1034, hy_1035, h_1039, (nle h_1039), hx_1040, hx_1041, hx_1046, if_true, if_false, mqM_tp, mqM_size, mqM_limit, mqM_to, mqM_frm, mqM_kind, mqM_number, mqM_sign, mqM_word, MT_.w_tp, MT_.w_size, MT_.w_limit, MT_.w_to, MT_.w_frm, MT_.w_kind, MT_.w_number, MT_.w_sign, MT_.w_word]) (by have := hj_385; have := (ti_k tx_1046 rc_1); omega) (ms_s (a := 1) (b := 940) (N := 940) (rg_w rx_1046 (by decide) (by decide)) (by decide))
                  · skip
                    exact eq_no (h_1019) r_1018 rc_0 (by decide)
                · skip
                  have r_1051 := (⟨(rx_983).1, (eq_rg (h_988) rc_0).2⟩ : Rg 0 0 x_983)
                  refine g_iload_n C 0 dX12_go_130 rfl rfl ?_
                  refine g_callSI C K (c_X12_isDigit W9 x_958  hU_972) s_12_111 rfl ⟨rfl, rfl⟩ ⟨Nat.le_of_ble_eq_true rfl, Nat.le_of_ble_eq_true rfl⟩ (Nat.le_of_ble_eq_true rfl) ⟨Nat.le_of_ble_eq_true rfl, Nat.le_of_ble_eq_true rfl⟩ dX12_go_131 rfl (st := []) (fun x_1052 I_1053 J_1054 h_1055 => ?_)
                  obtain ⟨rfl, rfl, rx_1052, fx_1052, ex_1052⟩ := h_1055
                  have c_1056 : isDc (x_958) = x_1052 := fx_1052.symm
                  refine g_if_ne C (tgt := 198) dX12_go_134 (by decide) (fun h_1057 => ?_) (fun h_1057 => ?_)
                  · skip
                    have n_1058 : ¬ x_1052 = 0 := h_1057
                    have r_1059 := ne_lo (lo := 1) n_1058 rx_1052 rc_0 rfl (by decide)
                    have r_1060 := rg_i rx_958 ((ex_1052.2) n_1058) (lo := 48) (hi := 57) (by decide) (by decide)
                    refine g_iload_n C 0 dX12_go_198 rfl rfl ?_
                    refine g_callSI C K (c_X12_isLetter W9 x_958  hU_972) s_12_107 rfl ⟨rfl, rfl⟩ ⟨Nat.le_of_ble_eq_true rfl, Nat.le_of_ble_eq_true rfl⟩ (Nat.le_of_ble_eq_true rfl) ⟨Nat.le_of_ble_eq_true rfl, Nat.le_of_ble_eq_true rfl⟩ dX12_go_199 rfl (st := []) (fun x_1061 I_1062 J_1063 h_1064 => ?_)
                    obtain ⟨rfl, rfl, rx_1061, fx_1061, ex_1061⟩ := h_1064
                    have c_1065 : isLc (x_958) = x_1061 := fx_1061.symm
                    have ec_1065 : x_983 = x_1061 := c_987.symm.trans c_1065
                    subst ec_1065
                    refine g_istore_n C dX12_go_202 rfl (by decide) (lo2 := [(2, .int x_983), (1, .int x_958), (0, .ref x)]) rfl ?_
                    refine g_iconst C (v := 1) dX12_go_203 (by decide) ?_
                    refine g_istore_n C dX12_go_204 rfl (by decide) (lo2 := [(3, .int 1), (2, .int x_983), (1, .int x_958), (0, .ref x)]) rfl ?_
                    refine g_aload_n C 3 dX12_go_205 rfl rfl ?_
                    refine g_lconst C (v := 0) dX12_go_206 (by decide) ?_
                    refine h_putJ C K hLx hkx f_12_117 p_12_12 dX12_go_207 (fun J_1066 hJ_1066 => ?_)
                    have hG_1067 := fq_puto hG_381 hJ_1066 hkx (by decide) (by decide)
                    have hs_1068 : MTq I_971 J_1066 x b_2 = (MT_.w_word (MT_.w_frm s_387 (v_382)) (0)) := by rw [hJ_1066]; exact ((mq_word wmqx).trans (congrArg (fun z : MT_ => MT_.w_word z (0)) hs_974)).trans rfl
                    refine g_aload_n C 3 dX12_go_210 rfl rfl ?_
                    refine g_iconst C (v := 0) dX12_go_211 (by decide) ?_
                    refine h_putI C K hLx hkx f_12_121 p_12_8 dX12_go_212 (fun I_1069 hI_1069 => ?_)
                    have hU_1070 := iw_put W9 hU_972 hI_1069 (ro_o hkx (by decide)) (lo := (-2147483648)) (hi := 2147483647) (rfl) (rg_all _) rfl
                    have hF_1071 := fq_puto hF_973 hI_1069 hkx (by decide) (by decide)
                    have hs_1072 : MTq I_1069 J_1066 x b_2 = (MT_.w_number (MT_.w_word (MT_.w_frm s_387 (v_382)) (0)) (0)) := by rw [hI_1069]; exact ((mq_number wmqx).trans (congrArg (fun z : MT_ => MT_.w_number z (0)) hs_1068)).trans rfl
                    have u_1073 := mrun_eq (lt := x_983) (g := 1) (m := (MT_.w_number (MT_.w_word (MT_.w_frm s_387 (v_382)) (0)) (0))) ((congrArg MT_.to hs_1072).symm.trans (kp_j hI_1069 (by decide) (kp_j hI_971 (by decide) q_383))) (rg_w r_981 (by decide) (by decide))
                    refine g_aload_n C 3 dX12_go_215 rfl rfl ?_
                    refine g_aload_n C 3 dX12_go_216 rfl rfl ?_
                    refine g_getI C K hLx hkx f_12_95 (v := v_382) (kp_j hI_1069 (by decide) (kp_j hI_971 (by decide) q_383)) dX12_go_217 ?_
                    refine g_callVI C K (c_X12_tapeAt W9 hLx hkx v_382 (rg_w r_981 (by decide) (by decide)) hU_1070) hLx hkx (by decide) rfl v_12_124 rfl ⟨rfl, rfl⟩ ⟨Nat.le_of_ble_eq_true rfl, Nat.le_of_ble_eq_true rfl⟩ (Nat.le_of_ble_eq_true rfl) ⟨Nat.le_of_ble_eq_true rfl, Nat.le_of_ble_eq_true rfl⟩ dX12_go_220 rfl (st := []) (fun x_1074 I_1075 J_1076 h_1077 => ?_)
                    obtain ⟨rfl, rfl, rx_1074, fx_1074, ex_1074⟩ := h_1077
                    have c_1078 : mTapeAt (v_382) ((MT_.w_number (MT_.w_word (MT_.w_frm s_387 (v_382)) (0)) (0))) = x_1074 := by have q := fx_1074; simp only [emqx, hs_1072] at q; exact q.symm
                    have r_1079 := eq_rg ((ex_1074.1 _ hb_2 (by rw [(kp_j hI_1069 (by decide) (kp_j hI_971 (by decide) hx_391))]; exact h_980)).trans (kp_k (κ := κ) hI_1069 (by rw [hb_2k, hkx]; decide) (kp_k (κ := κ) hI_971 (by rw [hb_2k, hkx]; decide) hx_958))) r_1060
                    refine g_callSI C K (c_X12_isLetter W9 x_1074  hU_1070) s_12_107 rfl ⟨rfl, rfl⟩ ⟨Nat.le_of_ble_eq_true rfl, Nat.le_of_ble_eq_true rfl⟩ (Nat.le_of_ble_eq_true rfl) ⟨Nat.le_of_ble_eq_true rfl, Nat.le_of_ble_eq_true rfl⟩ dX12_go_223 rfl (st := []) (fun x_1080 I_1081 J_1082 h_1083 => ?_)
                    obtain ⟨rfl, rfl, rx_1080, fx_1080, ex_1080⟩ := h_1083
                    have c_1084 : isLc (x_1074) = x_1080 := fx_1080.symm
                    refine g_if_ne C (tgt := 243) dX12_go_226 (by decide) (fun h_1085 => ?_) (fun h_1085 => ?_)
                    · skip
                      have n_1086 : ¬ x_1080 = 0 := h_1085
                      have r_1087 := ne_lo (lo := 1) n_1086 rx_1080 rc_0 rfl (by decide)
                      have r_1088 := rg_i r_1079 ((ex_1080.2) n_1086) (lo := 97) (hi := 57) (by decide) (by decide)
                      exact rg_no r_1088 (by decide)
                    · skip
                      have r_1089 := (⟨(rx_1080).1, (eq_rg (h_1085) rc_0).2⟩ : Rg 0 0 x_1080)
                      refine g_aload_n C 3 dX12_go_229 rfl rfl ?_
                      refine g_aload_n C 3 dX12_go_230 rfl rfl ?_
                      refine g_getI C K hLx hkx f_12_95 (v := v_382) (kp_j hI_1069 (by decide) (kp_j hI_971 (by decide) q_383)) dX12_go_231 ?_
                      refine g_callVI C K (c_X12_tapeAt W9 hLx hkx v_382 (rg_w r_981 (by decide) (by decide)) hU_1070) hLx hkx (by decide) rfl v_12_124 rfl ⟨rfl, rfl⟩ ⟨Nat.le_of_ble_eq_true rfl, Nat.le_of_ble_eq_true rfl⟩ (Nat.le_of_ble_eq_true rfl) ⟨Nat.le_of_ble_eq_true rfl, Nat.le_of_ble_eq_true rfl⟩ dX12_go_234 rfl (st := []) (fun x_1090 I_1091 J_1092 h_1093 => ?_)
                      obtain ⟨rfl, rfl, rx_1090, fx_1090, ex_1090⟩ := h_1093
                      have c_1094 : mTapeAt (v_382) ((MT_.w_number (MT_.w_word (MT_.w_frm s_387 (v_382)) (0)) (0))) = x_1090 := by have q := fx_1090; simp only [emqx, hs_1072] at q; exact q.symm
                      have ec_1094 : x_1074 = x_1090 := c_1078.symm.trans c_1094
                      subst ec_1094
                      refine g_callSI C K (c_X12_isDigit W9 x_1074  hU_1070) s_12_111 rfl ⟨rfl, rfl⟩ ⟨Nat.le_of_ble_eq_true rfl, Nat.le_of_ble_eq_true rfl⟩ (Nat.le_of_ble_eq_true rfl) ⟨Nat.le_of_ble_eq_true rfl, Nat.le_of_ble_eq_true rfl⟩ dX12_go_237 rfl (st := []) (fun x_1095 I_1096 J_1097 h_1098 => ?_)
                      obtain ⟨rfl, rfl, rx_1095, fx_1095, ex_1095⟩ := h_1098
                      have c_1099 : isDc (x_1074) = x_1095 := fx_1095.symm
                      have n_1100 : ¬ x_1095 = 0 := by rcases ex_1095.1 with q | q | q; exact q; exact absurd q (by have := (r_1079).1; omega); exact absurd q (by have := (r_1079).2; omega)
                      have n_1101 : ¬ x_1095 = 0 := n_1100
                      have r_1102 := ne_lo (lo := 1) n_1101 rx_1095 rc_0 rfl (by decide)
                      refine g_if_eq C (tgt := 350) dX12_go_240 (by decide) (fun h_1103 => ?_) (fun h_1103 => ?_)
                      · skip
                        exact eq_no (h_1103) r_1102 rc_0 (by decide)
                      · skip
                        have n_1104 : ¬ x_1095 = 0 := h_1103
                        refine g_aload_n C 3 dX12_go_243 rfl rfl ?_
                        refine g_getR C K hLx hkx f_12_7 hb_2 dX12_go_244 ?_
                        refine g_aload_n C 3 dX12_go_247 rfl rfl ?_
                        refine g_getI C K hLx hkx f_12_95 (v := v_382) (kp_j hI_1069 (by decide) (kp_j hI_971 (by decide) q_383)) dX12_go_248 ?_
                        refine h_iald C K hb_2L hb_2k (v := x_958) (v_382.toNatClampNeg) (rfl) (ix_0 r_981 (by decide)) (ix_lt r_981 (by decide) hb_2n (by decide)) (kp_k (κ := κ) hI_1069 (by rw [hb_2k, hkx]; decide) (kp_k (κ := κ) hI_971 (by rw [hb_2k, hkx]; decide) hx_958)) dX12_go_251 ?_
                        refine g_istore C dX12_go_252 (by decide) (lo2 := [(4, .int x_958), (3, .int 1), (2, .int x_983), (1, .int x_958), (0, .ref x)]) rfl ?_
                        refine g_iload_n C 1 dX12_go_254 rfl rfl ?_
                        refine g_if_eq C (tgt := 271) dX12_go_255 (by decide) (fun h_1106 => ?_) (fun h_1106 => ?_)
                        · skip
                          exact absurd (h_1106) (by decide)
                        · skip
                          refine g_iload C 0 dX12_go_258 rfl ?_
                          refine g_callSI C K (c_X12_isLetter W9 x_958  hU_1070) s_12_107 rfl ⟨rfl, rfl⟩ ⟨Nat.le_of_ble_eq_true rfl, Nat.le_of_ble_eq_true rfl⟩ (Nat.le_of_ble_eq_true rfl) ⟨Nat.le_of_ble_eq_true rfl, Nat.le_of_ble_eq_true rfl⟩ dX12_go_260 rfl (st := []) (fun x_1107 I_1108 J_1109 h_1110 => ?_)
                          obtain ⟨rfl, rfl, rx_1107, fx_1107, ex_1107⟩ := h_1110
                          have c_1111 : isLc (x_958) = x_1107 := fx_1107.symm
                          have ec_1111 : x_983 = x_1107 := c_987.symm.trans c_1111
                          subst ec_1111
                          refine g_iload_n C 2 dX12_go_263 rfl rfl ?_
                          refine g_icmp_ne C (tgt := 271) dX12_go_264 (by decide) (fun h_1112 => ?_) (fun h_1112 => ?_)
                          · skip
                            exact ne_no (h_1112) r_1051 r_1051
                          · skip
                            refine g_iconst C (v := 1) dX12_go_267 (by decide) ?_
                            refine g_goto C (tgt := 272) dX12_go_268 (by decide) ?_
                            refine g_istore_n C dX12_go_272 rfl (by decide) (lo2 := [(3, .int 1), (4, .int x_958), (2, .int x_983), (1, .int x_958), (0, .ref x)]) rfl ?_
                            refine g_aload_n C 4 dX12_go_273 rfl rfl ?_
                            refine g_getI C K hLx hkx f_12_95 (v := v_382) (kp_j hI_1069 (by decide) (kp_j hI_971 (by decide) q_383)) dX12_go_274 ?_
                            refine g_aload_n C 4 dX12_go_277 rfl rfl ?_
                            refine g_getI C K hLx hkx f_12_98 (v := v_382) (kp_j hI_1069 (by decide) (kp_s hI_971)) dX12_go_278 ?_
                            refine g_isub C (v := 0) dX12_go_281 (Int32.sub_self _) ?_
                            refine g_bipush C (v := 7) dX12_go_282 (by decide) ?_
                            refine g_icmp_ge C (tgt := 307) dX12_go_284 (by decide) (fun h_1113 => ?_) (fun h_1113 => ?_)
                            · skip
                              exact absurd (h_1113) (by decide)
                            · skip
                              refine g_aload_n C 4 dX12_go_287 rfl rfl ?_
                              refine g_ldc2 C kl_128 dX12_go_288 ?_
                              refine g_aload_n C 4 dX12_go_291 rfl rfl ?_
                              obtain ⟨y_1114, hy_1114⟩ : ∃ z, J_1066 x 12 = z := ⟨_, rfl⟩
                              have e_1115 : 0 = y_1114 := (congrArg MT_.word hs_1072).symm.trans hy_1114
                              subst e_1115
                              refine g_getJ C K hLx hkx f_12_117 (v := 0) hy_1114 dX12_go_292 ?_
                              refine g_lmulE C dX12_go_295 (fun y_1116 hy_1116 => ?_)
                              refine g_iload C 1 dX12_go_296 rfl ?_
                              obtain ⟨y_1117, hy_1117⟩ : ∃ z, Int32.toInt64 x_958 = z := ⟨_, rfl⟩
                              refine g_i2l C (v := y_1117) dX12_go_298 hy_1117 ?_
                              refine g_laddE C dX12_go_299 (fun y_1118 hy_1118 => ?_)
                              refine g_ldc2 C kl_130 dX12_go_300 ?_
                              refine g_lsubE C dX12_go_303 (fun y_1119 hy_1119 => ?_)
                              refine h_putJ C K hLx hkx f_12_117 p_12_12 dX12_go_304 (fun J_1120 hJ_1120 => ?_)
                              have hG_1121 := fq_puto hG_1067 hJ_1120 hkx (by decide) (by decide)
                              have hs_1122 : MTq I_1069 J_1120 x b_2 = (MT_.w_word (MT_.w_number (MT_.w_frm s_387 (v_382)) (0)) (y_1119)) := by rw [hJ_1120]; exact ((mq_word wmqx).trans (congrArg (fun z : MT_ => MT_.w_word z (y_1119)) hs_1072)).trans rfl
                              refine g_aload_n C 4 dX12_go_307 rfl rfl ?_
                              refine g_getI C K hLx hkx f_12_95 (v := v_382) (kp_j hI_1069 (by decide) (kp_j hI_971 (by decide) q_383)) dX12_go_308 ?_
                              refine g_aload_n C 4 dX12_go_311 rfl rfl ?_
                              refine g_getI C K hLx hkx f_12_98 (v := v_382) (kp_j hI_1069 (by decide) (kp_s hI_971)) dX12_go_312 ?_
                              refine g_isub C (v := 0) dX12_go_315 (Int32.sub_self _) ?_
                              refine g_iconst C (v := 3) dX12_go_316 (by decide) ?_
                              refine g_icmp_ge C (tgt := 337) dX12_go_317 (by decide) (fun h_1123 => ?_) (fun h_1123 => ?_)
                              · skip
                                exact absurd (h_1123) (by decide)
                              · skip
                                refine g_aload_n C 4 dX12_go_320 rfl rfl ?_
                                refine g_bipush C (v := 10) dX12_go_321 (by decide) ?_
                                refine g_aload_n C 4 dX12_go_323 rfl rfl ?_
                                refine g_getI C K hLx hkx f_12_121 (v := 0) (kp_s hI_1069) dX12_go_324 ?_
                                refine g_imul C (v := 0) dX12_go_327 (by decide) ?_
                                refine g_iload C 1 dX12_go_328 rfl ?_
                                obtain ⟨x_1124, hx_1124, rx_1124, tx_1124⟩ := ex_add 48 57 rc_0 r_1060 (by decide) (by decide) (by decide) (by decide)
                                refine g_iadd C (v := x_1124) dX12_go_330 hx_1124 ?_
                                refine g_bipush C (v := 48) dX12_go_331 (by decide) ?_
                                obtain ⟨x_1125, hx_1125, rx_1125, tx_1125⟩ := ex_sub 0 9 rx_1124 rc_48 (by decide) (by decide) (by decide) (by decide)
                                refine g_isub C (v := x_1125) dX12_go_333 hx_1125 ?_
                                refine h_putI C K hLx hkx f_12_121 p_12_8 dX12_go_334 (fun I_1126 hI_1126 => ?_)
                                have hU_1127 := iw_put W9 hU_1070 hI_1126 (ro_o hkx (by decide)) (lo := (-2147483648)) (hi := 2147483647) (rfl) (rg_all _) rfl
                                have hF_1128 := fq_puto hF_1071 hI_1126 hkx (by decide) (by decide)
                                have hs_1129 : MTq I_1126 J_1120 x b_2 = (MT_.w_number (MT_.w_word (MT_.w_frm s_387 (v_382)) (y_1119)) (x_1125)) := by rw [hI_1126]; exact ((mq_number wmqx).trans (congrArg (fun z : MT_ => MT_.w_number z (x_1125)) hs_1122)).trans rfl
                                refine g_aload_n C 4 dX12_go_337 rfl rfl ?_
                                refine g_dup C dX12_go_338 rfl ?_
                                refine g_getI C K hLx hkx f_12_95 (v := v_382) (kp_j hI_1126 (by decide) (kp_j hI_1069 (by decide) (kp_j hI_971 (by decide) q_383))) dX12_go_339 ?_
                                refine g_iconst C (v := 1) dX12_go_342 (by decide) ?_
                                obtain ⟨x_1130, hx_1130, rx_1130, tx_1130⟩ := ex_add 1 900 r_981 rc_1 (by decide) (by decide) (by decide) (by decide)
                                refine g_iadd C (v := x_1130) dX12_go_343 hx_1130 ?_
                                refine h_putI C K hLx hkx f_12_95 p_12_5 dX12_go_344 (fun I_1131 hI_1131 => ?_)
                                have hU_1132 := iw_put W9 hU_1127 hI_1131 (ro_o hkx (by decide)) (lo := 0) (hi := 940) (rfl) (rg_w rx_1130 (by decide) (by decide)) rfl
                                have hF_1133 := fq_puto hF_1128 hI_1131 hkx (by decide) (by decide)
                                have hs_1134 : MTq I_1131 J_1120 x b_2 = (MT_.w_to (MT_.w_number (MT_.w_word (MT_.w_frm s_387 (v_382)) (y_1119)) (x_1125)) (x_1130)) := by rw [hI_1131]; exact ((mq_to wmqx).trans (congrArg (fun z : MT_ => MT_.w_to z (x_1130)) hs_1129)).trans rfl
                                refine g_goto C (tgt := 215) dX12_go_347 (by decide) ?_
                                refine g_lo (is := [4, 3, 2, 0, 1]) (lo2 := [(0, .ref x), (1, .int x_958), (2, .int x_983), (3, .int 1), (4, .int x_958)]) rfl ?_
                                exact l_215 940 I_1131 J_1120 hU_1132 hF_1133 hG_1121 x_958 (rg_w r_1060 (by decide) (by decide)) (n_970) (n_967) x_983 (rg_w r_1051 (by decide) (by decide)) 1 (rg_w rc_1 (by decide) (by decide)) x_958 (rg_w r_1060 (by decide) (by decide)) x_391 (rg_w r_978 (by decide) (by decide)) x_975 (rg_w r_979 (by decide) (by decide)) x_1130 (rg_w rx_1130 (by decide) (by decide)) v_382 (r_981) x_1125 (kp_j hI_1131 (by decide) (kp_j hI_1126 (by decide) (kp_j hI_1069 (by decide) (kp_j hI_971 (by decide) hx_391)))) (kp_j hI_1131 (by decide) (kp_j hI_1126 (by decide) (kp_j hI_1069 (by decide) hx_975))) (kp_s hI_1131) (kp_j hI_1131 (by decide) (kp_j hI_1126 (by decide) (kp_j hI_1069 (by decide) (kp_s hI_971)))) (kp_j hI_1131 (by decide) (kp_s hI_1126)) (by (try simp only [f_390, hx_391, f_392, h_393, (nle h_393), hx_958, f_959, h_960, h_969, hx_975, f_976, h_977, h_980, c_987, (eq_true h_988), c_1056, h_1057, c_1084, (eq_true h_1085), c_1099, h_1103, h_1106, (eq_true h_1112), h_1113, (nle h_1113), hy_1114, hy_1116, hy_1117, hy_1118, hy_1119, h_1123, (nle h_1123), hx_1124, hx_1125, hx_1130, if_true, if_false, mqM_tp, mqM_size, mqM_limit, mqM_to, mqM_frm, mqM_kind, mqM_number, mqM_sign, mqM_word, MT_.w_tp, MT_.w_size, MT_.w_limit, MT_.w_to, MT_.w_frm, MT_.w_kind, MT_.w_number, MT_.w_sign, MT_.w_word] at hQ_388); (try simp only [f_390, hx_391, f_392, h_393, (nle h_393), hx_958, f_959, h_960, h_969, hx_975, f_976, h_977, h_980, c_987, (eq_true h_988), c_1056, h_1057, c_1084, (eq_true h_1085), c_1099, h_1103, h_1106, (eq_true h_1112), h_1113, (nle h_1113), hy_1114, hy_1116, hy_1117, hy_1118, hy_1119, h_1123, (nle h_1123), hx_1124, hx_1125, hx_1130, if_true, if_false, mqM_tp, mqM_size, mqM_limit, mqM_to, mqM_frm, mqM_kind, mqM_number, mqM_sign, mqM_word, MT_.w_tp, MT_.w_size, MT_.w_limit, MT_.w_to, MT_.w_frm, MT_.w_kind, MT_.w_number, MT_.w_sign, MT_.w_word] at u_389); (try simp only [f_390, hx_391, f_392, h_393, (nle h_393), hx_958, f_959, h_960, h_969, hx_975, f_976, h_977, h_980, c_987, (eq_true h_988), c_1056, h_1057, c_1084, (eq_true h_1085), c_1099, h_1103, h_1106, (eq_true h_1112), h_1113, (nle h_1113), hy_1114, hy_1116, hy_1117, hy_1118, hy_1119, h_1123, (nle h_1123), hx_1124, hx_1125, hx_1130, if_true, if_false, mqM_tp, mqM_size, mqM_limit, mqM_to, mqM_frm, mqM_kind, mqM_number, mqM_sign, mqM_word, MT_.w_tp, MT_.w_size, MT_.w_limit, MT_.w_to, MT_.w_frm, MT_.w_kind, MT_.w_number, MT_.w_sign, MT_.w_word] at u_1073); (try simp only [f_390, hx_391, f_392, h_393, (nle h_393), hx_958, f_959, h_960, h_969, hx_975, f_976, h_977, h_980, c_987, (eq_true h_988), c_1056, h_1057, c_1084, (eq_true h_1085), c_1099, h_1103, h_1106, (eq_true h_1112), h_1113, (nle h_1113), hy_1114, hy_1116, hy_1117, hy_1118, hy_1119, h_1123, (nle h_1123), hx_1124, hx_1125, hx_1130, if_true, if_false, mqM_tp, mqM_size, mqM_limit, mqM_to, mqM_frm, mqM_kind, mqM_number, mqM_sign, mqM_word, MT_.w_tp, MT_.w_size, MT_.w_limit, MT_.w_to, MT_.w_frm, MT_.w_kind, MT_.w_number, MT_.w_sign, MT_.w_word] at c_1078); simp only [mGo, mGo2, mGo3, mGoE, mSg, mStep, mGood, Int32.sub_self, (by decide : (7 ≤ (0 : Int32)) = False), (by decide : (3 ≤ (0 : Int32)) = False), (by decide : 10 * (0 : Int32) = 0), emqx, hs_1134, hs_3, hQ_388, f_390, u_389, hx_391, f_392, h_393, (nle h_393), hx_958, f_959, h_960, h_969, hx_975, f_976, h_977, h_980, c_987, (eq_true h_988), c_1056, h_1057, u_1073, c_1078, c_1084, (eq_true h_1085), c_1099, h_1103, h_1106, (eq_true h_1112), h_1113, (nle h_1113), hy_1114, hy_1116, hy_1117, hy_1118, hy_1119, h_1123, (nle h_1123), hx_1124, hx_1125, hx_1130, if_true, if_false, mqM_tp, mqM_size, mqM_limit, mqM_to, mqM_frm, mqM_kind, mqM_number, mqM_sign, mqM_word, MT_.w_tp, MT_.w_size, MT_.w_limit, MT_.w_to, MT_.w_frm, MT_.w_kind, MT_.w_number, MT_.w_sign, MT_.w_word]) (by have := hj_385; have := (ti_k tx_1130 rc_1); omega) (ms_s (a := 1) (b := 940) (N := 940) (rg_w rx_1130 (by decide) (by decide)) (by decide))
                  · skip
                    have r_1135 := (⟨(rx_1052).1, (eq_rg (h_1057) rc_0).2⟩ : Rg 0 0 x_1052)
                    refine g_aload_n C 1 dX12_go_137 rfl rfl ?_
                    refine g_iload_n C 0 dX12_go_138 rfl rfl ?_
                    refine g_bipush C (v := 59) dX12_go_139 (by decide) ?_
                    refine g_icmp_eq C (tgt := 174) dX12_go_141 (by decide) (fun h_1136 => ?_) (fun h_1136 => ?_)
                    · skip
                      have r_1137 := (⟨(eq_rg (h_1136) rc_59).1, (eq_rg (h_1136) rc_59).2⟩ : Rg 59 59 x_958)
                      refine g_iconst C (v := 4) dX12_go_174 (by decide) ?_
                      refine g_goto C (tgt := 179) dX12_go_175 (by decide) ?_
                      refine h_putI C K hLx hkx f_12_104 p_12_7 dX12_go_179 (fun I_1138 hI_1138 => ?_)
                      have hU_1139 := iw_put W9 hU_972 hI_1138 (ro_o hkx (by decide)) (lo := 0) (hi := 4) (rfl) (rg_w rc_4 (by decide) (by decide)) rfl
                      have hF_1140 := fq_puto hF_973 hI_1138 hkx (by decide) (by decide)
                      have hs_1141 : MTq I_1138 J_378 x b_2 = (MT_.w_kind (MT_.w_frm s_387 (v_382)) (4)) := by rw [hI_1138]; exact ((mq_kind wmqx).trans (congrArg (fun z : MT_ => MT_.w_kind z (4)) hs_974)).trans rfl
                      refine g_aload_n C 1 dX12_go_182 rfl rfl ?_
                      refine g_iload_n C 0 dX12_go_183 rfl rfl ?_
                      refine h_putI C K hLx hkx f_12_114 p_12_9 dX12_go_184 (fun I_1142 hI_1142 => ?_)
                      have hU_1143 := iw_put W9 hU_1139 hI_1142 (ro_o hkx (by decide)) (lo := (-2147483648)) (hi := 2147483647) (rfl) (rg_all _) rfl
                      have hF_1144 := fq_puto hF_1140 hI_1142 hkx (by decide) (by decide)
                      have hs_1145 : MTq I_1142 J_378 x b_2 = (MT_.w_sign (MT_.w_kind (MT_.w_frm s_387 (v_382)) (4)) (x_958)) := by rw [hI_1142]; exact ((mq_sign wmqx).trans (congrArg (fun z : MT_ => MT_.w_sign z (x_958)) hs_1141)).trans rfl
                      refine g_aload_n C 1 dX12_go_187 rfl rfl ?_
                      refine g_dup C dX12_go_188 rfl ?_
                      refine g_getI C K hLx hkx f_12_95 (v := v_382) (kp_j hI_1142 (by decide) (kp_j hI_1138 (by decide) (kp_j hI_971 (by decide) q_383))) dX12_go_189 ?_
                      refine g_iconst C (v := 1) dX12_go_192 (by decide) ?_
                      obtain ⟨x_1146, hx_1146, rx_1146, tx_1146⟩ := ex_add 1 900 r_981 rc_1 (by decide) (by decide) (by decide) (by decide)
                      refine g_iadd C (v := x_1146) dX12_go_193 hx_1146 ?_
                      refine h_putI C K hLx hkx f_12_95 p_12_5 dX12_go_194 (fun I_1147 hI_1147 => ?_)
                      have hU_1148 := iw_put W9 hU_1143 hI_1147 (ro_o hkx (by decide)) (lo := 0) (hi := 940) (rfl) (rg_w rx_1146 (by decide) (by decide)) rfl
                      have hF_1149 := fq_puto hF_1144 hI_1147 hkx (by decide) (by decide)
                      have hs_1150 : MTq I_1147 J_378 x b_2 = (MT_.w_to (MT_.w_sign (MT_.w_kind (MT_.w_frm s_387 (v_382)) (4)) (x_958)) (x_1146)) := by rw [hI_1147]; exact ((mq_to wmqx).trans (congrArg (fun z : MT_ => MT_.w_to z (x_1146)) hs_1145)).trans rfl
                      exact g_vret B K rfl ⟨hU_1148, hF_1149, hG_381, (by (try simp only [f_390, hx_391, f_392, h_393, (nle h_393), hx_958, f_959, h_960, h_969, hx_975, f_976, h_977, h_980, c_987, (eq_true h_988), c_1056, (eq_true h_1057), (eq_true h_1136), hx_1146, if_true, if_false, mqM_tp, mqM_size, mqM_limit, mqM_to, mqM_frm, mqM_kind, mqM_number, mqM_sign, mqM_word, MT_.w_tp, MT_.w_size, MT_.w_limit, MT_.w_to, MT_.w_frm, MT_.w_kind, MT_.w_number, MT_.w_sign, MT_.w_word] at hQ_388); (try simp only [f_390, hx_391, f_392, h_393, (nle h_393), hx_958, f_959, h_960, h_969, hx_975, f_976, h_977, h_980, c_987, (eq_true h_988), c_1056, (eq_true h_1057), (eq_true h_1136), hx_1146, if_true, if_false, mqM_tp, mqM_size, mqM_limit, mqM_to, mqM_frm, mqM_kind, mqM_number, mqM_sign, mqM_word, MT_.w_tp, MT_.w_size, MT_.w_limit, MT_.w_to, MT_.w_frm, MT_.w_kind, MT_.w_number, MT_.w_sign, MT_.w_word] at u_389); simp only [mGo, mGo2, mGo3, mGoE, mSg, mStep, mGood, Int32.sub_self, (by decide : (7 ≤ (0 : Int32)) = False), (by decide : (3 ≤ (0 : Int32)) = False), (by decide : 10 * (0 : Int32) = 0), emqx, hs_1150, hs_3, hQ_388, f_390, u_389, hx_391, f_392, h_393, (nle h_393), hx_958, f_959, h_960, h_969, hx_975, f_976, h_977, h_980, c_987, (eq_true h_988), c_1056, (eq_true h_1057), (eq_true h_1136), hx_1146, if_true, if_false, mqM_tp, mqM_size, mqM_limit, mqM_to, mqM_frm, mqM_kind, mqM_number, mqM_sign, mqM_word, MT_.w_tp, MT_.w_size, MT_.w_limit, MT_.w_to, MT_.w_frm, MT_.w_kind, MT_.w_number, MT_.w_sign, MT_.w_word]), (ps_mk hx_1 (kp_s hI_1147) (kp_j hI_1147 (by decide) (kp_j hI_1142 (by decide) (kp_s hI_1138))) (Int.le_of_lt (by have := hj_385; have := (ti_k tx_1146 rc_1); omega)) (Or.inl (by have := hj_385; have := (ti_k tx_1146 rc_1); omega)))⟩ dX12_go_197
                    · skip
                      have n_1151 : ¬ x_958 = 59 := h_1136
                      refine g_iload_n C 0 dX12_go_144 rfl rfl ?_
                      refine g_bipush C (v := 60) dX12_go_145 (by decide) ?_
                      refine g_icmp_eq C (tgt := 174) dX12_go_147 (by decide) (fun h_1152 => ?_) (fun h_1152 => ?_)
                      · skip
                        have r_1153 := (⟨(eq_rg (h_1152) rc_60).1, (eq_rg (h_1152) rc_60).2⟩ : Rg 60 60 x_958)
                        refine g_iconst C (v := 4) dX12_go_174 (by decide) ?_
                        refine g_goto C (tgt := 179) dX12_go_175 (by decide) ?_
                        refine h_putI C K hLx hkx f_12_104 p_12_7 dX12_go_179 (fun I_1154 hI_1154 => ?_)
                        have hU_1155 := iw_put W9 hU_972 hI_1154 (ro_o hkx (by decide)) (lo := 0) (hi := 4) (rfl) (rg_w rc_4 (by decide) (by decide)) rfl
                        have hF_1156 := fq_puto hF_973 hI_1154 hkx (by decide) (by decide)
                        have hs_1157 : MTq I_1154 J_378 x b_2 = (MT_.w_kind (MT_.w_frm s_387 (v_382)) (4)) := by rw [hI_1154]; exact ((mq_kind wmqx).trans (congrArg (fun z : MT_ => MT_.w_kind z (4)) hs_974)).trans rfl
                        refine g_aload_n C 1 dX12_go_182 rfl rfl ?_
                        refine g_iload_n C 0 dX12_go_183 rfl rfl ?_
                        refine h_putI C K hLx hkx f_12_114 p_12_9 dX12_go_184 (fun I_1158 hI_1158 => ?_)
                        have hU_1159 := iw_put W9 hU_1155 hI_1158 (ro_o hkx (by decide)) (lo := (-2147483648)) (hi := 2147483647) (rfl) (rg_all _) rfl
                        have hF_1160 := fq_puto hF_1156 hI_1158 hkx (by decide) (by decide)
                        have hs_1161 : MTq I_1158 J_378 x b_2 = (MT_.w_sign (MT_.w_kind (MT_.w_frm s_387 (v_382)) (4)) (x_958)) := by rw [hI_1158]; exact ((mq_sign wmqx).trans (congrArg (fun z : MT_ => MT_.w_sign z (x_958)) hs_1157)).trans rfl
                        refine g_aload_n C 1 dX12_go_187 rfl rfl ?_
                        refine g_dup C dX12_go_188 rfl ?_
                        refine g_getI C K hLx hkx f_12_95 (v := v_382) (kp_j hI_1158 (by decide) (kp_j hI_1154 (by decide) (kp_j hI_971 (by decide) q_383))) dX12_go_189 ?_
                        refine g_iconst C (v := 1) dX12_go_192 (by decide) ?_
                        obtain ⟨x_1162, hx_1162, rx_1162, tx_1162⟩ := ex_add 1 900 r_981 rc_1 (by decide) (by decide) (by decide) (by decide)
                        refine g_iadd C (v := x_1162) dX12_go_193 hx_1162 ?_
                        refine h_putI C K hLx hkx f_12_95 p_12_5 dX12_go_194 (fun I_1163 hI_1163 => ?_)
                        have hU_1164 := iw_put W9 hU_1159 hI_1163 (ro_o hkx (by decide)) (lo := 0) (hi := 940) (rfl) (rg_w rx_1162 (by decide) (by decide)) rfl
                        have hF_1165 := fq_puto hF_1160 hI_1163 hkx (by decide) (by decide)
                        have hs_1166 : MTq I_1163 J_378 x b_2 = (MT_.w_to (MT_.w_sign (MT_.w_kind (MT_.w_frm s_387 (v_382)) (4)) (x_958)) (x_1162)) := by rw [hI_1163]; exact ((mq_to wmqx).trans (congrArg (fun z : MT_ => MT_.w_to z (x_1162)) hs_1161)).trans rfl
                        exact g_vret B K rfl ⟨hU_1164, hF_1165, hG_381, (by (try simp only [f_390, hx_391, f_392, h_393, (nle h_393), hx_958, f_959, h_960, h_969, hx_975, f_976, h_977, h_980, c_987, (eq_true h_988), c_1056, (eq_true h_1057), h_1136, (eq_true h_1152), hx_1162, if_true, if_false, mqM_tp, mqM_size, mqM_limit, mqM_to, mqM_frm, mqM_kind, mqM_number, mqM_sign, mqM_word, MT_.w_tp, MT_.w_size, MT_.w_limit, MT_.w_to, MT_.w_frm, MT_.w_kind, MT_.w_number, MT_.w_sign, MT_.w_word] at hQ_388); (try simp only [f_390, hx_391, f_392, h_393, (nle h_393), hx_958, f_959, h_960, h_969, hx_975, f_976, h_977, h_980, c_987, (eq_true h_988), c_1056, (eq_true h_1057), h_1136, (eq_true h_1152), hx_1162, if_true, if_false, mqM_tp, mqM_size, mqM_limit, mqM_to, mqM_frm, mqM_kind, mqM_number, mqM_sign, mqM_word, MT_.w_tp, MT_.w_size, MT_.w_limit, MT_.w_to, MT_.w_frm, MT_.w_kind, MT_.w_number, MT_.w_sign, MT_.w_word] at u_389); simp only [mGo, mGo2, mGo3, mGoE, mSg, mStep, mGood, Int32.sub_self, (by decide : (7 ≤ (0 : Int32)) = False), (by decide : (3 ≤ (0 : Int32)) = False), (by decide : 10 * (0 : Int32) = 0), emqx, hs_1166, hs_3, hQ_388, f_390, u_389, hx_391, f_392, h_393, (nle h_393), hx_958, f_959, h_960, h_969, hx_975, f_976, h_977, h_980, c_987, (eq_true h_988), c_1056, (eq_true h_1057), h_1136, (eq_true h_1152), hx_1162, if_true, if_false, mqM_tp, mqM_size, mqM_limit, mqM_to, mqM_frm, mqM_kind, mqM_number, mqM_sign, mqM_word, MT_.w_tp, MT_.w_size, MT_.w_limit, MT_.w_to, MT_.w_frm, MT_.w_kind, MT_.w_number, MT_.w_sign, MT_.w_word]), (ps_mk hx_1 (kp_s hI_1163) (kp_j hI_1163 (by decide) (kp_j hI_1158 (by decide) (kp_s hI_1154))) (Int.le_of_lt (by have := hj_385; have := (ti_k tx_1162 rc_1); omega)) (Or.inl (by have := hj_385; have := (ti_k tx_1162 rc_1); omega)))⟩ dX12_go_197
                      · skip
                        have n_1167 : ¬ x_958 = 60 := h_1152
                        refine g_iload_n C 0 dX12_go_150 rfl rfl ?_
                        refine g_bipush C (v := 61) dX12_go_151 (by decide) ?_
                        refine g_icmp_eq C (tgt := 174) dX12_go_153 (by decide) (fun h_1168 => ?_) (fun h_1168 => ?_)
                        · skip
                          have r_1169 := (⟨(eq_rg (h_1168) rc_61).1, (eq_rg (h_1168) rc_61).2⟩ : Rg 61 61 x_958)
                          refine g_iconst C (v := 4) dX12_go_174 (by decide) ?_
                          refine g_goto C (tgt := 179) dX12_go_175 (by decide) ?_
                          refine h_putI C K hLx hkx f_12_104 p_12_7 dX12_go_179 (fun I_1170 hI_1170 => ?_)
                          have hU_1171 := iw_put W9 hU_972 hI_1170 (ro_o hkx (by decide)) (lo := 0) (hi := 4) (rfl) (rg_w rc_4 (by decide) (by decide)) rfl
                          have hF_1172 := fq_puto hF_973 hI_1170 hkx (by decide) (by decide)
                          have hs_1173 : MTq I_1170 J_378 x b_2 = (MT_.w_kind (MT_.w_frm s_387 (v_382)) (4)) := by rw [hI_1170]; exact ((mq_kind wmqx).trans (congrArg (fun z : MT_ => MT_.w_kind z (4)) hs_974)).trans rfl
                          refine g_aload_n C 1 dX12_go_182 rfl rfl ?_
                          refine g_iload_n C 0 dX12_go_183 rfl rfl ?_
                          refine h_putI C K hLx hkx f_12_114 p_12_9 dX12_go_184 (fun I_1174 hI_1174 => ?_)
                          have hU_1175 := iw_put W9 hU_1171 hI_1174 (ro_o hkx (by decide)) (lo := (-2147483648)) (hi := 2147483647) (rfl) (rg_all _) rfl
                          have hF_1176 := fq_puto hF_1172 hI_1174 hkx (by decide) (by decide)
                          have hs_1177 : MTq I_1174 J_378 x b_2 = (MT_.w_sign (MT_.w_kind (MT_.w_frm s_387 (v_382)) (4)) (x_958)) := by rw [hI_1174]; exact ((mq_sign wmqx).trans (congrArg (fun z : MT_ => MT_.w_sign z (x_958)) hs_1173)).trans rfl
                          refine g_aload_n C 1 dX12_go_187 rfl rfl ?_
                          refine g_dup C dX12_go_188 rfl ?_
                          refine g_getI C K hLx hkx f_12_95 (v := v_382) (kp_j hI_1174 (by decide) (kp_j hI_1170 (by decide) (kp_j hI_971 (by decide) q_383))) dX12_go_189 ?_
                          refine g_iconst C (v := 1) dX12_go_192 (by decide) ?_
                          obtain ⟨x_1178, hx_1178, rx_1178, tx_1178⟩ := ex_add 1 900 r_981 rc_1 (by decide) (by decide) (by decide) (by decide)
                          refine g_iadd C (v := x_1178) dX12_go_193 hx_1178 ?_
                          refine h_putI C K hLx hkx f_12_95 p_12_5 dX12_go_194 (fun I_1179 hI_1179 => ?_)
                          have hU_1180 := iw_put W9 hU_1175 hI_1179 (ro_o hkx (by decide)) (lo := 0) (hi := 940) (rfl) (rg_w rx_1178 (by decide) (by decide)) rfl
                          have hF_1181 := fq_puto hF_1176 hI_1179 hkx (by decide) (by decide)
                          have hs_1182 : MTq I_1179 J_378 x b_2 = (MT_.w_to (MT_.w_sign (MT_.w_kind (MT_.w_frm s_387 (v_382)) (4)) (x_958)) (x_1178)) := by rw [hI_1179]; exact ((mq_to wmqx).trans (congrArg (fun z : MT_ => MT_.w_to z (x_1178)) hs_1177)).trans rfl
                          exact g_vret B K rfl ⟨hU_1180, hF_1181, hG_381, (by (try simp only [f_390, hx_391, f_392, h_393, (nle h_393), hx_958, f_959, h_960, h_969, hx_975, f_976, h_977, h_980, c_987, (eq_true h_988), c_1056, (eq_true h_1057), h_1136, h_1152, (eq_true h_1168), hx_1178, if_true, if_false, mqM_tp, mqM_size, mqM_limit, mqM_to, mqM_frm, mqM_kind, mqM_number, mqM_sign, mqM_word, MT_.w_tp, MT_.w_size, MT_.w_limit, MT_.w_to, MT_.w_frm, MT_.w_kind, MT_.w_number, MT_.w_sign, MT_.w_word] at hQ_388); (try simp only [f_390, hx_391, f_392, h_393, (nle h_393), hx_958, f_959, h_960, h_969, hx_975, f_976, h_977, h_980, c_987, (eq_true h_988), c_1056, (eq_true h_1057), h_1136, h_1152, (eq_true h_1168), hx_1178, if_true, if_false, mqM_tp, mqM_size, mqM_limit, mqM_to, mqM_frm, mqM_kind, mqM_number, mqM_sign, mqM_word, MT_.w_tp, MT_.w_size, MT_.w_limit, MT_.w_to, MT_.w_frm, MT_.w_kind, MT_.w_number, MT_.w_sign, MT_.w_word] at u_389); simp only [mGo, mGo2, mGo3, mGoE, mSg, mStep, mGood, Int32.sub_self, (by decide : (7 ≤ (0 : Int32)) = False), (by decide : (3 ≤ (0 : Int32)) = False), (by decide : 10 * (0 : Int32) = 0), emqx, hs_1182, hs_3, hQ_388, f_390, u_389, hx_391, f_392, h_393, (nle h_393), hx_958, f_959, h_960, h_969, hx_975, f_976, h_977, h_980, c_987, (eq_true h_988), c_1056, (eq_true h_1057), h_1136, h_1152, (eq_true h_1168), hx_1178, if_true, if_false, mqM_tp, mqM_size, mqM_limit, mqM_to, mqM_frm, mqM_kind, mqM_number, mqM_sign, mqM_word, MT_.w_tp, MT_.w_size, MT_.w_limit, MT_.w_to, MT_.w_frm, MT_.w_kind, MT_.w_number, MT_.w_sign, MT_.w_word]), (ps_mk hx_1 (kp_s hI_1179) (kp_j hI_1179 (by decide) (kp_j hI_1174 (by decide) (kp_s hI_1170))) (Int.le_of_lt (by have := hj_385; have := (ti_k tx_1178 rc_1); omega)) (Or.inl (by have := hj_385; have := (ti_k tx_1178 rc_1); omega)))⟩ dX12_go_197
                        · skip
                          have n_1183 : ¬ x_958 = 61 := h_1168
                          refine g_iload_n C 0 dX12_go_156 rfl rfl ?_
                          refine g_bipush C (v := 62) dX12_go_157 (by decide) ?_
                          refine g_icmp_eq C (tgt := 174) dX12_go_159 (by decide) (fun h_1184 => ?_) (fun h_1184 => ?_)
                          · skip
                            have r_1185 := (⟨(eq_rg (h_1184) rc_62).1, (eq_rg (h_1184) rc_62).2⟩ : Rg 62 62 x_958)
                            refine g_iconst C (v := 4) dX12_go_174 (by decide) ?_
                            refine g_goto C (tgt := 179) dX12_go_175 (by decide) ?_
                            refine h_putI C K hLx hkx f_12_104 p_12_7 dX12_go_179 (fun I_1186 hI_1186 => ?_)
                            have hU_1187 := iw_put W9 hU_972 hI_1186 (ro_o hkx (by decide)) (lo := 0) (hi := 4) (rfl) (rg_w rc_4 (by decide) (by decide)) rfl
                            have hF_1188 := fq_puto hF_973 hI_1186 hkx (by decide) (by decide)
                            have hs_1189 : MTq I_1186 J_378 x b_2 = (MT_.w_kind (MT_.w_frm s_387 (v_382)) (4)) := by rw [hI_1186]; exact ((mq_kind wmqx).trans (congrArg (fun z : MT_ => MT_.w_kind z (4)) hs_974)).trans rfl
                            refine g_aload_n C 1 dX12_go_182 rfl rfl ?_
                            refine g_iload_n C 0 dX12_go_183 rfl rfl ?_
                            refine h_putI C K hLx hkx f_12_114 p_12_9 dX12_go_184 (fun I_1190 hI_1190 => ?_)
                            have hU_1191 := iw_put W9 hU_1187 hI_1190 (ro_o hkx (by decide)) (lo := (-2147483648)) (hi := 2147483647) (rfl) (rg_all _) rfl
                            have hF_1192 := fq_puto hF_1188 hI_1190 hkx (by decide) (by decide)
                            have hs_1193 : MTq I_1190 J_378 x b_2 = (MT_.w_sign (MT_.w_kind (MT_.w_frm s_387 (v_382)) (4)) (x_958)) := by rw [hI_1190]; exact ((mq_sign wmqx).trans (congrArg (fun z : MT_ => MT_.w_sign z (x_958)) hs_1189)).trans rfl
                            refine g_aload_n C 1 dX12_go_187 rfl rfl ?_
                            refine g_dup C dX12_go_188 rfl ?_
                            refine g_getI C K hLx hkx f_12_95 (v := v_382) (kp_j hI_1190 (by decide) (kp_j hI_1186 (by decide) (kp_j hI_971 (by decide) q_383))) dX12_go_189 ?_
                            refine g_iconst C (v := 1) dX12_go_192 (by decide) ?_
                            obtain ⟨x_1194, hx_1194, rx_1194, tx_1194⟩ := ex_add 1 900 r_981 rc_1 (by decide) (by decide) (by decide) (by decide)
                            refine g_iadd C (v := x_1194) dX12_go_193 hx_1194 ?_
                            refine h_putI C K hLx hkx f_12_95 p_12_5 dX12_go_194 (fun I_1195 hI_1195 => ?_)
                            have hU_1196 := iw_put W9 hU_1191 hI_1195 (ro_o hkx (by decide)) (lo := 0) (hi := 940) (rfl) (rg_w rx_1194 (by decide) (by decide)) rfl
                            have hF_1197 := fq_puto hF_1192 hI_1195 hkx (by decide) (by decide)
                            have hs_1198 : MTq I_1195 J_378 x b_2 = (MT_.w_to (MT_.w_sign (MT_.w_kind (MT_.w_frm s_387 (v_382)) (4)) (x_958)) (x_1194)) := by rw [hI_1195]; exact ((mq_to wmqx).trans (congrArg (fun z : MT_ => MT_.w_to z (x_1194)) hs_1193)).trans rfl
                            exact g_vret B K rfl ⟨hU_1196, hF_1197, hG_381, (by (try simp only [f_390, hx_391, f_392, h_393, (nle h_393), hx_958, f_959, h_960, h_969, hx_975, f_976, h_977, h_980, c_987, (eq_true h_988), c_1056, (eq_true h_1057), h_1136, h_1152, h_1168, (eq_true h_1184), hx_1194, if_true, if_false, mqM_tp, mqM_size, mqM_limit, mqM_to, mqM_frm, mqM_kind, mqM_number, mqM_sign, mqM_word, MT_.w_tp, MT_.w_size, MT_.w_limit, MT_.w_to, MT_.w_frm, MT_.w_kind, MT_.w_number, MT_.w_sign, MT_.w_word] at hQ_388); (try simp only [f_390, hx_391, f_392, h_393, (nle h_393), hx_958, f_959, h_960, h_969, hx_975, f_976, h_977, h_980, c_987, (eq_true h_988), c_1056, (eq_true h_1057), h_1136, h_1152, h_1168, (eq_true h_1184), hx_1194, if_true, if_false, mqM_tp, mqM_size, mqM_limit, mqM_to, mqM_frm, mqM_kind, mqM_number, mqM_sign, mqM_word, MT_.w_tp, MT_.w_size, MT_.w_limit, MT_.w_to, MT_.w_frm, MT_.w_kind, MT_.w_number, MT_.w_sign, MT_.w_word] at u_389); simp only [mGo, mGo2, mGo3, mGoE, mSg, mStep, mGood, Int32.sub_self, (by decide : (7 ≤ (0 : Int32)) = False), (by decide : (3 ≤ (0 : Int32)) = False), (by decide : 10 * (0 : Int32) = 0), emqx, hs_1198, hs_3, hQ_388, f_390, u_389, hx_391, f_392, h_393, (nle h_393), hx_958, f_959, h_960, h_969, hx_975, f_976, h_977, h_980, c_987, (eq_true h_988), c_1056, (eq_true h_1057), h_1136, h_1152, h_1168, (eq_true h_1184), hx_1194, if_true, if_false, mqM_tp, mqM_size, mqM_limit, mqM_to, mqM_frm, mqM_kind, mqM_number, mqM_sign, mqM_word, MT_.w_tp, MT_.w_size, MT_.w_limit, MT_.w_to, MT_.w_frm, MT_.w_kind, MT_.w_number, MT_.w_sign, MT_.w_word]), (ps_mk hx_1 (kp_s hI_1195) (kp_j hI_1195 (by decide) (kp_j hI_1190 (by decide) (kp_s hI_1186))) (Int.le_of_lt (by have := hj_385; have := (ti_k tx_1194 rc_1); omega)) (Or.inl (by have := hj_385; have := (ti_k tx_1194 rc_1); omega)))⟩ dX12_go_197
                          · skip
                            have n_1199 : ¬ x_958 = 62 := h_1184
                            refine g_iload_n C 0 dX12_go_162 rfl rfl ?_
                            refine g_bipush C (v := 40) dX12_go_163 (by decide) ?_
                            refine g_icmp_eq C (tgt := 174) dX12_go_165 (by decide) (fun h_1200 => ?_) (fun h_1200 => ?_)
                            · skip
                              have r_1201 := (⟨(eq_rg (h_1200) rc_40).1, (eq_rg (h_1200) rc_40).2⟩ : Rg 40 40 x_958)
                              refine g_iconst C (v := 4) dX12_go_174 (by decide) ?_
                              refine g_goto C (tgt := 179) dX12_go_175 (by decide) ?_
                              refine h_putI C K hLx hkx f_12_104 p_12_7 dX12_go_179 (fun I_1202 hI_1202 => ?_)
                              have hU_1203 := iw_put W9 hU_972 hI_1202 (ro_o hkx (by decide)) (lo := 0) (hi := 4) (rfl) (rg_w rc_4 (by decide) (by decide)) rfl
                              have hF_1204 := fq_puto hF_973 hI_1202 hkx (by decide) (by decide)
                              have hs_1205 : MTq I_1202 J_378 x b_2 = (MT_.w_kind (MT_.w_frm s_387 (v_382)) (4)) := by rw [hI_1202]; exact ((mq_kind wmqx).trans (congrArg (fun z : MT_ => MT_.w_kind z (4)) hs_974)).trans rfl
                              refine g_aload_n C 1 dX12_go_182 rfl rfl ?_
                              refine g_iload_n C 0 dX12_go_183 rfl rfl ?_
                              refine h_putI C K hLx hkx f_12_114 p_12_9 dX12_go_184 (fun I_1206 hI_1206 => ?_)
                              have hU_1207 := iw_put W9 hU_1203 hI_1206 (ro_o hkx (by decide)) (lo := (-2147483648)) (hi := 2147483647) (rfl) (rg_all _) rfl
                              have hF_1208 := fq_puto hF_1204 hI_1206 hkx (by decide) (by decide)
                              have hs_1209 : MTq I_1206 J_378 x b_2 = (MT_.w_sign (MT_.w_kind (MT_.w_frm s_387 (v_382)) (4)) (x_958)) := by rw [hI_1206]; exact ((mq_sign wmqx).trans (congrArg (fun z : MT_ => MT_.w_sign z (x_958)) hs_1205)).trans rfl
                              refine g_aload_n C 1 dX12_go_187 rfl rfl ?_
                              refine g_dup C dX12_go_188 rfl ?_
                              refine g_getI C K hLx hkx f_12_95 (v := v_382) (kp_j hI_1206 (by decide) (kp_j hI_1202 (by decide) (kp_j hI_971 (by decide) q_383))) dX12_go_189 ?_
                              refine g_iconst C (v := 1) dX12_go_192 (by decide) ?_
                              obtain ⟨x_1210, hx_1210, rx_1210, tx_1210⟩ := ex_add 1 900 r_981 rc_1 (by decide) (by decide) (by decide) (by decide)
                              refine g_iadd C (v := x_1210) dX12_go_193 hx_1210 ?_
                              refine h_putI C K hLx hkx f_12_95 p_12_5 dX12_go_194 (fun I_1211 hI_1211 => ?_)
                              have hU_1212 := iw_put W9 hU_1207 hI_1211 (ro_o hkx (by decide)) (lo := 0) (hi := 940) (rfl) (rg_w rx_1210 (by decide) (by decide)) rfl
                              have hF_1213 := fq_puto hF_1208 hI_1211 hkx (by decide) (by decide)
                              have hs_1214 : MTq I_1211 J_378 x b_2 = (MT_.w_to (MT_.w_sign (MT_.w_kind (MT_.w_frm s_387 (v_382)) (4)) (x_958)) (x_1210)) := by rw [hI_1211]; exact ((mq_to wmqx).trans (congrArg (fun z : MT_ => MT_.w_to z (x_1210)) hs_1209)).trans rfl
                              exact g_vret B K rfl ⟨hU_1212, hF_1213, hG_381, (by (try simp only [f_390, hx_391, f_392, h_393, (nle h_393), hx_958, f_959, h_960, h_969, hx_975, f_976, h_977, h_980, c_987, (eq_true h_988), c_1056, (eq_true h_1057), h_1136, h_1152, h_1168, h_1184, (eq_true h_1200), hx_1210, if_true, if_false, mqM_tp, mqM_size, mqM_limit, mqM_to, mqM_frm, mqM_kind, mqM_number, mqM_sign, mqM_word, MT_.w_tp, MT_.w_size, MT_.w_limit, MT_.w_to, MT_.w_frm, MT_.w_kind, MT_.w_number, MT_.w_sign, MT_.w_word] at hQ_388); (try simp only [f_390, hx_391, f_392, h_393, (nle h_393), hx_958, f_959, h_960, h_969, hx_975, f_976, h_977, h_980, c_987, (eq_true h_988), c_1056, (eq_true h_1057), h_1136, h_1152, h_1168, h_1184, (eq_true h_1200), hx_1210, if_true, if_false, mqM_tp, mqM_size, mqM_limit, mqM_to, mqM_frm, mqM_kind, mqM_number, mqM_sign, mqM_word, MT_.w_tp, MT_.w_size, MT_.w_limit, MT_.w_to, MT_.w_frm, MT_.w_kind, MT_.w_number, MT_.w_sign, MT_.w_word] at u_389); simp only [mGo, mGo2, mGo3, mGoE, mSg, mStep, mGood, Int32.sub_self, (by decide : (7 ≤ (0 : Int32)) = False), (by decide : (3 ≤ (0 : Int32)) = False), (by decide : 10 * (0 : Int32) = 0), emqx, hs_1214, hs_3, hQ_388, f_390, u_389, hx_391, f_392, h_393, (nle h_393), hx_958, f_959, h_960, h_969, hx_975, f_976, h_977, h_980, c_987, (eq_true h_988), c_1056, (eq_true h_1057), h_1136, h_1152, h_1168, h_1184, (eq_true h_1200), hx_1210, if_true, if_false, mqM_tp, mqM_size, mqM_limit, mqM_to, mqM_frm, mqM_kind, mqM_number, mqM_sign, mqM_word, MT_.w_tp, MT_.w_size, MT_.w_limit, MT_.w_to, MT_.w_frm, MT_.w_kind, MT_.w_number, MT_.w_sign, MT_.w_word]), (ps_mk hx_1 (kp_s hI_1211) (kp_j hI_1211 (by decide) (kp_j hI_1206 (by decide) (kp_s hI_1202))) (Int.le_of_lt (by have := hj_385; have := (ti_k tx_1210 rc_1); omega)) (Or.inl (by have := hj_385; have := (ti_k tx_1210 rc_1); omega)))⟩ dX12_go_197
                            · skip
                              have n_1215 : ¬ x_958 = 40 := h_1200
                              refine g_iload_n C 0 dX12_go_168 rfl rfl ?_
                              refine g_bipush C (v := 41) dX12_go_169 (by decide) ?_
                              refine g_icmp_ne C (tgt := 178) dX12_go_171 (by decide) (fun h_1216 => ?_) (fun h_1216 => ?_)
                              · skip
                                have n_1217 : ¬ x_958 = 41 := h_1216
                                refine g_iconst C (v := 1) dX12_go_178 (by decide) ?_
                                refine h_putI C K hLx hkx f_12_104 p_12_7 dX12_go_179 (fun I_1218 hI_1218 => ?_)
                                have hU_1219 := iw_put W9 hU_972 hI_1218 (ro_o hkx (by decide)) (lo := 0) (hi := 4) (rfl) (rg_w rc_1 (by decide) (by decide)) rfl
                                have hF_1220 := fq_puto hF_973 hI_1218 hkx (by decide) (by decide)
                                have hs_1221 : MTq I_1218 J_378 x b_2 = (MT_.w_kind (MT_.w_frm s_387 (v_382)) (1)) := by rw [hI_1218]; exact ((mq_kind wmqx).trans (congrArg (fun z : MT_ => MT_.w_kind z (1)) hs_974)).trans rfl
                                refine g_aload_n C 1 dX12_go_182 rfl rfl ?_
                                refine g_iload_n C 0 dX12_go_183 rfl rfl ?_
                                refine h_putI C K hLx hkx f_12_114 p_12_9 dX12_go_184 (fun I_1222 hI_1222 => ?_)
                                have hU_1223 := iw_put W9 hU_1219 hI_1222 (ro_o hkx (by decide)) (lo := (-2147483648)) (hi := 2147483647) (rfl) (rg_all _) rfl
                                have hF_1224 := fq_puto hF_1220 hI_1222 hkx (by decide) (by decide)
                                have hs_1225 : MTq I_1222 J_378 x b_2 = (MT_.w_sign (MT_.w_kind (MT_.w_frm s_387 (v_382)) (1)) (x_958)) := by rw [hI_1222]; exact ((mq_sign wmqx).trans (congrArg (fun z : MT_ => MT_.w_sign z (x_958)) hs_1221)).trans rfl
                                refine g_aload_n C 1 dX12_go_187 rfl rfl ?_
                                refine g_dup C dX12_go_188 rfl ?_
                                refine g_getI C K hLx hkx f_12_95 (v := v_382) (kp_j hI_1222 (by decide) (kp_j hI_1218 (by decide) (kp_j hI_971 (by decide) q_383))) dX12_go_189 ?_
                                refine g_iconst C (v := 1) dX12_go_192 (by decide) ?_
                                obtain ⟨x_1226, hx_1226, rx_1226, tx_1226⟩ := ex_add 1 900 r_981 rc_1 (by decide) (by decide) (by decide) (by decide)
                                refine g_iadd C (v := x_1226) dX12_go_193 hx_1226 ?_
                                refine h_putI C K hLx hkx f_12_95 p_12_5 dX12_go_194 (fun I_1227 hI_1227 => ?_)
                                have hU_1228 := iw_put W9 hU_1223 hI_1227 (ro_o hkx (by decide)) (lo := 0) (hi := 940) (rfl) (rg_w rx_1226 (by decide) (by decide)) rfl
                                have hF_1229 := fq_puto hF_1224 hI_1227 hkx (by decide) (by decide)
                                have hs_1230 : MTq I_1227 J_378 x b_2 = (MT_.w_to (MT_.w_sign (MT_.w_kind (MT_.w_frm s_387 (v_382)) (1)) (x_958)) (x_1226)) := by rw [hI_1227]; exact ((mq_to wmqx).trans (congrArg (fun z : MT_ => MT_.w_to z (x_1226)) hs_1225)).trans rfl
                                exact g_vret B K rfl ⟨hU_1228, hF_1229, hG_381, (by (try simp only [f_390, hx_391, f_392, h_393, (nle h_393), hx_958, f_959, h_960, h_969, hx_975, f_976, h_977, h_980, c_987, (eq_true h_988), c_1056, (eq_true h_1057), h_1136, h_1152, h_1168, h_1184, h_1200, h_1216, hx_1226, if_true, if_false, mqM_tp, mqM_size, mqM_limit, mqM_to, mqM_frm, mqM_kind, mqM_number, mqM_sign, mqM_word, MT_.w_tp, MT_.w_size, MT_.w_limit, MT_.w_to, MT_.w_frm, MT_.w_kind, MT_.w_number, MT_.w_sign, MT_.w_word] at hQ_388); (try simp only [f_390, hx_391, f_392, h_393, (nle h_393), hx_958, f_959, h_960, h_969, hx_975, f_976, h_977, h_980, c_987, (eq_true h_988), c_1056, (eq_true h_1057), h_1136, h_1152, h_1168, h_1184, h_1200, h_1216, hx_1226, if_true, if_false, mqM_tp, mqM_size, mqM_limit, mqM_to, mqM_frm, mqM_kind, mqM_number, mqM_sign, mqM_word, MT_.w_tp, MT_.w_size, MT_.w_limit, MT_.w_to, MT_.w_frm, MT_.w_kind, MT_.w_number, MT_.w_sign, MT_.w_word] at u_389); simp only [mGo, mGo2, mGo3, mGoE, mSg, mStep, mGood, Int32.sub_self, (by decide : (7 ≤ (0 : Int32)) = False), (by decide : (3 ≤ (0 : Int32)) = False), (by decide : 10 * (0 : Int32) = 0), emqx, hs_1230, hs_3, hQ_388, f_390, u_389, hx_391, f_392, h_393, (nle h_393), hx_958, f_959, h_960, h_969, hx_975, f_976, h_977, h_980, c_987, (eq_true h_988), c_1056, (eq_true h_1057), h_1136, h_1152, h_1168, h_1184, h_1200, h_1216, hx_1226, if_true, if_false, mqM_tp, mqM_size, mqM_limit, mqM_to, mqM_frm, mqM_kind, mqM_number, mqM_sign, mqM_word, MT_.w_tp, MT_.w_size, MT_.w_limit, MT_.w_to, MT_.w_frm, MT_.w_kind, MT_.w_number, MT_.w_sign, MT_.w_word]), (ps_mk hx_1 (kp_s hI_1227) (kp_j hI_1227 (by decide) (kp_j hI_1222 (by decide) (kp_s hI_1218))) (by have := hj_385; have := (ti_k tx_1226 rc_1); omega) (Or.inr (by have := (rc_1).2; omega)))⟩ dX12_go_197
                              · skip
                                have r_1231 := (⟨(eq_rg (h_1216) rc_41).1, (eq_rg (h_1216) rc_41).2⟩ : Rg 41 41 x_958)
                                refine g_iconst C (v := 4) dX12_go_174 (by decide) ?_
                                refine g_goto C (tgt := 179) dX12_go_175 (by decide) ?_
                                refine h_putI C K hLx hkx f_12_104 p_12_7 dX12_go_179 (fun I_1232 hI_1232 => ?_)
                                have hU_1233 := iw_put W9 hU_972 hI_1232 (ro_o hkx (by decide)) (lo := 0) (hi := 4) (rfl) (rg_w rc_4 (by decide) (by decide)) rfl
                                have hF_1234 := fq_puto hF_973 hI_1232 hkx (by decide) (by decide)
                                have hs_1235 : MTq I_1232 J_378 x b_2 = (MT_.w_kind (MT_.w_frm s_387 (v_382)) (4)) := by rw [hI_1232]; exact ((mq_kind wmqx).trans (congrArg (fun z : MT_ => MT_.w_kind z (4)) hs_974)).trans rfl
                                refine g_aload_n C 1 dX12_go_182 rfl rfl ?_
                                refine g_iload_n C 0 dX12_go_183 rfl rfl ?_
                                refine h_putI C K hLx hkx f_12_114 p_12_9 dX12_go_184 (fun I_1236 hI_1236 => ?_)
                                have hU_1237 := iw_put W9 hU_1233 hI_1236 (ro_o hkx (by decide)) (lo := (-2147483648)) (hi := 2147483647) (rfl) (rg_all _) rfl
                                have hF_1238 := fq_puto hF_1234 hI_1236 hkx (by decide) (by decide)
                                have hs_1239 : MTq I_1236 J_378 x b_2 = (MT_.w_sign (MT_.w_kind (MT_.w_frm s_387 (v_382)) (4)) (x_958)) := by rw [hI_1236]; exact ((mq_sign wmqx).trans (congrArg (fun z : MT_ => MT_.w_sign z (x_958)) hs_1235)).trans rfl
                                refine g_aload_n C 1 dX12_go_187 rfl rfl ?_
                                refine g_dup C dX12_go_188 rfl ?_
                                refine g_getI C K hLx hkx f_12_95 (v := v_382) (kp_j hI_1236 (by decide) (kp_j hI_1232 (by decide) (kp_j hI_971 (by decide) q_383))) dX12_go_189 ?_
                                refine g_iconst C (v := 1) dX12_go_192 (by decide) ?_
                                obtain ⟨x_1240, hx_1240, rx_1240, tx_1240⟩ := ex_add 1 900 r_981 rc_1 (by decide) (by decide) (by decide) (by decide)
                                refine g_iadd C (v := x_1240) dX12_go_193 hx_1240 ?_
                                refine h_putI C K hLx hkx f_12_95 p_12_5 dX12_go_194 (fun I_1241 hI_1241 => ?_)
                                have hU_1242 := iw_put W9 hU_1237 hI_1241 (ro_o hkx (by decide)) (lo := 0) (hi := 940) (rfl) (rg_w rx_1240 (by decide) (by decide)) rfl
                                have hF_1243 := fq_puto hF_1238 hI_1241 hkx (by decide) (by decide)
                                have hs_1244 : MTq I_1241 J_378 x b_2 = (MT_.w_to (MT_.w_sign (MT_.w_kind (MT_.w_frm s_387 (v_382)) (4)) (x_958)) (x_1240)) := by rw [hI_1241]; exact ((mq_to wmqx).trans (congrArg (fun z : MT_ => MT_.w_to z (x_1240)) hs_1239)).trans rfl
                                exact g_vret B K rfl ⟨hU_1242, hF_1243, hG_381, (by (try simp only [f_390, hx_391, f_392, h_393, (nle h_393), hx_958, f_959, h_960, h_969, hx_975, f_976, h_977, h_980, c_987, (eq_true h_988), c_1056, (eq_true h_1057), h_1136, h_1152, h_1168, h_1184, h_1200, (eq_true h_1216), hx_1240, if_true, if_false, mqM_tp, mqM_size, mqM_limit, mqM_to, mqM_frm, mqM_kind, mqM_number, mqM_sign, mqM_word, MT_.w_tp, MT_.w_size, MT_.w_limit, MT_.w_to, MT_.w_frm, MT_.w_kind, MT_.w_number, MT_.w_sign, MT_.w_word] at hQ_388); (try simp only [f_390, hx_391, f_392, h_393, (nle h_393), hx_958, f_959, h_960, h_969, hx_975, f_976, h_977, h_980, c_987, (eq_true h_988), c_1056, (eq_true h_1057), h_1136, h_1152, h_1168, h_1184, h_1200, (eq_true h_1216), hx_1240, if_true, if_false, mqM_tp, mqM_size, mqM_limit, mqM_to, mqM_frm, mqM_kind, mqM_number, mqM_sign, mqM_word, MT_.w_tp, MT_.w_size, MT_.w_limit, MT_.w_to, MT_.w_frm, MT_.w_kind, MT_.w_number, MT_.w_sign, MT_.w_word] at u_389); simp only [mGo, mGo2, mGo3, mGoE, mSg, mStep, mGood, Int32.sub_self, (by decide : (7 ≤ (0 : Int32)) = False), (by decide : (3 ≤ (0 : Int32)) = False), (by decide : 10 * (0 : Int32) = 0), emqx, hs_1244, hs_3, hQ_388, f_390, u_389, hx_391, f_392, h_393, (nle h_393), hx_958, f_959, h_960, h_969, hx_975, f_976, h_977, h_980, c_987, (eq_true h_988), c_1056, (eq_true h_1057), h_1136, h_1152, h_1168, h_1184, h_1200, (eq_true h_1216), hx_1240, if_true, if_false, mqM_tp, mqM_size, mqM_limit, mqM_to, mqM_frm, mqM_kind, mqM_number, mqM_sign, mqM_word, MT_.w_tp, MT_.w_size, MT_.w_limit, MT_.w_to, MT_.w_frm, MT_.w_kind, MT_.w_number, MT_.w_sign, MT_.w_word]), (ps_mk hx_1 (kp_s hI_1241) (kp_j hI_1241 (by decide) (kp_j hI_1236 (by decide) (kp_s hI_1232))) (Int.le_of_lt (by have := hj_385; have := (ti_k tx_1240 rc_1); omega)) (Or.inl (by have := hj_385; have := (ti_k tx_1240 rc_1); omega)))⟩ dX12_go_197
              · skip
                have r_1245 := le_r (nlt h_980) r_978 r_956
                refine g_aload_n C 0 dX12_go_107 rfl rfl ?_
                refine g_iconst C (v := 0) dX12_go_108 (by decide) ?_
                refine h_putI C K hLx hkx f_12_104 p_12_7 dX12_go_109 (fun I_1246 hI_1246 => ?_)
                have hU_1247 := iw_put W9 hU_972 hI_1246 (ro_o hkx (by decide)) (lo := 0) (hi := 4) (rfl) (rg_w rc_0 (by decide) (by decide)) rfl
                have hF_1248 := fq_puto hF_973 hI_1246 hkx (by decide) (by decide)
                have hs_1249 : MTq I_1246 J_378 x b_2 = (MT_.w_kind (MT_.w_frm s_387 (v_382)) (0)) := by rw [hI_1246]; exact ((mq_kind wmqx).trans (congrArg (fun z : MT_ => MT_.w_kind z (0)) hs_974)).trans rfl
                exact g_vret B K rfl ⟨hU_1247, hF_1248, hG_381, (by first | ((try simp only [f_390, hx_391, f_392, h_393, (nle h_393), hx_958, f_959, h_960, h_969, hx_975, f_976, h_977, h_980, (nlt h_980), if_true, if_false, mqM_tp, mqM_size, mqM_limit, mqM_to, mqM_frm, mqM_kind, mqM_number, mqM_sign, mqM_word, MT_.w_tp, MT_.w_size, MT_.w_limit, MT_.w_to, MT_.w_frm, MT_.w_kind, MT_.w_number, MT_.w_sign, MT_.w_word] at hQ_388); (try simp only [f_390, hx_391, f_392, h_393, (nle h_393), hx_958, f_959, h_960, h_969, hx_975, f_976, h_977, h_980, (nlt h_980), if_true, if_false, mqM_tp, mqM_size, mqM_limit, mqM_to, mqM_frm, mqM_kind, mqM_number, mqM_sign, mqM_word, MT_.w_tp, MT_.w_size, MT_.w_limit, MT_.w_to, MT_.w_frm, MT_.w_kind, MT_.w_number, MT_.w_sign, MT_.w_word] at u_389); simp only [mGo, mGo2, mGo3, mGoE, mSg, mStep, mGood, Int32.sub_self, (by decide : (7 ≤ (0 : Int32)) = False), (by decide : (3 ≤ (0 : Int32)) = False), (by decide : 10 * (0 : Int32) = 0), emqx, hs_1249, hs_3, hQ_388, f_390, u_389, hx_391, f_392, h_393, (nle h_393), hx_958, f_959, h_960, h_969, hx_975, f_976, h_977, h_980, (nlt h_980), if_true, if_false, mqM_tp, mqM_size, mqM_limit, mqM_to, mqM_frm, mqM_kind, mqM_number, mqM_sign, mqM_word, MT_.w_tp, MT_.w_size, MT_.w_limit, MT_.w_to, MT_.w_frm, MT_.w_kind, MT_.w_number, MT_.w_sign, MT_.w_word]; done) | exact absurd (nle h_393) h_980), (ps_mk hx_1 (kp_j hI_1246 (by decide) (kp_j hI_971 (by decide) q_383)) (kp_s hI_1246) (by have := hj_385; omega) (Or.inr (by have := (rc_0).2; omega)))⟩ dX12_go_112
            · skip
              refine g_aload_n C 0 dX12_go_71 rfl rfl ?_
              refine g_getI C K hLx hkx f_12_98 (v := v_382) (kp_s hI_971) dX12_go_72 ?_
              refine g_aload_n C 0 dX12_go_75 rfl rfl ?_
              refine g_getI C K hLx hkx f_12_101 (v := x_975) hx_975 dX12_go_76 ?_
              refine g_icmp_lt C (tgt := 96) dX12_go_79 (by decide) (fun h_1250 => ?_) (fun h_1250 => ?_)
              · skip
                have r_1251 := lt_l (hi := 899) (h_1250) r_956 rx_975 (by decide)
                have r_1252 := lt_r (lo := 1) (h_1250) r_956 rx_975 (by decide)
                refine g_aload_n C 0 dX12_go_96 rfl rfl ?_
                refine g_getI C K hLx hkx f_12_95 (v := v_382) (kp_j hI_971 (by decide) q_383) dX12_go_97 ?_
                refine g_aload_n C 0 dX12_go_100 rfl rfl ?_
                refine g_getI C K hLx hkx f_12_92 (v := x_391) (kp_j hI_971 (by decide) hx_391) dX12_go_101 ?_
                refine g_icmp_lt C (tgt := 113) dX12_go_104 (by decide) (fun h_1253 => ?_) (fun h_1253 => ?_)
                · skip
                  refine g_aload_n C 0 dX12_go_113 rfl rfl ?_
                  refine g_getR C K hLx hkx f_12_7 hb_2 dX12_go_114 ?_
                  refine g_aload_n C 0 dX12_go_117 rfl rfl ?_
                  refine g_getI C K hLx hkx f_12_95 (v := v_382) (kp_j hI_971 (by decide) q_383) dX12_go_118 ?_
                  refine h_iald C K hb_2L hb_2k (v := x_958) (v_382.toNatClampNeg) (rfl) (ix_0 r_1251 (by decide)) (ix_lt r_1251 (by decide) hb_2n (by decide)) (kp_k (κ := κ) hI_971 (by rw [hb_2k, hkx]; decide) hx_958) dX12_go_121 ?_
                  refine g_istore_n C dX12_go_122 rfl (by decide) (lo2 := [(1, .int x_958), (0, .ref x)]) rfl ?_
                  refine g_iload_n C 0 dX12_go_123 rfl rfl ?_
                  refine g_callSI C K (c_X12_isLetter W9 x_958  hU_972) s_12_107 rfl ⟨rfl, rfl⟩ ⟨Nat.le_of_ble_eq_true rfl, Nat.le_of_ble_eq_true rfl⟩ (Nat.le_of_ble_eq_true rfl) ⟨Nat.le_of_ble_eq_true rfl, Nat.le_of_ble_eq_true rfl⟩ dX12_go_124 rfl (st := []) (fun x_1255 I_1256 J_1257 h_1258 => ?_)
                  obtain ⟨rfl, rfl, rx_1255, fx_1255, ex_1255⟩ := h_1258
                  have c_1259 : isLc (x_958) = x_1255 := fx_1255.symm
                  refine g_if_ne C (tgt := 198) dX12_go_127 (by decide) (fun h_1260 => ?_) (fun h_1260 => ?_)
                  · skip
                    have n_1261 : ¬ x_1255 = 0 := h_1260
                    have r_1262 := ne_lo (lo := 1) n_1261 rx_1255 rc_0 rfl (by decide)
                    have r_1263 := rg_i rx_958 ((ex_1255.2) n_1261) (lo := 97) (hi := 122) (by decide) (by decide)
                    refine g_iload_n C 0 dX12_go_198 rfl rfl ?_
                    refine g_callSI C K (c_X12_isLetter W9 x_958  hU_972) s_12_107 rfl ⟨rfl, rfl⟩ ⟨Nat.le_of_ble_eq_true rfl, Nat.le_of_ble_eq_true rfl⟩ (Nat.le_of_ble_eq_true rfl) ⟨Nat.le_of_ble_eq_true rfl, Nat.le_of_ble_eq_true rfl⟩ dX12_go_199 rfl (st := []) (fun x_1264 I_1265 J_1266 h_1267 => ?_)
                    obtain ⟨rfl, rfl, rx_1264, fx_1264, ex_1264⟩ := h_1267
                    have c_1268 : isLc (x_958) = x_1264 := fx_1264.symm
                    have ec_1268 : x_1255 = x_1264 := c_1259.symm.trans c_1268
                    subst ec_1268
                    refine g_istore_n C dX12_go_202 rfl (by decide) (lo2 := [(2, .int x_1255), (1, .int x_958), (0, .ref x)]) rfl ?_
                    refine g_iconst C (v := 1) dX12_go_203 (by decide) ?_
                    refine g_istore_n C dX12_go_204 rfl (by decide) (lo2 := [(3, .int 1), (2, .int x_1255), (1, .int x_958), (0, .ref x)]) rfl ?_
                    refine g_aload_n C 3 dX12_go_205 rfl rfl ?_
                    refine g_lconst C (v := 0) dX12_go_206 (by decide) ?_
                    refine h_putJ C K hLx hkx f_12_117 p_12_12 dX12_go_207 (fun J_1269 hJ_1269 => ?_)
                    have hG_1270 := fq_puto hG_381 hJ_1269 hkx (by decide) (by decide)
                    have hs_1271 : MTq I_971 J_1269 x b_2 = (MT_.w_word (MT_.w_frm s_387 (v_382)) (0)) := by rw [hJ_1269]; exact ((mq_word wmqx).trans (congrArg (fun z : MT_ => MT_.w_word z (0)) hs_974)).trans rfl
                    refine g_aload_n C 3 dX12_go_210 rfl rfl ?_
                    refine g_iconst C (v := 0) dX12_go_211 (by decide) ?_
                    refine h_putI C K hLx hkx f_12_121 p_12_8 dX12_go_212 (fun I_1272 hI_1272 => ?_)
                    have hU_1273 := iw_put W9 hU_972 hI_1272 (ro_o hkx (by decide)) (lo := (-2147483648)) (hi := 2147483647) (rfl) (rg_all _) rfl
                    have hF_1274 := fq_puto hF_973 hI_1272 hkx (by decide) (by decide)
                    have hs_1275 : MTq I_1272 J_1269 x b_2 = (MT_.w_number (MT_.w_word (MT_.w_frm s_387 (v_382)) (0)) (0)) := by rw [hI_1272]; exact ((mq_number wmqx).trans (congrArg (fun z : MT_ => MT_.w_number z (0)) hs_1271)).trans rfl
                    have u_1276 := mrun_eq (lt := x_1255) (g := 1) (m := (MT_.w_number (MT_.w_word (MT_.w_frm s_387 (v_382)) (0)) (0))) ((congrArg MT_.to hs_1275).symm.trans (kp_j hI_1272 (by decide) (kp_j hI_971 (by decide) q_383))) (rg_w r_1251 (by decide) (by decide))
                    refine g_aload_n C 3 dX12_go_215 rfl rfl ?_
                    refine g_aload_n C 3 dX12_go_216 rfl rfl ?_
                    refine g_getI C K hLx hkx f_12_95 (v := v_382) (kp_j hI_1272 (by decide) (kp_j hI_971 (by decide) q_383)) dX12_go_217 ?_
                    refine g_callVI C K (c_X12_tapeAt W9 hLx hkx v_382 (rg_w r_1251 (by decide) (by decide)) hU_1273) hLx hkx (by decide) rfl v_12_124 rfl ⟨rfl, rfl⟩ ⟨Nat.le_of_ble_eq_true rfl, Nat.le_of_ble_eq_true rfl⟩ (Nat.le_of_ble_eq_true rfl) ⟨Nat.le_of_ble_eq_true rfl, Nat.le_of_ble_eq_true rfl⟩ dX12_go_220 rfl (st := []) (fun x_1277 I_1278 J_1279 h_1280 => ?_)
                    obtain ⟨rfl, rfl, rx_1277, fx_1277, ex_1277⟩ := h_1280
                    have c_1281 : mTapeAt (v_382) ((MT_.w_number (MT_.w_word (MT_.w_frm s_387 (v_382)) (0)) (0))) = x_1277 := by have q := fx_1277; simp only [emqx, hs_1275] at q; exact q.symm
                    have r_1282 := eq_rg ((ex_1277.1 _ hb_2 (by rw [(kp_j hI_1272 (by decide) (kp_j hI_971 (by decide) hx_391))]; exact h_1253)).trans (kp_k (κ := κ) hI_1272 (by rw [hb_2k, hkx]; decide) (kp_k (κ := κ) hI_971 (by rw [hb_2k, hkx]; decide) hx_958))) r_1263
                    refine g_callSI C K (c_X12_isLetter W9 x_1277  hU_1273) s_12_107 rfl ⟨rfl, rfl⟩ ⟨Nat.le_of_ble_eq_true rfl, Nat.le_of_ble_eq_true rfl⟩ (Nat.le_of_ble_eq_true rfl) ⟨Nat.le_of_ble_eq_true rfl, Nat.le_of_ble_eq_true rfl⟩ dX12_go_223 rfl (st := []) (fun x_1283 I_1284 J_1285 h_1286 => ?_)
                    obtain ⟨rfl, rfl, rx_1283, fx_1283, ex_1283⟩ := h_1286
                    have c_1287 : isLc (x_1277) = x_1283 := fx_1283.symm
                    have n_1288 : ¬ x_1283 = 0 := by rcases ex_1283.1 with q | q | q; exact q; exact absurd q (by have := (r_1282).1; omega); exact absurd q (by have := (r_1282).2; omega)
                    have n_1289 : ¬ x_1283 = 0 := n_1288
                    have r_1290 := ne_lo (lo := 1) n_1289 rx_1283 rc_0 rfl (by decide)
                    refine g_if_ne C (tgt := 243) dX12_go_226 (by decide) (fun h_1291 => ?_) (fun h_1291 => ?_)
                    · skip
                      have n_1292 : ¬ x_1283 = 0 := h_1291
                      refine g_aload_n C 3 dX12_go_243 rfl rfl ?_
                      refine g_getR C K hLx hkx f_12_7 hb_2 dX12_go_244 ?_
                      refine g_aload_n C 3 dX12_go_247 rfl rfl ?_
                      refine g_getI C K hLx hkx f_12_95 (v := v_382) (kp_j hI_1272 (by decide) (kp_j hI_971 (by decide) q_383)) dX12_go_248 ?_
                      refine h_iald C K hb_2L hb_2k (v := x_958) (v_382.toNatClampNeg) (rfl) (ix_0 r_1251 (by decide)) (ix_lt r_1251 (by decide) hb_2n (by decide)) (kp_k (κ := κ) hI_1272 (by rw [hb_2k, hkx]; decide) (kp_k (κ := κ) hI_971 (by rw [hb_2k, hkx]; decide) hx_958)) dX12_go_251 ?_
                      refine g_istore C dX12_go_252 (by decide) (lo2 := [(4, .int x_958), (3, .int 1), (2, .int x_1255), (1, .int x_958), (0, .ref x)]) rfl ?_
                      refine g_iload_n C 1 dX12_go_254 rfl rfl ?_
                      refine g_if_eq C (tgt := 271) dX12_go_255 (by decide) (fun h_1294 => ?_) (fun h_1294 => ?_)
                      · skip
                        exact absurd (h_1294) (by decide)
                      · skip
                        refine g_iload C 0 dX12_go_258 rfl ?_
                        refine g_callSI C K (c_X12_isLetter W9 x_958  hU_1273) s_12_107 rfl ⟨rfl, rfl⟩ ⟨Nat.le_of_ble_eq_true rfl, Nat.le_of_ble_eq_true rfl⟩ (Nat.le_of_ble_eq_true rfl) ⟨Nat.le_of_ble_eq_true rfl, Nat.le_of_ble_eq_true rfl⟩ dX12_go_260 rfl (st := []) (fun x_1295 I_1296 J_1297 h_1298 => ?_)
                        obtain ⟨rfl, rfl, rx_1295, fx_1295, ex_1295⟩ := h_1298
                        have c_1299 : isLc (x_958) = x_1295 := fx_1295.symm
                        have ec_1299 : x_1255 = x_1295 := c_1259.symm.trans c_1299
                        subst ec_1299
                        refine g_iload_n C 2 dX12_go_263 rfl rfl ?_
                        refine g_icmp_ne C (tgt := 271) dX12_go_264 (by decide) (fun h_1300 => ?_) (fun h_1300 => ?_)
                        · skip
                          exact ne_no (h_1300) r_1262 r_1262
                        · skip
                          refine g_iconst C (v := 1) dX12_go_267 (by decide) ?_
                          refine g_goto C (tgt := 272) dX12_go_268 (by decide) ?_
                          refine g_istore_n C dX12_go_272 rfl (by decide) (lo2 := [(3, .int 1), (4, .int x_958), (2, .int x_1255), (1, .int x_958), (0, .ref x)]) rfl ?_
                          refine g_aload_n C 4 dX12_go_273 rfl rfl ?_
                          refine g_getI C K hLx hkx f_12_95 (v := v_382) (kp_j hI_1272 (by decide) (kp_j hI_971 (by decide) q_383)) dX12_go_274 ?_
                          refine g_aload_n C 4 dX12_go_277 rfl rfl ?_
                          refine g_getI C K hLx hkx f_12_98 (v := v_382) (kp_j hI_1272 (by decide) (kp_s hI_971)) dX12_go_278 ?_
                          refine g_isub C (v := 0) dX12_go_281 (Int32.sub_self _) ?_
                          refine g_bipush C (v := 7) dX12_go_282 (by decide) ?_
                          refine g_icmp_ge C (tgt := 307) dX12_go_284 (by decide) (fun h_1301 => ?_) (fun h_1301 => ?_)
                          · skip
                            exact absurd (h_1301) (by decide)
                          · skip
                            refine g_aload_n C 4 dX12_go_287 rfl rfl ?_
                            refine g_ldc2 C kl_128 dX12_go_288 ?_
                            refine g_aload_n C 4 dX12_go_291 rfl rfl ?_
                            obtain ⟨y_1302, hy_1302⟩ : ∃ z, J_1269 x 12 = z := ⟨_, rfl⟩
                            have e_1303 : 0 = y_1302 := (congrArg MT_.word hs_1275).symm.trans hy_1302
                            subst e_1303
                            refine g_getJ C K hLx hkx f_12_117 (v := 0) hy_1302 dX12_go_292 ?_
                            refine g_lmulE C dX12_go_295 (fun y_1304 hy_1304 => ?_)
                            refine g_iload C 1 dX12_go_296 rfl ?_
                            obtain ⟨y_1305, hy_1305⟩ : ∃ z, Int32.toInt64 x_958 = z := ⟨_, rfl⟩
                            refine g_i2l C (v := y_1305) dX12_go_298 hy_1305 ?_
                            refine g_laddE C dX12_go_299 (fun y_1306 hy_1306 => ?_)
                            refine g_ldc2 C kl_130 dX12_go_300 ?_
                            refine g_lsubE C dX12_go_303 (fun y_1307 hy_1307 => ?_)
                            refine h_putJ C K hLx hkx f_12_117 p_12_12 dX12_go_304 (fun J_1308 hJ_1308 => ?_)
                            have hG_1309 := fq_puto hG_1270 hJ_1308 hkx (by decide) (by decide)
                            have hs_1310 : MTq I_1272 J_1308 x b_2 = (MT_.w_word (MT_.w_number (MT_.w_frm s_387 (v_382)) (0)) (y_1307)) := by rw [hJ_1308]; exact ((mq_word wmqx).trans (congrArg (fun z : MT_ => MT_.w_word z (y_1307)) hs_1275)).trans rfl
                            refine g_aload_n C 4 dX12_go_307 rfl rfl ?_
                            refine g_getI C K hLx hkx f_12_95 (v := v_382) (kp_j hI_1272 (by decide) (kp_j hI_971 (by decide) q_383)) dX12_go_308 ?_
                            refine g_aload_n C 4 dX12_go_311 rfl rfl ?_
                            refine g_getI C K hLx hkx f_12_98 (v := v_382) (kp_j hI_1272 (by decide) (kp_s hI_971)) dX12_go_312 ?_
                            refine g_isub C (v := 0) dX12_go_315 (Int32.sub_self _) ?_
                            refine g_iconst C (v := 3) dX12_go_316 (by decide) ?_
                            refine g_icmp_ge C (tgt := 337) dX12_go_317 (by decide) (fun h_1311 => ?_) (fun h_1311 => ?_)
                            · skip
                              exact absurd (h_1311) (by decide)
                            · skip
                              refine g_aload_n C 4 dX12_go_320 rfl rfl ?_
                              refine g_bipush C (v := 10) dX12_go_321 (by decide) ?_
                              refine g_aload_n C 4 dX12_go_323 rfl rfl ?_
                              refine g_getI C K hLx hkx f_12_121 (v := 0) (kp_s hI_1272) dX12_go_324 ?_
                              refine g_imul C (v := 0) dX12_go_327 (by decide) ?_
                              refine g_iload C 1 dX12_go_328 rfl ?_
                              obtain ⟨x_1312, hx_1312, rx_1312, tx_1312⟩ := ex_add 97 122 rc_0 r_1263 (by decide) (by decide) (by decide) (by decide)
                              refine g_iadd C (v := x_1312) dX12_go_330 hx_1312 ?_
                              refine g_bipush C (v := 48) dX12_go_331 (by decide) ?_
                              obtain ⟨x_1313, hx_1313, rx_1313, tx_1313⟩ := ex_sub 49 74 rx_1312 rc_48 (by decide) (by decide) (by decide) (by decide)
                              refine g_isub C (v := x_1313) dX12_go_333 hx_1313 ?_
                              refine h_putI C K hLx hkx f_12_121 p_12_8 dX12_go_334 (fun I_1314 hI_1314 => ?_)
                              have hU_1315 := iw_put W9 hU_1273 hI_1314 (ro_o hkx (by decide)) (lo := (-2147483648)) (hi := 2147483647) (rfl) (rg_all _) rfl
                              have hF_1316 := fq_puto hF_1274 hI_1314 hkx (by decide) (by decide)
                              have hs_1317 : MTq I_1314 J_1308 x b_2 = (MT_.w_number (MT_.w_word (MT_.w_frm s_387 (v_382)) (y_1307)) (x_1313)) := by rw [hI_1314]; exact ((mq_number wmqx).trans (congrArg (fun z : MT_ => MT_.w_number z (x_1313)) hs_1310)).trans rfl
                              refine g_aload_n C 4 dX12_go_337 rfl rfl ?_
                              refine g_dup C dX12_go_338 rfl ?_
                              refine g_getI C K hLx hkx f_12_95 (v := v_382) (kp_j hI_1314 (by decide) (kp_j hI_1272 (by decide) (kp_j hI_971 (by decide) q_383))) dX12_go_339 ?_
                              refine g_iconst C (v := 1) dX12_go_342 (by decide) ?_
                              obtain ⟨x_1318, hx_1318, rx_1318, tx_1318⟩ := ex_add 1 900 r_1251 rc_1 (by decide) (by decide) (by decide) (by decide)
                              refine g_iadd C (v := x_1318) dX12_go_343 hx_1318 ?_
                              refine h_putI C K hLx hkx f_12_95 p_12_5 dX12_go_344 (fun I_1319 hI_1319 => ?_)
                              have hU_1320 := iw_put W9 hU_1315 hI_1319 (ro_o hkx (by decide)) (lo := 0) (hi := 940) (rfl) (rg_w rx_1318 (by decide) (by decide)) rfl
                              have hF_1321 := fq_puto hF_1316 hI_1319 hkx (by decide) (by decide)
                              have hs_1322 : MTq I_1319 J_1308 x b_2 = (MT_.w_to (MT_.w_number (MT_.w_word (MT_.w_frm s_387 (v_382)) (y_1307)) (x_1313)) (x_1318)) := by rw [hI_1319]; exact ((mq_to wmqx).trans (congrArg (fun z : MT_ => MT_.w_to z (x_1318)) hs_1317)).trans rfl
                              refine g_goto C (tgt := 215) dX12_go_347 (by decide) ?_
                              refine g_lo (is := [4, 3, 2, 0, 1]) (lo2 := [(0, .ref x), (1, .int x_958), (2, .int x_1255), (3, .int 1), (4, .int x_958)]) rfl ?_
                              exact l_215 940 I_1319 J_1308 hU_1320 hF_1321 hG_1309 x_958 (rg_w r_1263 (by decide) (by decide)) (n_970) (n_967) x_1255 (rg_w r_1262 (by decide) (by decide)) 1 (rg_w rc_1 (by decide) (by decide)) x_958 (rg_w r_1263 (by decide) (by decide)) x_391 (r_957) x_975 (rg_w r_1252 (by decide) (by decide)) x_1318 (rg_w rx_1318 (by decide) (by decide)) v_382 (r_1251) x_1313 (kp_j hI_1319 (by decide) (kp_j hI_1314 (by decide) (kp_j hI_1272 (by decide) (kp_j hI_971 (by decide) hx_391)))) (kp_j hI_1319 (by decide) (kp_j hI_1314 (by decide) (kp_j hI_1272 (by decide) hx_975))) (kp_s hI_1319) (kp_j hI_1319 (by decide) (kp_j hI_1314 (by decide) (kp_j hI_1272 (by decide) (kp_s hI_971)))) (kp_j hI_1319 (by decide) (kp_s hI_1314)) (by (try simp only [f_390, hx_391, f_392, h_393, (nle h_393), hx_958, f_959, h_960, h_969, hx_975, f_976, h_977, (nle h_977), h_1250, h_1253, c_1259, h_1260, c_1287, h_1291, h_1294, (eq_true h_1300), h_1301, (nle h_1301), hy_1302, hy_1304, hy_1305, hy_1306, hy_1307, h_1311, (nle h_1311), hx_1312, hx_1313, hx_1318, if_true, if_false, mqM_tp, mqM_size, mqM_limit, mqM_to, mqM_frm, mqM_kind, mqM_number, mqM_sign, mqM_word, MT_.w_tp, MT_.w_size, MT_.w_limit, MT_.w_to, MT_.w_frm, MT_.w_kind, MT_.w_number, MT_.w_sign, MT_.w_word] at hQ_388); (try simp only [f_390, hx_391, f_392, h_393, (nle h_393), hx_958, f_959, h_960, h_969, hx_975, f_976, h_977, (nle h_977), h_1250, h_1253, c_1259, h_1260, c_1287, h_1291, h_1294, (eq_true h_1300), h_1301, (nle h_1301), hy_1302, hy_1304, hy_1305, hy_1306, hy_1307, h_1311, (nle h_1311), hx_1312, hx_1313, hx_1318, if_true, if_false, mqM_tp, mqM_size, mqM_limit, mqM_to, mqM_frm, mqM_kind, mqM_number, mqM_sign, mqM_word, MT_.w_tp, MT_.w_size, MT_.w_limit, MT_.w_to, MT_.w_frm, MT_.w_kind, MT_.w_number, MT_.w_sign, MT_.w_word] at u_389); (try simp only [f_390, hx_391, f_392, h_393, (nle h_393), hx_958, f_959, h_960, h_969, hx_975, f_976, h_977, (nle h_977), h_1250, h_1253, c_1259, h_1260, c_1287, h_1291, h_1294, (eq_true h_1300), h_1301, (nle h_1301), hy_1302, hy_1304, hy_1305, hy_1306, hy_1307, h_1311, (nle h_1311), hx_1312, hx_1313, hx_1318, if_true, if_false, mqM_tp, mqM_size, mqM_limit, mqM_to, mqM_frm, mqM_kind, mqM_number, mqM_sign, mqM_word, MT_.w_tp, MT_.w_size, MT_.w_limit, MT_.w_to, MT_.w_frm, MT_.w_kind, MT_.w_number, MT_.w_sign, MT_.w_word] at u_1276); (try simp only [f_390, hx_391, f_392, h_393, (nle h_393), hx_958, f_959, h_960, h_969, hx_975, f_976, h_977, (nle h_977), h_1250, h_1253, c_1259, h_1260, c_1287, h_1291, h_1294, (eq_true h_1300), h_1301, (nle h_1301), hy_1302, hy_1304, hy_1305, hy_1306, hy_1307, h_1311, (nle h_1311), hx_1312, hx_1313, hx_1318, if_true, if_false, mqM_tp, mqM_size, mqM_limit, mqM_to, mqM_frm, mqM_kind, mqM_number, mqM_sign, mqM_word, MT_.w_tp, MT_.w_size, MT_.w_limit, MT_.w_to, MT_.w_frm, MT_.w_kind, MT_.w_number, MT_.w_sign, MT_.w_word] at c_1281); simp only [mGo, mGo2, mGo3, mGoE, mSg, mStep, mGood, Int32.sub_self, (by decide : (7 ≤ (0 : Int32)) = False), (by decide : (3 ≤ (0 : Int32)) = False), (by decide : 10 * (0 : Int32) = 0), emqx, hs_1322, hs_3, hQ_388, f_390, u_389, hx_391, f_392, h_393, (nle h_393), hx_958, f_959, h_960, h_969, hx_975, f_976, h_977, (nle h_977), h_1250, h_1253, c_1259, h_1260, u_1276, c_1281, c_1287, h_1291, h_1294, (eq_true h_1300), h_1301, (nle h_1301), hy_1302, hy_1304, hy_1305, hy_1306, hy_1307, h_1311, (nle h_1311), hx_1312, hx_1313, hx_1318, if_true, if_false, mqM_tp, mqM_size, mqM_limit, mqM_to, mqM_frm, mqM_kind, mqM_number, mqM_sign, mqM_word, MT_.w_tp, MT_.w_size, MT_.w_limit, MT_.w_to, MT_.w_frm, MT_.w_kind, MT_.w_number, MT_.w_sign, MT_.w_word]) (by have := hj_385; have := (ti_k tx_1318 rc_1); omega) (ms_s (a := 1) (b := 940) (N := 940) (rg_w rx_1318 (by decide) (by decide)) (by decide))
                    · skip
                      exact eq_no (h_1291) r_1290 rc_0 (by decide)
                  · skip
                    have r_1323 := (⟨(rx_1255).1, (eq_rg (h_1260) rc_0).2⟩ : Rg 0 0 x_1255)
                    refine g_iload_n C 0 dX12_go_130 rfl rfl ?_
                    refine g_callSI C K (c_X12_isDigit W9 x_958  hU_972) s_12_111 rfl ⟨rfl, rfl⟩ ⟨Nat.le_of_ble_eq_true rfl, Nat.le_of_ble_eq_true rfl⟩ (Nat.le_of_ble_eq_true rfl) ⟨Nat.le_of_ble_eq_true rfl, Nat.le_of_ble_eq_true rfl⟩ dX12_go_131 rfl (st := []) (fun x_1324 I_1325 J_1326 h_1327 => ?_)
                    obtain ⟨rfl, rfl, rx_1324, fx_1324, ex_1324⟩ := h_1327
                    have c_1328 : isDc (x_958) = x_1324 := fx_1324.symm
                    refine g_if_ne C (tgt := 198) dX12_go_134 (by decide) (fun h_1329 => ?_) (fun h_1329 => ?_)
                    · skip
                      have n_1330 : ¬ x_1324 = 0 := h_1329
                      have r_1331 := ne_lo (lo := 1) n_1330 rx_1324 rc_0 rfl (by decide)
                      have r_1332 := rg_i rx_958 ((ex_1324.2) n_1330) (lo := 48) (hi := 57) (by decide) (by decide)
                      refine g_iload_n C 0 dX12_go_198 rfl rfl ?_
                      refine g_callSI C K (c_X12_isLetter W9 x_958  hU_972) s_12_107 rfl ⟨rfl, rfl⟩ ⟨Nat.le_of_ble_eq_true rfl, Nat.le_of_ble_eq_true rfl⟩ (Nat.le_of_ble_eq_true rfl) ⟨Nat.le_of_ble_eq_true rfl, Nat.le_of_ble_eq_true rfl⟩ dX12_go_199 rfl (st := []) (fun x_1333 I_1334 J_1335 h_1336 => ?_)
                      obtain ⟨rfl, rfl, rx_1333, fx_1333, ex_1333⟩ := h_1336
                      have c_1337 : isLc (x_958) = x_1333 := fx_1333.symm
                      have ec_1337 : x_1255 = x_1333 := c_1259.symm.trans c_1337
                      subst ec_1337
                      refine g_istore_n C dX12_go_202 rfl (by decide) (lo2 := [(2, .int x_1255), (1, .int x_958), (0, .ref x)]) rfl ?_
                      refine g_iconst C (v := 1) dX12_go_203 (by decide) ?_
                      refine g_istore_n C dX12_go_204 rfl (by decide) (lo2 := [(3, .int 1), (2, .int x_1255), (1, .int x_958), (0, .ref x)]) rfl ?_
                      refine g_aload_n C 3 dX12_go_205 rfl rfl ?_
                      refine g_lconst C (v := 0) dX12_go_206 (by decide) ?_
                      refine h_putJ C K hLx hkx f_12_117 p_12_12 dX12_go_207 (fun J_1338 hJ_1338 => ?_)
                      have hG_1339 := fq_puto hG_381 hJ_1338 hkx (by decide) (by decide)
                      have hs_1340 : MTq I_971 J_1338 x b_2 = (MT_.w_word (MT_.w_frm s_387 (v_382)) (0)) := by rw [hJ_1338]; exact ((mq_word wmqx).trans (congrArg (fun z : MT_ => MT_.w_word z (0)) hs_974)).trans rfl
                      refine g_aload_n C 3 dX12_go_210 rfl rfl ?_
                      refine g_iconst C (v := 0) dX12_go_211 (by decide) ?_
                      refine h_putI C K hLx hkx f_12_121 p_12_8 dX12_go_212 (fun I_1341 hI_1341 => ?_)
                      have hU_1342 := iw_put W9 hU_972 hI_1341 (ro_o hkx (by decide)) (lo := (-2147483648)) (hi := 2147483647) (rfl) (rg_all _) rfl
                      have hF_1343 := fq_puto hF_973 hI_1341 hkx (by decide) (by decide)
                      have hs_1344 : MTq I_1341 J_1338 x b_2 = (MT_.w_number (MT_.w_word (MT_.w_frm s_387 (v_382)) (0)) (0)) := by rw [hI_1341]; exact ((mq_number wmqx).trans (congrArg (fun z : MT_ => MT_.w_number z (0)) hs_1340)).trans rfl
                      have u_1345 := mrun_eq (lt := x_1255) (g := 1) (m := (MT_.w_number (MT_.w_word (MT_.w_frm s_387 (v_382)) (0)) (0))) ((congrArg MT_.to hs_1344).symm.trans (kp_j hI_1341 (by decide) (kp_j hI_971 (by decide) q_383))) (rg_w r_1251 (by decide) (by decide))
                      refine g_aload_n C 3 dX12_go_215 rfl rfl ?_
                      refine g_aload_n C 3 dX12_go_216 rfl rfl ?_
                      refine g_getI C K hLx hkx f_12_95 (v := v_382) (kp_j hI_1341 (by decide) (kp_j hI_971 (by decide) q_383)) dX12_go_217 ?_
                      refine g_callVI C K (c_X12_tapeAt W9 hLx hkx v_382 (rg_w r_1251 (by decide) (by decide)) hU_1342) hLx hkx (by decide) rfl v_12_124 rfl ⟨rfl, rfl⟩ ⟨Nat.le_of_ble_eq_true rfl, Nat.le_of_ble_eq_true rfl⟩ (Nat.le_of_ble_eq_true rfl) ⟨Nat.le_of_ble_eq_true rfl, Nat.le_of_ble_eq_true rfl⟩ dX12_go_220 rfl (st := []) (fun x_1346 I_1347 J_1348 h_1349 => ?_)
                      obtain ⟨rfl, rfl, rx_1346, fx_1346, ex_1346⟩ := h_1349
                      have c_1350 : mTapeAt (v_382) ((MT_.w_number (MT_.w_word (MT_.w_frm s_387 (v_382)) (0)) (0))) = x_1346 := by have q := fx_1346; simp only [emqx, hs_1344] at q; exact q.symm
                      have r_1351 := eq_rg ((ex_1346.1 _ hb_2 (by rw [(kp_j hI_1341 (by decide) (kp_j hI_971 (by decide) hx_391))]; exact h_1253)).trans (kp_k (κ := κ) hI_1341 (by rw [hb_2k, hkx]; decide) (kp_k (κ := κ) hI_971 (by rw [hb_2k, hkx]; decide) hx_958))) r_1332
                      refine g_callSI C K (c_X12_isLetter W9 x_1346  hU_1342) s_12_107 rfl ⟨rfl, rfl⟩ ⟨Nat.le_of_ble_eq_true rfl, Nat.le_of_ble_eq_true rfl⟩ (Nat.le_of_ble_eq_true rfl) ⟨Nat.le_of_ble_eq_true rfl, Nat.le_of_ble_eq_true rfl⟩ dX12_go_223 rfl (st := []) (fun x_1352 I_1353 J_1354 h_1355 => ?_)
                      obtain ⟨rfl, rfl, rx_1352, fx_1352, ex_1352⟩ := h_1355
                      have c_1356 : isLc (x_1346) = x_1352 := fx_1352.symm
                      refine g_if_ne C (tgt := 243) dX12_go_226 (by decide) (fun h_1357 => ?_) (fun h_1357 => ?_)
                      · skip
                        have n_1358 : ¬ x_1352 = 0 := h_1357
                        have r_1359 := ne_lo (lo := 1) n_1358 rx_1352 rc_0 rfl (by decide)
                        have r_1360 := rg_i r_1351 ((ex_1352.2) n_1358) (lo := 97) (hi := 57) (by decide) (by decide)
                        exact rg_no r_1360 (by decide)
                      · skip
                        have r_1361 := (⟨(rx_1352).1, (eq_rg (h_1357) rc_0).2⟩ : Rg 0 0 x_1352)
                        refine g_aload_n C 3 dX12_go_229 rfl rfl ?_
                        refine g_aload_n C 3 dX12_go_230 rfl rfl ?_
                        refine g_getI C K hLx hkx f_12_95 (v := v_382) (kp_j hI_1341 (by decide) (kp_j hI_971 (by decide) q_383)) dX12_go_231 ?_
                        refine g_callVI C K (c_X12_tapeAt W9 hLx hkx v_382 (rg_w r_1251 (by decide) (by decide)) hU_1342) hLx hkx (by decide) rfl v_12_124 rfl ⟨rfl, rfl⟩ ⟨Nat.le_of_ble_eq_true rfl, Nat.le_of_ble_eq_true rfl⟩ (Nat.le_of_ble_eq_true rfl) ⟨Nat.le_of_ble_eq_true rfl, Nat.le_of_ble_eq_true rfl⟩ dX12_go_234 rfl (st := []) (fun x_1362 I_1363 J_1364 h_1365 => ?_)
                        obtain ⟨rfl, rfl, rx_1362, fx_1362, ex_1362⟩ := h_1365
                        have c_1366 : mTapeAt (v_382) ((MT_.w_number (MT_.w_word (MT_.w_frm s_387 (v_382)) (0)) (0))) = x_1362 := by have q := fx_1362; simp only [emqx, hs_1344] at q; exact q.symm
                        have ec_1366 : x_1346 = x_1362 := c_1350.symm.trans c_1366
                        subst ec_1366
                        refine g_callSI C K (c_X12_isDigit W9 x_1346  hU_1342) s_12_111 rfl ⟨rfl, rfl⟩ ⟨Nat.le_of_ble_eq_true rfl, Nat.le_of_ble_eq_true rfl⟩ (Nat.le_of_ble_eq_true rfl) ⟨Nat.le_of_ble_eq_true rfl, Nat.le_of_ble_eq_true rfl⟩ dX12_go_237 rfl (st := []) (fun x_1367 I_1368 J_1369 h_1370 => ?_)
                        obtain ⟨rfl, rfl, rx_1367, fx_1367, ex_1367⟩ := h_1370
                        have c_1371 : isDc (x_1346) = x_1367 := fx_1367.symm
                        have n_1372 : ¬ x_1367 = 0 := by rcases ex_1367.1 with q | q | q; exact q; exact absurd q (by have := (r_1351).1; omega); exact absurd q (by have := (r_1351).2; omega)
                        have n_1373 : ¬ x_1367 = 0 := n_1372
                        have r_1374 := ne_lo (lo := 1) n_1373 rx_1367 rc_0 rfl (by decide)
                        refine g_if_eq C (tgt := 350) dX12_go_240 (by decide) (fun h_1375 => ?_) (fun h_1375 => ?_)
                        · skip
                          exact eq_no (h_1375) r_1374 rc_0 (by decide)
                        · skip
                          have n_1376 : ¬ x_1367 = 0 := h_1375
                          refine g_aload_n C 3 dX12_go_243 rfl rfl ?_
                          refine g_getR C K hLx hkx f_12_7 hb_2 dX12_go_244 ?_
                          refine g_aload_n C 3 dX12_go_247 rfl rfl ?_
                          refine g_getI C K hLx hkx f_12_95 (v := v_382) (kp_j hI_1341 (by decide) (kp_j hI_971 (by decide) q_383)) dX12_go_248 ?_
                          refine h_iald C K hb_2L hb_2k (v := x_958) (v_382.toNatClampNeg) (rfl) (ix_0 r_1251 (by decide)) (ix_lt r_1251 (by decide) hb_2n (by decide)) (kp_k (κ := κ) hI_1341 (by rw [hb_2k, hkx]; decide) (kp_k (κ := κ) hI_971 (by rw [hb_2k, hkx]; decide) hx_958)) dX12_go_251 ?_
                          refine g_istore C dX12_go_252 (by decide) (lo2 := [(4, .int x_958), (3, .int 1), (2, .int x_1255), (1, .int x_958), (0, .ref x)]) rfl ?_
                          refine g_iload_n C 1 dX12_go_254 rfl rfl ?_
                          refine g_if_eq C (tgt := 271) dX12_go_255 (by decide) (fun h_1378 => ?_) (fun h_1378 => ?_)
                          · skip
                            exact absurd (h_1378) (by decide)
                          · skip
                            refine g_iload C 0 dX12_go_258 rfl ?_
                            refine g_callSI C K (c_X12_isLetter W9 x_958  hU_1342) s_12_107 rfl ⟨rfl, rfl⟩ ⟨Nat.le_of_ble_eq_true rfl, Nat.le_of_ble_eq_true rfl⟩ (Nat.le_of_ble_eq_true rfl) ⟨Nat.le_of_ble_eq_true rfl, Nat.le_of_ble_eq_true rfl⟩ dX12_go_260 rfl (st := []) (fun x_1379 I_1380 J_1381 h_1382 => ?_)
                            obtain ⟨rfl, rfl, rx_1379, fx_1379, ex_1379⟩ := h_1382
                            have c_1383 : isLc (x_958) = x_1379 := fx_1379.symm
                            have ec_1383 : x_1255 = x_1379 := c_1259.symm.trans c_1383
                            subst ec_1383
                            refine g_iload_n C 2 dX12_go_263 rfl rfl ?_
                            refine g_icmp_ne C (tgt := 271) dX12_go_264 (by decide) (fun h_1384 => ?_) (fun h_1384 => ?_)
                            · skip
                              exact ne_no (h_1384) r_1323 r_1323
                            · skip
                              refine g_iconst C (v := 1) dX12_go_267 (by decide) ?_
                              refine g_goto C (tgt := 272) dX12_go_268 (by decide) ?_
                              refine g_istore_n C dX12_go_272 rfl (by decide) (lo2 := [(3, .int 1), (4, .int x_958), (2, .int x_1255), (1, .int x_958), (0, .ref x)]) rfl ?_
                              refine g_aload_n C 4 dX12_go_273 rfl rfl ?_
                              refine g_getI C K hLx hkx f_12_95 (v := v_382) (kp_j hI_1341 (by decide) (kp_j hI_971 (by decide) q_383)) dX12_go_274 ?_
                              refine g_aload_n C 4 dX12_go_277 rfl rfl ?_
                              refine g_getI C K hLx hkx f_12_98 (v := v_382) (kp_j hI_1341 (by decide) (kp_s hI_971)) dX12_go_278 ?_
                              refine g_isub C (v := 0) dX12_go_281 (Int32.sub_self _) ?_
                              refine g_bipush C (v := 7) dX12_go_282 (by decide) ?_
                              refine g_icmp_ge C (tgt := 307) dX12_go_284 (by decide) (fun h_1385 => ?_) (fun h_1385 => ?_)
                              · skip
                                exact absurd (h_1385) (by decide)
                              · skip
                                refine g_aload_n C 4 dX12_go_287 rfl rfl ?_
                                refine g_ldc2 C kl_128 dX12_go_288 ?_
                                refine g_aload_n C 4 dX12_go_291 rfl rfl ?_
                                obtain ⟨y_1386, hy_1386⟩ : ∃ z, J_1338 x 12 = z := ⟨_, rfl⟩
                                have e_1387 : 0 = y_1386 := (congrArg MT_.word hs_1344).symm.trans hy_1386
                                subst e_1387
                                refine g_getJ C K hLx hkx f_12_117 (v := 0) hy_1386 dX12_go_292 ?_
                                refine g_lmulE C dX12_go_295 (fun y_1388 hy_1388 => ?_)
                                refine g_iload C 1 dX12_go_296 rfl ?_
                                obtain ⟨y_1389, hy_1389⟩ : ∃ z, Int32.toInt64 x_958 = z := ⟨_, rfl⟩
                                refine g_i2l C (v := y_1389) dX12_go_298 hy_1389 ?_
                                refine g_laddE C dX12_go_299 (fun y_1390 hy_1390 => ?_)
                                refine g_ldc2 C kl_130 dX12_go_300 ?_
                                refine g_lsubE C dX12_go_303 (fun y_1391 hy_1391 => ?_)
                                refine h_putJ C K hLx hkx f_12_117 p_12_12 dX12_go_304 (fun J_1392 hJ_1392 => ?_)
                                have hG_1393 := fq_puto hG_1339 hJ_1392 hkx (by decide) (by decide)
                                have hs_1394 : MTq I_1341 J_1392 x b_2 = (MT_.w_word (MT_.w_number (MT_.w_frm s_387 (v_382)) (0)) (y_1391)) := by rw [hJ_1392]; exact ((mq_word wmqx).trans (congrArg (fun z : MT_ => MT_.w_word z (y_1391)) hs_1344)).trans rfl
                                refine g_aload_n C 4 dX12_go_307 rfl rfl ?_
                                refine g_getI C K hLx hkx f_12_95 (v := v_382) (kp_j hI_1341 (by decide) (kp_j hI_971 (by decide) q_383)) dX12_go_308 ?_
                                refine g_aload_n C 4 dX12_go_311 rfl rfl ?_
                                refine g_getI C K hLx hkx f_12_98 (v := v_382) (kp_j hI_1341 (by decide) (kp_s hI_971)) dX12_go_312 ?_
                                refine g_isub C (v := 0) dX12_go_315 (Int32.sub_self _) ?_
                                refine g_iconst C (v := 3) dX12_go_316 (by decide) ?_
                                refine g_icmp_ge C (tgt := 337) dX12_go_317 (by decide) (fun h_1395 => ?_) (fun h_1395 => ?_)
                                · skip
                                  exact absurd (h_1395) (by decide)
                                · skip
                                  refine g_aload_n C 4 dX12_go_320 rfl rfl ?_
                                  refine g_bipush C (v := 10) dX12_go_321 (by decide) ?_
                                  refine g_aload_n C 4 dX12_go_323 rfl rfl ?_
                                  refine g_getI C K hLx hkx f_12_121 (v := 0) (kp_s hI_1341) dX12_go_324 ?_
                                  refine g_imul C (v := 0) dX12_go_327 (by decide) ?_
                                  refine g_iload C 1 dX12_go_328 rfl ?_
                                  obtain ⟨x_1396, hx_1396, rx_1396, tx_1396⟩ := ex_add 48 57 rc_0 r_1332 (by decide) (by decide) (by decide) (by decide)
                                  refine g_iadd C (v := x_1396) dX12_go_330 hx_1396 ?_
                                  refine g_bipush C (v := 48) dX12_go_331 (by decide) ?_
                                  obtain ⟨x_1397, hx_1397, rx_1397, tx_1397⟩ := ex_sub 0 9 rx_1396 rc_48 (by decide) (by decide) (by decide) (by decide)
                                  refine g_isub C (v := x_1397) dX12_go_333 hx_1397 ?_
                                  refine h_putI C K hLx hkx f_12_121 p_12_8 dX12_go_334 (fun I_1398 hI_1398 => ?_)
                                  have hU_1399 := iw_put W9 hU_1342 hI_1398 (ro_o hkx (by decide)) (lo := (-2147483648)) (hi := 2147483647) (rfl) (rg_all _) rfl
                                  have hF_1400 := fq_puto hF_1343 hI_1398 hkx (by decide) (by decide)
                                  have hs_1401 : MTq I_1398 J_1392 x b_2 = (MT_.w_number (MT_.w_word (MT_.w_frm s_387 (v_382)) (y_1391)) (x_1397)) := by rw [hI_1398]; exact ((mq_number wmqx).trans (congrArg (fun z : MT_ => MT_.w_number z (x_1397)) hs_1394)).trans rfl
                                  refine g_aload_n C 4 dX12_go_337 rfl rfl ?_
                                  refine g_dup C dX12_go_338 rfl ?_
                                  refine g_getI C K hLx hkx f_12_95 (v := v_382) (kp_j hI_1398 (by decide) (kp_j hI_1341 (by decide) (kp_j hI_971 (by decide) q_383))) dX12_go_339 ?_
                                  refine g_iconst C (v := 1) dX12_go_342 (by decide) ?_
                                  obtain ⟨x_1402, hx_1402, rx_1402, tx_1402⟩ := ex_add 1 900 r_1251 rc_1 (by decide) (by decide) (by decide) (by decide)
                                  refine g_iadd C (v := x_1402) dX12_go_343 hx_1402 ?_
                                  refine h_putI C K hLx hkx f_12_95 p_12_5 dX12_go_344 (fun I_1403 hI_1403 => ?_)
                                  have hU_1404 := iw_put W9 hU_1399 hI_1403 (ro_o hkx (by decide)) (lo := 0) (hi := 940) (rfl) (rg_w rx_1402 (by decide) (by decide)) rfl
                                  have hF_1405 := fq_puto hF_1400 hI_1403 hkx (by decide) (by decide)
                                  have hs_1406 : MTq I_1403 J_1392 x b_2 = (MT_.w_to (MT_.w_number (MT_.w_word (MT_.w_frm s_387 (v_382)) (y_1391)) (x_1397)) (x_1402)) := by rw [hI_1403]; exact ((mq_to wmqx).trans (congrArg (fun z : MT_ => MT_.w_to z (x_1402)) hs_1401)).trans rfl
                                  refine g_goto C (tgt := 215) dX12_go_347 (by decide) ?_
                                  refine g_lo (is := [4, 3, 2, 0, 1]) (lo2 := [(0, .ref x), (1, .int x_958), (2, .int x_1255), (3, .int 1), (4, .int x_958)]) rfl ?_
                                  exact l_215 940 I_1403 J_1392 hU_1404 hF_1405 hG_1393 x_958 (rg_w r_1332 (by decide) (by decide)) (n_970) (n_967) x_1255 (rg_w r_1323 (by decide) (by decide)) 1 (rg_w rc_1 (by decide) (by decide)) x_958 (rg_w r_1332 (by decide) (by decide)) x_391 (r_957) x_975 (rg_w r_1252 (by decide) (by decide)) x_1402 (rg_w rx_1402 (by decide) (by decide)) v_382 (r_1251) x_1397 (kp_j hI_1403 (by decide) (kp_j hI_1398 (by decide) (kp_j hI_1341 (by decide) (kp_j hI_971 (by decide) hx_391)))) (kp_j hI_1403 (by decide) (kp_j hI_1398 (by decide) (kp_j hI_1341 (by decide) hx_975))) (kp_s hI_1403) (kp_j hI_1403 (by decide) (kp_j hI_1398 (by decide) (kp_j hI_1341 (by decide) (kp_s hI_971)))) (kp_j hI_1403 (by decide) (kp_s hI_1398)) (by (try simp only [f_390, hx_391, f_392, h_393, (nle h_393), hx_958, f_959, h_960, h_969, hx_975, f_976, h_977, (nle h_977), h_1250, h_1253, c_1259, (eq_true h_1260), c_1328, h_1329, c_1356, (eq_true h_1357), c_1371, h_1375, h_1378, (eq_true h_1384), h_1385, (nle h_1385), hy_1386, hy_1388, hy_1389, hy_1390, hy_1391, h_1395, (nle h_1395), hx_1396, hx_1397, hx_1402, if_true, if_false, mqM_tp, mqM_size, mqM_limit, mqM_to, mqM_frm, mqM_kind, mqM_number, mqM_sign, mqM_word, MT_.w_tp, MT_.w_size, MT_.w_limit, MT_.w_to, MT_.w_frm, MT_.w_kind, MT_.w_number, MT_.w_sign, MT_.w_word] at hQ_388); (try simp only [f_390, hx_391, f_392, h_393, (nle h_393), hx_958, f_959, h_960, h_969, hx_975, f_976, h_977, (nle h_977), h_1250, h_1253, c_1259, (eq_true h_1260), c_1328, h_1329, c_1356, (eq_true h_1357), c_1371, h_1375, h_1378, (eq_true h_1384), h_1385, (nle h_1385), hy_1386, hy_1388, hy_1389, hy_1390, hy_1391, h_1395, (nle h_1395), hx_1396, hx_1397, hx_1402, if_true, if_false, mqM_tp, mqM_size, mqM_limit, mqM_to, mqM_frm, mqM_kind, mqM_number, mqM_sign, mqM_word, MT_.w_tp, MT_.w_size, MT_.w_limit, MT_.w_to, MT_.w_frm, MT_.w_kind, MT_.w_number, MT_.w_sign, MT_.w_word] at u_389); (try simp only [f_390, hx_391, f_392, h_393, (nle h_393), hx_958, f_959, h_960, h_969, hx_975, f_976, h_977, (nle h_977), h_1250, h_1253, c_1259, (eq_true h_1260), c_1328, h_1329, c_1356, (eq_true h_1357), c_1371, h_1375, h_1378, (eq_true h_1384), h_1385, (nle h_1385), hy_1386, hy_1388, hy_1389, hy_1390, hy_1391, h_1395, (nle h_1395), hx_1396, hx_1397, hx_1402, if_true, if_false, mqM_tp, mqM_size, mqM_limit, mqM_to, mqM_frm, mqM_kind, mqM_number, mqM_sign, mqM_word, MT_.w_tp, MT_.w_size, MT_.w_limit, MT_.w_to, MT_.w_frm, MT_.w_kind, MT_.w_number, MT_.w_sign, MT_.w_word] at u_1345); (try simp only [f_390, hx_391, f_392, h_393, (nle h_393), hx_958, f_959, h_960, h_969, hx_975, f_976, h_977, (nle h_977), h_1250, h_1253, c_1259, (eq_true h_1260), c_1328, h_1329, c_1356, (eq_true h_1357), c_1371, h_1375, h_1378, (eq_true h_1384), h_1385, (nle h_1385), hy_1386, hy_1388, hy_1389, hy_1390, hy_1391, h_1395, (nle h_1395), hx_1396, hx_1397, hx_1402, if_true, if_false, mqM_tp, mqM_size, mqM_limit, mqM_to, mqM_frm, mqM_kind, mqM_number, mqM_sign, mqM_word, MT_.w_tp, MT_.w_size, MT_.w_limit, MT_.w_to, MT_.w_frm, MT_.w_kind, MT_.w_number, MT_.w_sign, MT_.w_word] at c_1350); simp only [mGo, mGo2, mGo3, mGoE, mSg, mStep, mGood, Int32.sub_self, (by decide : (7 ≤ (0 : Int32)) = False), (by decide : (3 ≤ (0 : Int32)) = False), (by decide : 10 * (0 : Int32) = 0), emqx, hs_1406, hs_3, hQ_388, f_390, u_389, hx_391, f_392, h_393, (nle h_393), hx_958, f_959, h_960, h_969, hx_975, f_976, h_977, (nle h_977), h_1250, h_1253, c_1259, (eq_true h_1260), c_1328, h_1329, u_1345, c_1350, c_1356, (eq_true h_1357), c_1371, h_1375, h_1378, (eq_true h_1384), h_1385, (nle h_1385), hy_1386, hy_1388, hy_1389, hy_1390, hy_1391, h_1395, (nle h_1395), hx_1396, hx_1397, hx_1402, if_true, if_false, mqM_tp, mqM_size, mqM_limit, mqM_to, mqM_frm, mqM_kind, mqM_number, mqM_sign, mqM_word, MT_.w_tp, MT_.w_size, MT_.w_limit, MT_.w_to, MT_.w_frm, MT_.w_kind, MT_.w_number, MT_.w_sign, MT_.w_word]) (by have := hj_385; have := (ti_k tx_1402 rc_1); omega) (ms_s (a := 1) (b := 940) (N := 940) (rg_w rx_1402 (by decide) (by decide)) (by decide))
                    · skip
                      have r_1407 := (⟨(rx_1324).1, (eq_rg (h_1329) rc_0).2⟩ : Rg 0 0 x_1324)
                      refine g_aload_n C 1 dX12_go_137 rfl rfl ?_
                      refine g_iload_n C 0 dX12_go_138 rfl rfl ?_
                      refine g_bipush C (v := 59) dX12_go_139 (by decide) ?_
                      refine g_icmp_eq C (tgt := 174) dX12_go_141 (by decide) (fun h_1408 => ?_) (fun h_1408 => ?_)
                      · skip
                        have r_1409 := (⟨(eq_rg (h_1408) rc_59).1, (eq_rg (h_1408) rc_59).2⟩ : Rg 59 59 x_958)
                        refine g_iconst C (v := 4) dX12_go_174 (by decide) ?_
                        refine g_goto C (tgt := 179) dX12_go_175 (by decide) ?_
                        refine h_putI C K hLx hkx f_12_104 p_12_7 dX12_go_179 (fun I_1410 hI_1410 => ?_)
                        have hU_1411 := iw_put W9 hU_972 hI_1410 (ro_o hkx (by decide)) (lo := 0) (hi := 4) (rfl) (rg_w rc_4 (by decide) (by decide)) rfl
                        have hF_1412 := fq_puto hF_973 hI_1410 hkx (by decide) (by decide)
                        have hs_1413 : MTq I_1410 J_378 x b_2 = (MT_.w_kind (MT_.w_frm s_387 (v_382)) (4)) := by rw [hI_1410]; exact ((mq_kind wmqx).trans (congrArg (fun z : MT_ => MT_.w_kind z (4)) hs_974)).trans rfl
                        refine g_aload_n C 1 dX12_go_182 rfl rfl ?_
                        refine g_iload_n C 0 dX12_go_183 rfl rfl ?_
                        refine h_putI C K hLx hkx f_12_114 p_12_9 dX12_go_184 (fun I_1414 hI_1414 => ?_)
                        have hU_1415 := iw_put W9 hU_1411 hI_1414 (ro_o hkx (by decide)) (lo := (-2147483648)) (hi := 2147483647) (rfl) (rg_all _) rfl
                        have hF_1416 := fq_puto hF_1412 hI_1414 hkx (by decide) (by decide)
                        have hs_1417 : MTq I_1414 J_378 x b_2 = (MT_.w_sign (MT_.w_kind (MT_.w_frm s_387 (v_382)) (4)) (x_958)) := by rw [hI_1414]; exact ((mq_sign wmqx).trans (congrArg (fun z : MT_ => MT_.w_sign z (x_958)) hs_1413)).trans rfl
                        refine g_aload_n C 1 dX12_go_187 rfl rfl ?_
                        refine g_dup C dX12_go_188 rfl ?_
                        refine g_getI C K hLx hkx f_12_95 (v := v_382) (kp_j hI_1414 (by decide) (kp_j hI_1410 (by decide) (kp_j hI_971 (by decide) q_383))) dX12_go_189 ?_
                        refine g_iconst C (v := 1) dX12_go_192 (by decide) ?_
                        obtain ⟨x_1418, hx_1418, rx_1418, tx_1418⟩ := ex_add 1 900 r_1251 rc_1 (by decide) (by decide) (by decide) (by decide)
                        refine g_iadd C (v := x_1418) dX12_go_193 hx_1418 ?_
                        refine h_putI C K hLx hkx f_12_95 p_12_5 dX12_go_194 (fun I_1419 hI_1419 => ?_)
                        have hU_1420 := iw_put W9 hU_1415 hI_1419 (ro_o hkx (by decide)) (lo := 0) (hi := 940) (rfl) (rg_w rx_1418 (by decide) (by decide)) rfl
                        have hF_1421 := fq_puto hF_1416 hI_1419 hkx (by decide) (by decide)
                        have hs_1422 : MTq I_1419 J_378 x b_2 = (MT_.w_to (MT_.w_sign (MT_.w_kind (MT_.w_frm s_387 (v_382)) (4)) (x_958)) (x_1418)) := by rw [hI_1419]; exact ((mq_to wmqx).trans (congrArg (fun z : MT_ => MT_.w_to z (x_1418)) hs_1417)).trans rfl
                        exact g_vret B K rfl ⟨hU_1420, hF_1421, hG_381, (by (try simp only [f_390, hx_391, f_392, h_393, (nle h_393), hx_958, f_959, h_960, h_969, hx_975, f_976, h_977, (nle h_977), h_1250, h_1253, c_1259, (eq_true h_1260), c_1328, (eq_true h_1329), (eq_true h_1408), hx_1418, if_true, if_false, mqM_tp, mqM_size, mqM_limit, mqM_to, mqM_frm, mqM_kind, mqM_number, mqM_sign, mqM_word, MT_.w_tp, MT_.w_size, MT_.w_limit, MT_.w_to, MT_.w_frm, MT_.w_kind, MT_.w_number, MT_.w_sign, MT_.w_word] at hQ_388); (try simp only [f_390, hx_391, f_392, h_393, (nle h_393), hx_958, f_959, h_960, h_969, hx_975, f_976, h_977, (nle h_977), h_1250, h_1253, c_1259, (eq_true h_1260), c_1328, (eq_true h_1329), (eq_true h_1408), hx_1418, if_true, if_false, mqM_tp, mqM_size, mqM_limit, mqM_to, mqM_frm, mqM_kind, mqM_number, mqM_sign, mqM_word, MT_.w_tp, MT_.w_size, MT_.w_limit, MT_.w_to, MT_.w_frm, MT_.w_kind, MT_.w_number, MT_.w_sign, MT_.w_word] at u_389); simp only [mGo, mGo2, mGo3, mGoE, mSg, mStep, mGood, Int32.sub_self, (by decide : (7 ≤ (0 : Int32)) = False), (by decide : (3 ≤ (0 : Int32)) = False), (by decide : 10 * (0 : Int32) = 0), emqx, hs_1422, hs_3, hQ_388, f_390, u_389, hx_391, f_392, h_393, (nle h_393), hx_958, f_959, h_960, h_969, hx_975, f_976, h_977, (nle h_977), h_1250, h_1253, c_1259, (eq_true h_1260), c_1328, (eq_true h_1329), (eq_true h_1408), hx_1418, if_true, if_false, mqM_tp, mqM_size, mqM_limit, mqM_to, mqM_frm, mqM_kind, mqM_number, mqM_sign, mqM_word, MT_.w_tp, MT_.w_size, MT_.w_limit, MT_.w_to, MT_.w_frm, MT_.w_kind, MT_.w_number, MT_.w_sign, MT_.w_word]), (ps_mk hx_1 (kp_s hI_1419) (kp_j hI_1419 (by decide) (kp_j hI_1414 (by decide) (kp_s hI_1410))) (Int.le_of_lt (by have := hj_385; have := (ti_k tx_1418 rc_1); omega)) (Or.inl (by have := hj_385; have := (ti_k tx_1418 rc_1); omega)))⟩ dX12_go_197
                      · skip
                        have n_1423 : ¬ x_958 = 59 := h_1408
                        refine g_iload_n C 0 dX12_go_144 rfl rfl ?_
                        refine g_bipush C (v := 60) dX12_go_145 (by decide) ?_
                        refine g_icmp_eq C (tgt := 174) dX12_go_147 (by decide) (fun h_1424 => ?_) (fun h_1424 => ?_)
                        · skip
                          have r_1425 := (⟨(eq_rg (h_1424) rc_60).1, (eq_rg (h_1424) rc_60).2⟩ : Rg 60 60 x_958)
                          refine g_iconst C (v := 4) dX12_go_174 (by decide) ?_
                          refine g_goto C (tgt := 179) dX12_go_175 (by decide) ?_
                          refine h_putI C K hLx hkx f_12_104 p_12_7 dX12_go_179 (fun I_1426 hI_1426 => ?_)
                          have hU_1427 := iw_put W9 hU_972 hI_1426 (ro_o hkx (by decide)) (lo := 0) (hi := 4) (rfl) (rg_w rc_4 (by decide) (by decide)) rfl
                          have hF_1428 := fq_puto hF_973 hI_1426 hkx (by decide) (by decide)
                          have hs_1429 : MTq I_1426 J_378 x b_2 = (MT_.w_kind (MT_.w_frm s_387 (v_382)) (4)) := by rw [hI_1426]; exact ((mq_kind wmqx).trans (congrArg (fun z : MT_ => MT_.w_kind z (4)) hs_974)).trans rfl
                          refine g_aload_n C 1 dX12_go_182 rfl rfl ?_
                          refine g_iload_n C 0 dX12_go_183 rfl rfl ?_
                          refine h_putI C K hLx hkx f_12_114 p_12_9 dX12_go_184 (fun I_1430 hI_1430 => ?_)
                          have hU_1431 := iw_put W9 hU_1427 hI_1430 (ro_o hkx (by decide)) (lo := (-2147483648)) (hi := 2147483647) (rfl) (rg_all _) rfl
                          have hF_1432 := fq_puto hF_1428 hI_1430 hkx (by decide) (by decide)
                          have hs_1433 : MTq I_1430 J_378 x b_2 = (MT_.w_sign (MT_.w_kind (MT_.w_frm s_387 (v_382)) (4)) (x_958)) := by rw [hI_1430]; exact ((mq_sign wmqx).trans (congrArg (fun z : MT_ => MT_.w_sign z (x_958)) hs_1429)).trans rfl
                          refine g_aload_n C 1 dX12_go_187 rfl rfl ?_
                          refine g_dup C dX12_go_188 rfl ?_
                          refine g_getI C K hLx hkx f_12_95 (v := v_382) (kp_j hI_1430 (by decide) (kp_j hI_1426 (by decide) (kp_j hI_971 (by decide) q_383))) dX12_go_189 ?_
                          refine g_iconst C (v := 1) dX12_go_192 (by decide) ?_
                          obtain ⟨x_1434, hx_1434, rx_1434, tx_1434⟩ := ex_add 1 900 r_1251 rc_1 (by decide) (by decide) (by decide) (by decide)
                          refine g_iadd C (v := x_1434) dX12_go_193 hx_1434 ?_
                          refine h_putI C K hLx hkx f_12_95 p_12_5 dX12_go_194 (fun I_1435 hI_1435 => ?_)
                          have hU_1436 := iw_put W9 hU_1431 hI_1435 (ro_o hkx (by decide)) (lo := 0) (hi := 940) (rfl) (rg_w rx_1434 (by decide) (by decide)) rfl
                          have hF_1437 := fq_puto hF_1432 hI_1435 hkx (by decide) (by decide)
                          have hs_1438 : MTq I_1435 J_378 x b_2 = (MT_.w_to (MT_.w_sign (MT_.w_kind (MT_.w_frm s_387 (v_382)) (4)) (x_958)) (x_1434)) := by rw [hI_1435]; exact ((mq_to wmqx).trans (congrArg (fun z : MT_ => MT_.w_to z (x_1434)) hs_1433)).trans rfl
                          exact g_vret B K rfl ⟨hU_1436, hF_1437, hG_381, (by (try simp only [f_390, hx_391, f_392, h_393, (nle h_393), hx_958, f_959, h_960, h_969, hx_975, f_976, h_977, (nle h_977), h_1250, h_1253, c_1259, (eq_true h_1260), c_1328, (eq_true h_1329), h_1408, (eq_true h_1424), hx_1434, if_true, if_false, mqM_tp, mqM_size, mqM_limit, mqM_to, mqM_frm, mqM_kind, mqM_number, mqM_sign, mqM_word, MT_.w_tp, MT_.w_size, MT_.w_limit, MT_.w_to, MT_.w_frm, MT_.w_kind, MT_.w_number, MT_.w_sign, MT_.w_word] at hQ_388); (try simp only [f_390, hx_391, f_392, h_393, (nle h_393), hx_958, f_959, h_960, h_969, hx_975, f_976, h_977, (nle h_977), h_1250, h_1253, c_1259, (eq_true h_1260), c_1328, (eq_true h_1329), h_1408, (eq_true h_1424), hx_1434, if_true, if_false, mqM_tp, mqM_size, mqM_limit, mqM_to, mqM_frm, mqM_kind, mqM_number, mqM_sign, mqM_word, MT_.w_tp, MT_.w_size, MT_.w_limit, MT_.w_to, MT_.w_frm, MT_.w_kind, MT_.w_number, MT_.w_sign, MT_.w_word] at u_389); simp only [mGo, mGo2, mGo3, mGoE, mSg, mStep, mGood, Int32.sub_self, (by decide : (7 ≤ (0 : Int32)) = False), (by decide : (3 ≤ (0 : Int32)) = False), (by decide : 10 * (0 : Int32) = 0), emqx, hs_1438, hs_3, hQ_388, f_390, u_389, hx_391, f_392, h_393, (nle h_393), hx_958, f_959, h_960, h_969, hx_975, f_976, h_977, (nle h_977), h_1250, h_1253, c_1259, (eq_true h_1260), c_1328, (eq_true h_1329), h_1408, (eq_true h_1424), hx_1434, if_true, if_false, mqM_tp, mqM_size, mqM_limit, mqM_to, mqM_frm, mqM_kind, mqM_number, mqM_sign, mqM_word, MT_.w_tp, MT_.w_size, MT_.w_limit, MT_.w_to, MT_.w_frm, MT_.w_kind, MT_.w_number, MT_.w_sign, MT_.w_word]), (ps_mk hx_1 (kp_s hI_1435) (kp_j hI_1435 (by decide) (kp_j hI_1430 (by decide) (kp_s hI_1426))) (Int.le_of_lt (by have := hj_385; have := (ti_k tx_1434 rc_1); omega)) (Or.inl (by have := hj_385; have := (ti_k tx_1434 rc_1); omega)))⟩ dX12_go_197
                        · skip
                          have n_1439 : ¬ x_958 = 60 := h_1424
                          refine g_iload_n C 0 dX12_go_150 rfl rfl ?_
                          refine g_bipush C (v := 61) dX12_go_151 (by decide) ?_
                          refine g_icmp_eq C (tgt := 174) dX12_go_153 (by decide) (fun h_1440 => ?_) (fun h_1440 => ?_)
                          · skip
                            have r_1441 := (⟨(eq_rg (h_1440) rc_61).1, (eq_rg (h_1440) rc_61).2⟩ : Rg 61 61 x_958)
                            refine g_iconst C (v := 4) dX12_go_174 (by decide) ?_
                            refine g_goto C (tgt := 179) dX12_go_175 (by decide) ?_
                            refine h_putI C K hLx hkx f_12_104 p_12_7 dX12_go_179 (fun I_1442 hI_1442 => ?_)
                            have hU_1443 := iw_put W9 hU_972 hI_1442 (ro_o hkx (by decide)) (lo := 0) (hi := 4) (rfl) (rg_w rc_4 (by decide) (by decide)) rfl
                            have hF_1444 := fq_puto hF_973 hI_1442 hkx (by decide) (by decide)
                            have hs_1445 : MTq I_1442 J_378 x b_2 = (MT_.w_kind (MT_.w_frm s_387 (v_382)) (4)) := by rw [hI_1442]; exact ((mq_kind wmqx).trans (congrArg (fun z : MT_ => MT_.w_kind z (4)) hs_974)).trans rfl
                            refine g_aload_n C 1 dX12_go_182 rfl rfl ?_
                            refine g_iload_n C 0 dX12_go_183 rfl rfl ?_
                            refine h_putI C K hLx hkx f_12_114 p_12_9 dX12_go_184 (fun I_1446 hI_1446 => ?_)
                            have hU_1447 := iw_put W9 hU_1443 hI_1446 (ro_o hkx (by decide)) (lo := (-2147483648)) (hi := 2147483647) (rfl) (rg_all _) rfl
                            have hF_1448 := fq_puto hF_1444 hI_1446 hkx (by decide) (by decide)
                            have hs_1449 : MTq I_1446 J_378 x b_2 = (MT_.w_sign (MT_.w_kind (MT_.w_frm s_387 (v_382)) (4)) (x_958)) := by rw [hI_1446]; exact ((mq_sign wmqx).trans (congrArg (fun z : MT_ => MT_.w_sign z (x_958)) hs_1445)).trans rfl
                            refine g_aload_n C 1 dX12_go_187 rfl rfl ?_
                            refine g_dup C dX12_go_188 rfl ?_
                            refine g_getI C K hLx hkx f_12_95 (v := v_382) (kp_j hI_1446 (by decide) (kp_j hI_1442 (by decide) (kp_j hI_971 (by decide) q_383))) dX12_go_189 ?_
                            refine g_iconst C (v := 1) dX12_go_192 (by decide) ?_
                            obtain ⟨x_1450, hx_1450, rx_1450, tx_1450⟩ := ex_add 1 900 r_1251 rc_1 (by decide) (by decide) (by decide) (by decide)
                            refine g_iadd C (v := x_1450) dX12_go_193 hx_1450 ?_
                            refine h_putI C K hLx hkx f_12_95 p_12_5 dX12_go_194 (fun I_1451 hI_1451 => ?_)
                            have hU_1452 := iw_put W9 hU_1447 hI_1451 (ro_o hkx (by decide)) (lo := 0) (hi := 940) (rfl) (rg_w rx_1450 (by decide) (by decide)) rfl
                            have hF_1453 := fq_puto hF_1448 hI_1451 hkx (by decide) (by decide)
                            have hs_1454 : MTq I_1451 J_378 x b_2 = (MT_.w_to (MT_.w_sign (MT_.w_kind (MT_.w_frm s_387 (v_382)) (4)) (x_958)) (x_1450)) := by rw [hI_1451]; exact ((mq_to wmqx).trans (congrArg (fun z : MT_ => MT_.w_to z (x_1450)) hs_1449)).trans rfl
                            exact g_vret B K rfl ⟨hU_1452, hF_1453, hG_381, (by (try simp only [f_390, hx_391, f_392, h_393, (nle h_393), hx_958, f_959, h_960, h_969, hx_975, f_976, h_977, (nle h_977), h_1250, h_1253, c_1259, (eq_true h_1260), c_1328, (eq_true h_1329), h_1408, h_1424, (eq_true h_1440), hx_1450, if_true, if_false, mqM_tp, mqM_size, mqM_limit, mqM_to, mqM_frm, mqM_kind, mqM_number, mqM_sign, mqM_word, MT_.w_tp, MT_.w_size, MT_.w_limit, MT_.w_to, MT_.w_frm, MT_.w_kind, MT_.w_number, MT_.w_sign, MT_.w_word] at hQ_388); (try simp only [f_390, hx_391, f_392, h_393, (nle h_393), hx_958, f_959, h_960, h_969, hx_975, f_976, h_977, (nle h_977), h_1250, h_1253, c_1259, (eq_true h_1260), c_1328, (eq_true h_1329), h_1408, h_1424, (eq_true h_1440), hx_1450, if_true, if_false, mqM_tp, mqM_size, mqM_limit, mqM_to, mqM_frm, mqM_kind, mqM_number, mqM_sign, mqM_word, MT_.w_tp, MT_.w_size, MT_.w_limit, MT_.w_to, MT_.w_frm, MT_.w_kind, MT_.w_number, MT_.w_sign, MT_.w_word] at u_389); simp only [mGo, mGo2, mGo3, mGoE, mSg, mStep, mGood, Int32.sub_self, (by decide : (7 ≤ (0 : Int32)) = False), (by decide : (3 ≤ (0 : Int32)) = False), (by decide : 10 * (0 : Int32) = 0), emqx, hs_1454, hs_3, hQ_388, f_390, u_389, hx_391, f_392, h_393, (nle h_393), hx_958, f_959, h_960, h_969, hx_975, f_976, h_977, (nle h_977), h_1250, h_1253, c_1259, (eq_true h_1260), c_1328, (eq_true h_1329), h_1408, h_1424, (eq_true h_1440), hx_1450, if_true, if_false, mqM_tp, mqM_size, mqM_limit, mqM_to, mqM_frm, mqM_kind, mqM_number, mqM_sign, mqM_word, MT_.w_tp, MT_.w_size, MT_.w_limit, MT_.w_to, MT_.w_frm, MT_.w_kind, MT_.w_number, MT_.w_sign, MT_.w_word]), (ps_mk hx_1 (kp_s hI_1451) (kp_j hI_1451 (by decide) (kp_j hI_1446 (by decide) (kp_s hI_1442))) (Int.le_of_lt (by have := hj_385; have := (ti_k tx_1450 rc_1); omega)) (Or.inl (by have := hj_385; have := (ti_k tx_1450 rc_1); omega)))⟩ dX12_go_197
                          · skip
                            have n_1455 : ¬ x_958 = 61 := h_1440
                            refine g_iload_n C 0 dX12_go_156 rfl rfl ?_
                            refine g_bipush C (v := 62) dX12_go_157 (by decide) ?_
                            refine g_icmp_eq C (tgt := 174) dX12_go_159 (by decide) (fun h_1456 => ?_) (fun h_1456 => ?_)
                            · skip
                              have r_1457 := (⟨(eq_rg (h_1456) rc_62).1, (eq_rg (h_1456) rc_62).2⟩ : Rg 62 62 x_958)
                              refine g_iconst C (v := 4) dX12_go_174 (by decide) ?_
                              refine g_goto C (tgt := 179) dX12_go_175 (by decide) ?_
                              refine h_putI C K hLx hkx f_12_104 p_12_7 dX12_go_179 (fun I_1458 hI_1458 => ?_)
                              have hU_1459 := iw_put W9 hU_972 hI_1458 (ro_o hkx (by decide)) (lo := 0) (hi := 4) (rfl) (rg_w rc_4 (by decide) (by decide)) rfl
                              have hF_1460 := fq_puto hF_973 hI_1458 hkx (by decide) (by decide)
                              have hs_1461 : MTq I_1458 J_378 x b_2 = (MT_.w_kind (MT_.w_frm s_387 (v_382)) (4)) := by rw [hI_1458]; exact ((mq_kind wmqx).trans (congrArg (fun z : MT_ => MT_.w_kind z (4)) hs_974)).trans rfl
                              refine g_aload_n C 1 dX12_go_182 rfl rfl ?_
                              refine g_iload_n C 0 dX12_go_183 rfl rfl ?_
                              refine h_putI C K hLx hkx f_12_114 p_12_9 dX12_go_184 (fun I_1462 hI_1462 => ?_)
                              have hU_1463 := iw_put W9 hU_1459 hI_1462 (ro_o hkx (by decide)) (lo := (-2147483648)) (hi := 2147483647) (rfl) (rg_all _) rfl
                              have hF_1464 := fq_puto hF_1460 hI_1462 hkx (by decide) (by decide)
                              have hs_1465 : MTq I_1462 J_378 x b_2 = (MT_.w_sign (MT_.w_kind (MT_.w_frm s_387 (v_382)) (4)) (x_958)) := by rw [hI_1462]; exact ((mq_sign wmqx).trans (congrArg (fun z : MT_ => MT_.w_sign z (x_958)) hs_1461)).trans rfl
                              refine g_aload_n C 1 dX12_go_187 rfl rfl ?_
                              refine g_dup C dX12_go_188 rfl ?_
                              refine g_getI C K hLx hkx f_12_95 (v := v_382) (kp_j hI_1462 (by decide) (kp_j hI_1458 (by decide) (kp_j hI_971 (by decide) q_383))) dX12_go_189 ?_
                              refine g_iconst C (v := 1) dX12_go_192 (by decide) ?_
                              obtain ⟨x_1466, hx_1466, rx_1466, tx_1466⟩ := ex_add 1 900 r_1251 rc_1 (by decide) (by decide) (by decide) (by decide)
                              refine g_iadd C (v := x_1466) dX12_go_193 hx_1466 ?_
                              refine h_putI C K hLx hkx f_12_95 p_12_5 dX12_go_194 (fun I_1467 hI_1467 => ?_)
                              have hU_1468 := iw_put W9 hU_1463 hI_1467 (ro_o hkx (by decide)) (lo := 0) (hi := 940) (rfl) (rg_w rx_1466 (by decide) (by decide)) rfl
                              have hF_1469 := fq_puto hF_1464 hI_1467 hkx (by decide) (by decide)
                              have hs_1470 : MTq I_1467 J_378 x b_2 = (MT_.w_to (MT_.w_sign (MT_.w_kind (MT_.w_frm s_387 (v_382)) (4)) (x_958)) (x_1466)) := by rw [hI_1467]; exact ((mq_to wmqx).trans (congrArg (fun z : MT_ => MT_.w_to z (x_1466)) hs_1465)).trans rfl
                              exact g_vret B K rfl ⟨hU_1468, hF_1469, hG_381, (by (try simp only [f_390, hx_391, f_392, h_393, (nle h_393), hx_958, f_959, h_960, h_969, hx_975, f_976, h_977, (nle h_977), h_1250, h_1253, c_1259, (eq_true h_1260), c_1328, (eq_true h_1329), h_1408, h_1424, h_1440, (eq_true h_1456), hx_1466, if_true, if_false, mqM_tp, mqM_size, mqM_limit, mqM_to, mqM_frm, mqM_kind, mqM_number, mqM_sign, mqM_word, MT_.w_tp, MT_.w_size, MT_.w_limit, MT_.w_to, MT_.w_frm, MT_.w_kind, MT_.w_number, MT_.w_sign, MT_.w_word] at hQ_388); (try simp only [f_390, hx_391, f_392, h_393, (nle h_393), hx_958, f_959, h_960, h_969, hx_975, f_976, h_977, (nle h_977), h_1250, h_1253, c_1259, (eq_true h_1260), c_1328, (eq_true h_1329), h_1408, h_1424, h_1440, (eq_true h_1456), hx_1466, if_true, if_false, mqM_tp, mqM_size, mqM_limit, mqM_to, mqM_frm, mqM_kind, mqM_number, mqM_sign, mqM_word, MT_.w_tp, MT_.w_size, MT_.w_limit, MT_.w_to, MT_.w_frm, MT_.w_kind, MT_.w_number, MT_.w_sign, MT_.w_word] at u_389); simp only [mGo, mGo2, mGo3, mGoE, mSg, mStep, mGood, Int32.sub_self, (by decide : (7 ≤ (0 : Int32)) = False), (by decide : (3 ≤ (0 : Int32)) = False), (by decide : 10 * (0 : Int32) = 0), emqx, hs_1470, hs_3, hQ_388, f_390, u_389, hx_391, f_392, h_393, (nle h_393), hx_958, f_959, h_960, h_969, hx_975, f_976, h_977, (nle h_977), h_1250, h_1253, c_1259, (eq_true h_1260), c_1328, (eq_true h_1329), h_1408, h_1424, h_1440, (eq_true h_1456), hx_1466, if_true, if_false, mqM_tp, mqM_size, mqM_limit, mqM_to, mqM_frm, mqM_kind, mqM_number, mqM_sign, mqM_word, MT_.w_tp, MT_.w_size, MT_.w_limit, MT_.w_to, MT_.w_frm, MT_.w_kind, MT_.w_number, MT_.w_sign, MT_.w_word]), (ps_mk hx_1 (kp_s hI_1467) (kp_j hI_1467 (by decide) (kp_j hI_1462 (by decide) (kp_s hI_1458))) (Int.le_of_lt (by have := hj_385; have := (ti_k tx_1466 rc_1); omega)) (Or.inl (by have := hj_385; have := (ti_k tx_1466 rc_1); omega)))⟩ dX12_go_197
                            · skip
                              have n_1471 : ¬ x_958 = 62 := h_1456
                              refine g_iload_n C 0 dX12_go_162 rfl rfl ?_
                              refine g_bipush C (v := 40) dX12_go_163 (by decide) ?_
                              refine g_icmp_eq C (tgt := 174) dX12_go_165 (by decide) (fun h_1472 => ?_) (fun h_1472 => ?_)
                              · skip
                                have r_1473 := (⟨(eq_rg (h_1472) rc_40).1, (eq_rg (h_1472) rc_40).2⟩ : Rg 40 40 x_958)
                                refine g_iconst C (v := 4) dX12_go_174 (by decide) ?_
                                refine g_goto C (tgt := 179) dX12_go_175 (by decide) ?_
                                refine h_putI C K hLx hkx f_12_104 p_12_7 dX12_go_179 (fun I_1474 hI_1474 => ?_)
                                have hU_1475 := iw_put W9 hU_972 hI_1474 (ro_o hkx (by decide)) (lo := 0) (hi := 4) (rfl) (rg_w rc_4 (by decide) (by decide)) rfl
                                have hF_1476 := fq_puto hF_973 hI_1474 hkx (by decide) (by decide)
                                have hs_1477 : MTq I_1474 J_378 x b_2 = (MT_.w_kind (MT_.w_frm s_387 (v_382)) (4)) := by rw [hI_1474]; exact ((mq_kind wmqx).trans (congrArg (fun z : MT_ => MT_.w_kind z (4)) hs_974)).trans rfl
                                refine g_aload_n C 1 dX12_go_182 rfl rfl ?_
                                refine g_iload_n C 0 dX12_go_183 rfl rfl ?_
                                refine h_putI C K hLx hkx f_12_114 p_12_9 dX12_go_184 (fun I_1478 hI_1478 => ?_)
                                have hU_1479 := iw_put W9 hU_1475 hI_1478 (ro_o hkx (by decide)) (lo := (-2147483648)) (hi := 2147483647) (rfl) (rg_all _) rfl
                                have hF_1480 := fq_puto hF_1476 hI_1478 hkx (by decide) (by decide)
                                have hs_1481 : MTq I_1478 J_378 x b_2 = (MT_.w_sign (MT_.w_kind (MT_.w_frm s_387 (v_382)) (4)) (x_958)) := by rw [hI_1478]; exact ((mq_sign wmqx).trans (congrArg (fun z : MT_ => MT_.w_sign z (x_958)) hs_1477)).trans rfl
                                refine g_aload_n C 1 dX12_go_187 rfl rfl ?_
                                refine g_dup C dX12_go_188 rfl ?_
                                refine g_getI C K hLx hkx f_12_95 (v := v_382) (kp_j hI_1478 (by decide) (kp_j hI_1474 (by decide) (kp_j hI_971 (by decide) q_383))) dX12_go_189 ?_
                                refine g_iconst C (v := 1) dX12_go_192 (by decide) ?_
                                obtain ⟨x_1482, hx_1482, rx_1482, tx_1482⟩ := ex_add 1 900 r_1251 rc_1 (by decide) (by decide) (by decide) (by decide)
                                refine g_iadd C (v := x_1482) dX12_go_193 hx_1482 ?_
                                refine h_putI C K hLx hkx f_12_95 p_12_5 dX12_go_194 (fun I_1483 hI_1483 => ?_)
                                have hU_1484 := iw_put W9 hU_1479 hI_1483 (ro_o hkx (by decide)) (lo := 0) (hi := 940) (rfl) (rg_w rx_1482 (by decide) (by decide)) rfl
                                have hF_1485 := fq_puto hF_1480 hI_1483 hkx (by decide) (by decide)
                                have hs_1486 : MTq I_1483 J_378 x b_2 = (MT_.w_to (MT_.w_sign (MT_.w_kind (MT_.w_frm s_387 (v_382)) (4)) (x_958)) (x_1482)) := by rw [hI_1483]; exact ((mq_to wmqx).trans (congrArg (fun z : MT_ => MT_.w_to z (x_1482)) hs_1481)).trans rfl
                                exact g_vret B K rfl ⟨hU_1484, hF_1485, hG_381, (by (try simp only [f_390, hx_391, f_392, h_393, (nle h_393), hx_958, f_959, h_960, h_969, hx_975, f_976, h_977, (nle h_977), h_1250, h_1253, c_1259, (eq_true h_1260), c_1328, (eq_true h_1329), h_1408, h_1424, h_1440, h_1456, (eq_true h_1472), hx_1482, if_true, if_false, mqM_tp, mqM_size, mqM_limit, mqM_to, mqM_frm, mqM_kind, mqM_number, mqM_sign, mqM_word, MT_.w_tp, MT_.w_size, MT_.w_limit, MT_.w_to, MT_.w_frm, MT_.w_kind, MT_.w_number, MT_.w_sign, MT_.w_word] at hQ_388); (try simp only [f_390, hx_391, f_392, h_393, (nle h_393), hx_958, f_959, h_960, h_969, hx_975, f_976, h_977, (nle h_977), h_1250, h_1253, c_1259, (eq_true h_1260), c_1328, (eq_true h_1329), h_1408, h_1424, h_1440, h_1456, (eq_true h_1472), hx_1482, if_true, if_false, mqM_tp, mqM_size, mqM_limit, mqM_to, mqM_frm, mqM_kind, mqM_number, mqM_sign, mqM_word, MT_.w_tp, MT_.w_size, MT_.w_limit, MT_.w_to, MT_.w_frm, MT_.w_kind, MT_.w_number, MT_.w_sign, MT_.w_word] at u_389); simp only [mGo, mGo2, mGo3, mGoE, mSg, mStep, mGood, Int32.sub_self, (by decide : (7 ≤ (0 : Int32)) = False), (by decide : (3 ≤ (0 : Int32)) = False), (by decide : 10 * (0 : Int32) = 0), emqx, hs_1486, hs_3, hQ_388, f_390, u_389, hx_391, f_392, h_393, (nle h_393), hx_958, f_959, h_960, h_969, hx_975, f_976, h_977, (nle h_977), h_1250, h_1253, c_1259, (eq_true h_1260), c_1328, (eq_true h_1329), h_1408, h_1424, h_1440, h_1456, (eq_true h_1472), hx_1482, if_true, if_false, mqM_tp, mqM_size, mqM_limit, mqM_to, mqM_frm, mqM_kind, mqM_number, mqM_sign, mqM_word, MT_.w_tp, MT_.w_size, MT_.w_limit, MT_.w_to, MT_.w_frm, MT_.w_kind, MT_.w_number, MT_.w_sign, MT_.w_word]), (ps_mk hx_1 (kp_s hI_1483) (kp_j hI_1483 (by decide) (kp_j hI_1478 (by decide) (kp_s hI_1474))) (Int.le_of_lt (by have := hj_385; have := (ti_k tx_1482 rc_1); omega)) (Or.inl (by have := hj_385; have := (ti_k tx_1482 rc_1); omega)))⟩ dX12_go_197
                              · skip
                                have n_1487 : ¬ x_958 = 40 := h_1472
                                refine g_iload_n C 0 dX12_go_168 rfl rfl ?_
                                refine g_bipush C (v := 41) dX12_go_169 (by decide) ?_
                                refine g_icmp_ne C (tgt := 178) dX12_go_171 (by decide) (fun h_1488 => ?_) (fun h_1488 => ?_)
                                · skip
                                  have n_1489 : ¬ x_958 = 41 := h_1488
                                  refine g_iconst C (v := 1) dX12_go_178 (by decide) ?_
                                  refine h_putI C K hLx hkx f_12_104 p_12_7 dX12_go_179 (fun I_1490 hI_1490 => ?_)
                                  have hU_1491 := iw_put W9 hU_972 hI_1490 (ro_o hkx (by decide)) (lo := 0) (hi := 4) (rfl) (rg_w rc_1 (by decide) (by decide)) rfl
                                  have hF_1492 := fq_puto hF_973 hI_1490 hkx (by decide) (by decide)
                                  have hs_1493 : MTq I_1490 J_378 x b_2 = (MT_.w_kind (MT_.w_frm s_387 (v_382)) (1)) := by rw [hI_1490]; exact ((mq_kind wmqx).trans (congrArg (fun z : MT_ => MT_.w_kind z (1)) hs_974)).trans rfl
                                  refine g_aload_n C 1 dX12_go_182 rfl rfl ?_
                                  refine g_iload_n C 0 dX12_go_183 rfl rfl ?_
                                  refine h_putI C K hLx hkx f_12_114 p_12_9 dX12_go_184 (fun I_1494 hI_1494 => ?_)
                                  have hU_1495 := iw_put W9 hU_1491 hI_1494 (ro_o hkx (by decide)) (lo := (-2147483648)) (hi := 2147483647) (rfl) (rg_all _) rfl
                                  have hF_1496 := fq_puto hF_1492 hI_1494 hkx (by decide) (by decide)
                                  have hs_1497 : MTq I_1494 J_378 x b_2 = (MT_.w_sign (MT_.w_kind (MT_.w_frm s_387 (v_382)) (1)) (x_958)) := by rw [hI_1494]; exact ((mq_sign wmqx).trans (congrArg (fun z : MT_ => MT_.w_sign z (x_958)) hs_1493)).trans rfl
                                  refine g_aload_n C 1 dX12_go_187 rfl rfl ?_
                                  refine g_dup C dX12_go_188 rfl ?_
                                  refine g_getI C K hLx hkx f_12_95 (v := v_382) (kp_j hI_1494 (by decide) (kp_j hI_1490 (by decide) (kp_j hI_971 (by decide) q_383))) dX12_go_189 ?_
                                  refine g_iconst C (v := 1) dX12_go_192 (by decide) ?_
                                  obtain ⟨x_1498, hx_1498, rx_1498, tx_1498⟩ := ex_add 1 900 r_1251 rc_1 (by decide) (by decide) (by decide) (by decide)
                                  refine g_iadd C (v := x_1498) dX12_go_193 hx_1498 ?_
                                  refine h_putI C K hLx hkx f_12_95 p_12_5 dX12_go_194 (fun I_1499 hI_1499 => ?_)
                                  have hU_1500 := iw_put W9 hU_1495 hI_1499 (ro_o hkx (by decide)) (lo := 0) (hi := 940) (rfl) (rg_w rx_1498 (by decide) (by decide)) rfl
                                  have hF_1501 := fq_puto hF_1496 hI_1499 hkx (by decide) (by decide)
                                  have hs_1502 : MTq I_1499 J_378 x b_2 = (MT_.w_to (MT_.w_sign (MT_.w_kind (MT_.w_frm s_387 (v_382)) (1)) (x_958)) (x_1498)) := by rw [hI_1499]; exact ((mq_to wmqx).trans (congrArg (fun z : MT_ => MT_.w_to z (x_1498)) hs_1497)).trans rfl
                                  exact g_vret B K rfl ⟨hU_1500, hF_1501, hG_381, (by (try simp only [f_390, hx_391, f_392, h_393, (nle h_393), hx_958, f_959, h_960, h_969, hx_975, f_976, h_977, (nle h_977), h_1250, h_1253, c_1259, (eq_true h_1260), c_1328, (eq_true h_1329), h_1408, h_1424, h_1440, h_1456, h_1472, h_1488, hx_1498, if_true, if_false, mqM_tp, mqM_size, mqM_limit, mqM_to, mqM_frm, mqM_kind, mqM_number, mqM_sign, mqM_word, MT_.w_tp, MT_.w_size, MT_.w_limit, MT_.w_to, MT_.w_frm, MT_.w_kind, MT_.w_number, MT_.w_sign, MT_.w_word] at hQ_388); (try simp only [f_390, hx_391, f_392, h_393, (nle h_393), hx_958, f_959, h_960, h_969, hx_975, f_976, h_977, (nle h_977), h_1250, h_1253, c_1259, (eq_true h_1260), c_1328, (eq_true h_1329), h_1408, h_1424, h_1440, h_1456, h_1472, h_1488, hx_1498, if_true, if_false, mqM_tp, mqM_size, mqM_limit, mqM_to, mqM_frm, mqM_kind, mqM_number, mqM_sign, mqM_word, MT_.w_tp, MT_.w_size, MT_.w_limit, MT_.w_to, MT_.w_frm, MT_.w_kind, MT_.w_number, MT_.w_sign, MT_.w_word] at u_389); simp only [mGo, mGo2, mGo3, mGoE, mSg, mStep, mGood, Int32.sub_self, (by decide : (7 ≤ (0 : Int32)) = False), (by decide : (3 ≤ (0 : Int32)) = False), (by decide : 10 * (0 : Int32) = 0), emqx, hs_1502, hs_3, hQ_388, f_390, u_389, hx_391, f_392, h_393, (nle h_393), hx_958, f_959, h_960, h_969, hx_975, f_976, h_977, (nle h_977), h_1250, h_1253, c_1259, (eq_true h_1260), c_1328, (eq_true h_1329), h_1408, h_1424, h_1440, h_1456, h_1472, h_1488, hx_1498, if_true, if_false, mqM_tp, mqM_size, mqM_limit, mqM_to, mqM_frm, mqM_kind, mqM_number, mqM_sign, mqM_word, MT_.w_tp, MT_.w_size, MT_.w_limit, MT_.w_to, MT_.w_frm, MT_.w_kind, MT_.w_number, MT_.w_sign, MT_.w_word]), (ps_mk hx_1 (kp_s hI_1499) (kp_j hI_1499 (by decide) (kp_j hI_1494 (by decide) (kp_s hI_1490))) (by have := hj_385; have := (ti_k tx_1498 rc_1); omega) (Or.inr (by have := (rc_1).2; omega)))⟩ dX12_go_197
                                · skip
                                  have r_1503 := (⟨(eq_rg (h_1488) rc_41).1, (eq_rg (h_1488) rc_41).2⟩ : Rg 41 41 x_958)
                                  refine g_iconst C (v := 4) dX12_go_174 (by decide) ?_
                                  refine g_goto C (tgt := 179) dX12_go_175 (by decide) ?_
                                  refine h_putI C K hLx hkx f_12_104 p_12_7 dX12_go_179 (fun I_1504 hI_1504 => ?_)
                                  have hU_1505 := iw_put W9 hU_972 hI_1504 (ro_o hkx (by decide)) (lo := 0) (hi := 4) (rfl) (rg_w rc_4 (by decide) (by decide)) rfl
                                  have hF_1506 := fq_puto hF_973 hI_1504 hkx (by decide) (by decide)
                                  have hs_1507 : MTq I_1504 J_378 x b_2 = (MT_.w_kind (MT_.w_frm s_387 (v_382)) (4)) := by rw [hI_1504]; exact ((mq_kind wmqx).trans (congrArg (fun z : MT_ => MT_.w_kind z (4)) hs_974)).trans rfl
                                  refine g_aload_n C 1 dX12_go_182 rfl rfl ?_
                                  refine g_iload_n C 0 dX12_go_183 rfl rfl ?_
                                  refine h_putI C K hLx hkx f_12_114 p_12_9 dX12_go_184 (fun I_1508 hI_1508 => ?_)
                                  have hU_1509 := iw_put W9 hU_1505 hI_1508 (ro_o hkx (by decide)) (lo := (-2147483648)) (hi := 2147483647) (rfl) (rg_all _) rfl
                                  have hF_1510 := fq_puto hF_1506 hI_1508 hkx (by decide) (by decide)
                                  have hs_1511 : MTq I_1508 J_378 x b_2 = (MT_.w_sign (MT_.w_kind (MT_.w_frm s_387 (v_382)) (4)) (x_958)) := by rw [hI_1508]; exact ((mq_sign wmqx).trans (congrArg (fun z : MT_ => MT_.w_sign z (x_958)) hs_1507)).trans rfl
                                  refine g_aload_n C 1 dX12_go_187 rfl rfl ?_
                                  refine g_dup C dX12_go_188 rfl ?_
                                  refine g_getI C K hLx hkx f_12_95 (v := v_382) (kp_j hI_1508 (by decide) (kp_j hI_1504 (by decide) (kp_j hI_971 (by decide) q_383))) dX12_go_189 ?_
                                  refine g_iconst C (v := 1) dX12_go_192 (by decide) ?_
                                  obtain ⟨x_1512, hx_1512, rx_1512, tx_1512⟩ := ex_add 1 900 r_1251 rc_1 (by decide) (by decide) (by decide) (by decide)
                                  refine g_iadd C (v := x_1512) dX12_go_193 hx_1512 ?_
                                  refine h_putI C K hLx hkx f_12_95 p_12_5 dX12_go_194 (fun I_1513 hI_1513 => ?_)
                                  have hU_1514 := iw_put W9 hU_1509 hI_1513 (ro_o hkx (by decide)) (lo := 0) (hi := 940) (rfl) (rg_w rx_1512 (by decide) (by decide)) rfl
                                  have hF_1515 := fq_puto hF_1510 hI_1513 hkx (by decide) (by decide)
                                  have hs_1516 : MTq I_1513 J_378 x b_2 = (MT_.w_to (MT_.w_sign (MT_.w_kind (MT_.w_frm s_387 (v_382)) (4)) (x_958)) (x_1512)) := by rw [hI_1513]; exact ((mq_to wmqx).trans (congrArg (fun z : MT_ => MT_.w_to z (x_1512)) hs_1511)).trans rfl
                                  exact g_vret B K rfl ⟨hU_1514, hF_1515, hG_381, (by (try simp only [f_390, hx_391, f_392, h_393, (nle h_393), hx_958, f_959, h_960, h_969, hx_975, f_976, h_977, (nle h_977), h_1250, h_1253, c_1259, (eq_true h_1260), c_1328, (eq_true h_1329), h_1408, h_1424, h_1440, h_1456, h_1472, (eq_true h_1488), hx_1512, if_true, if_false, mqM_tp, mqM_size, mqM_limit, mqM_to, mqM_frm, mqM_kind, mqM_number, mqM_sign, mqM_word, MT_.w_tp, MT_.w_size, MT_.w_limit, MT_.w_to, MT_.w_frm, MT_.w_kind, MT_.w_number, MT_.w_sign, MT_.w_word] at hQ_388); (try simp only [f_390, hx_391, f_392, h_393, (nle h_393), hx_958, f_959, h_960, h_969, hx_975, f_976, h_977, (nle h_977), h_1250, h_1253, c_1259, (eq_true h_1260), c_1328, (eq_true h_1329), h_1408, h_1424, h_1440, h_1456, h_1472, (eq_true h_1488), hx_1512, if_true, if_false, mqM_tp, mqM_size, mqM_limit, mqM_to, mqM_frm, mqM_kind, mqM_number, mqM_sign, mqM_word, MT_.w_tp, MT_.w_size, MT_.w_limit, MT_.w_to, MT_.w_frm, MT_.w_kind, MT_.w_number, MT_.w_sign, MT_.w_word] at u_389); simp only [mGo, mGo2, mGo3, mGoE, mSg, mStep, mGood, Int32.sub_self, (by decide : (7 ≤ (0 : Int32)) = False), (by decide : (3 ≤ (0 : Int32)) = False), (by decide : 10 * (0 : Int32) = 0), emqx, hs_1516, hs_3, hQ_388, f_390, u_389, hx_391, f_392, h_393, (nle h_393), hx_958, f_959, h_960, h_969, hx_975, f_976, h_977, (nle h_977), h_1250, h_1253, c_1259, (eq_true h_1260), c_1328, (eq_true h_1329), h_1408, h_1424, h_1440, h_1456, h_1472, (eq_true h_1488), hx_1512, if_true, if_false, mqM_tp, mqM_size, mqM_limit, mqM_to, mqM_frm, mqM_kind, mqM_number, mqM_sign, mqM_word, MT_.w_tp, MT_.w_size, MT_.w_limit, MT_.w_to, MT_.w_frm, MT_.w_kind, MT_.w_number, MT_.w_sign, MT_.w_word]), (ps_mk hx_1 (kp_s hI_1513) (kp_j hI_1513 (by decide) (kp_j hI_1508 (by decide) (kp_s hI_1504))) (Int.le_of_lt (by have := hj_385; have := (ti_k tx_1512 rc_1); omega)) (Or.inl (by have := hj_385; have := (ti_k tx_1512 rc_1); omega)))⟩ dX12_go_197
                · skip
                  have r_1517 := le_l (nlt h_1253) r_957 r_1251
                  have r_1518 := le_r (nlt h_1253) r_957 r_1251
                  refine g_aload_n C 0 dX12_go_107 rfl rfl ?_
                  refine g_iconst C (v := 0) dX12_go_108 (by decide) ?_
                  refine h_putI C K hLx hkx f_12_104 p_12_7 dX12_go_109 (fun I_1519 hI_1519 => ?_)
                  have hU_1520 := iw_put W9 hU_972 hI_1519 (ro_o hkx (by decide)) (lo := 0) (hi := 4) (rfl) (rg_w rc_0 (by decide) (by decide)) rfl
                  have hF_1521 := fq_puto hF_973 hI_1519 hkx (by decide) (by decide)
                  have hs_1522 : MTq I_1519 J_378 x b_2 = (MT_.w_kind (MT_.w_frm s_387 (v_382)) (0)) := by rw [hI_1519]; exact ((mq_kind wmqx).trans (congrArg (fun z : MT_ => MT_.w_kind z (0)) hs_974)).trans rfl
                  exact g_vret B K rfl ⟨hU_1520, hF_1521, hG_381, (by first | ((try simp only [f_390, hx_391, f_392, h_393, (nle h_393), hx_958, f_959, h_960, h_969, hx_975, f_976, h_977, (nle h_977), h_1250, h_1253, (nlt h_1253), if_true, if_false, mqM_tp, mqM_size, mqM_limit, mqM_to, mqM_frm, mqM_kind, mqM_number, mqM_sign, mqM_word, MT_.w_tp, MT_.w_size, MT_.w_limit, MT_.w_to, MT_.w_frm, MT_.w_kind, MT_.w_number, MT_.w_sign, MT_.w_word] at hQ_388); (try simp only [f_390, hx_391, f_392, h_393, (nle h_393), hx_958, f_959, h_960, h_969, hx_975, f_976, h_977, (nle h_977), h_1250, h_1253, (nlt h_1253), if_true, if_false, mqM_tp, mqM_size, mqM_limit, mqM_to, mqM_frm, mqM_kind, mqM_number, mqM_sign, mqM_word, MT_.w_tp, MT_.w_size, MT_.w_limit, MT_.w_to, MT_.w_frm, MT_.w_kind, MT_.w_number, MT_.w_sign, MT_.w_word] at u_389); simp only [mGo, mGo2, mGo3, mGoE, mSg, mStep, mGood, Int32.sub_self, (by decide : (7 ≤ (0 : Int32)) = False), (by decide : (3 ≤ (0 : Int32)) = False), (by decide : 10 * (0 : Int32) = 0), emqx, hs_1522, hs_3, hQ_388, f_390, u_389, hx_391, f_392, h_393, (nle h_393), hx_958, f_959, h_960, h_969, hx_975, f_976, h_977, (nle h_977), h_1250, h_1253, (nlt h_1253), if_true, if_false, mqM_tp, mqM_size, mqM_limit, mqM_to, mqM_frm, mqM_kind, mqM_number, mqM_sign, mqM_word, MT_.w_tp, MT_.w_size, MT_.w_limit, MT_.w_to, MT_.w_frm, MT_.w_kind, MT_.w_number, MT_.w_sign, MT_.w_word]; done) | exact absurd (nle h_393) h_1253 | exact absurd (nle h_977) h_1253), (ps_mk hx_1 (kp_j hI_1519 (by decide) (kp_j hI_971 (by decide) q_383)) (kp_s hI_1519) (by have := hj_385; omega) (Or.inr (by have := (rc_0).2; omega)))⟩ dX12_go_112
              · skip
                refine g_aload_n C 0 dX12_go_82 rfl rfl ?_
                refine g_aload_n C 0 dX12_go_83 rfl rfl ?_
                refine g_getI C K hLx hkx f_12_101 (v := x_975) hx_975 dX12_go_84 ?_
                refine h_putI C K hLx hkx f_12_98 p_12_6 dX12_go_87 (fun I_1523 hI_1523 => ?_)
                have hU_1524 := iw_put W9 hU_972 hI_1523 (ro_o hkx (by decide)) (lo := 0) (hi := 940) (rfl) (rg_w rx_975 (by decide) (by decide)) rfl
                have hF_1525 := fq_puto hF_973 hI_1523 hkx (by decide) (by decide)
                have hs_1526 : MTq I_1523 J_378 x b_2 = (MT_.w_frm s_387 (x_975)) := by rw [hI_1523]; exact ((mq_frm wmqx).trans (congrArg (fun z : MT_ => MT_.w_frm z (x_975)) hs_974)).trans rfl
                refine g_aload_n C 0 dX12_go_90 rfl rfl ?_
                refine g_iconst C (v := 1) dX12_go_91 (by decide) ?_
                refine h_putI C K hLx hkx f_12_104 p_12_7 dX12_go_92 (fun I_1527 hI_1527 => ?_)
                have hU_1528 := iw_put W9 hU_1524 hI_1527 (ro_o hkx (by decide)) (lo := 0) (hi := 4) (rfl) (rg_w rc_1 (by decide) (by decide)) rfl
                have hF_1529 := fq_puto hF_1525 hI_1527 hkx (by decide) (by decide)
                have hs_1530 : MTq I_1527 J_378 x b_2 = (MT_.w_kind (MT_.w_frm s_387 (x_975)) (1)) := by rw [hI_1527]; exact ((mq_kind wmqx).trans (congrArg (fun z : MT_ => MT_.w_kind z (1)) hs_1526)).trans rfl
                exact g_vret B K rfl ⟨hU_1528, hF_1529, hG_381, (by first | ((try simp only [f_390, hx_391, f_392, h_393, (nle h_393), hx_958, f_959, h_960, h_969, hx_975, f_976, h_977, (nle h_977), h_1250, (nlt h_1250), if_true, if_false, mqM_tp, mqM_size, mqM_limit, mqM_to, mqM_frm, mqM_kind, mqM_number, mqM_sign, mqM_word, MT_.w_tp, MT_.w_size, MT_.w_limit, MT_.w_to, MT_.w_frm, MT_.w_kind, MT_.w_number, MT_.w_sign, MT_.w_word] at hQ_388); (try simp only [f_390, hx_391, f_392, h_393, (nle h_393), hx_958, f_959, h_960, h_969, hx_975, f_976, h_977, (nle h_977), h_1250, (nlt h_1250), if_true, if_false, mqM_tp, mqM_size, mqM_limit, mqM_to, mqM_frm, mqM_kind, mqM_number, mqM_sign, mqM_word, MT_.w_tp, MT_.w_size, MT_.w_limit, MT_.w_to, MT_.w_frm, MT_.w_kind, MT_.w_number, MT_.w_sign, MT_.w_word] at u_389); simp only [mGo, mGo2, mGo3, mGoE, mSg, mStep, mGood, Int32.sub_self, (by decide : (7 ≤ (0 : Int32)) = False), (by decide : (3 ≤ (0 : Int32)) = False), (by decide : 10 * (0 : Int32) = 0), emqx, hs_1530, hs_3, hQ_388, f_390, u_389, hx_391, f_392, h_393, (nle h_393), hx_958, f_959, h_960, h_969, hx_975, f_976, h_977, (nle h_977), h_1250, (nlt h_1250), if_true, if_false, mqM_tp, mqM_size, mqM_limit, mqM_to, mqM_frm, mqM_kind, mqM_number, mqM_sign, mqM_word, MT_.w_tp, MT_.w_size, MT_.w_limit, MT_.w_to, MT_.w_frm, MT_.w_kind, MT_.w_number, MT_.w_sign, MT_.w_word]; done) | exact absurd (nle h_393) h_1250 | exact absurd (nle h_977) h_1250), (ps_mk hx_1 (kp_j hI_1527 (by decide) (kp_j hI_1523 (by decide) (kp_j hI_971 (by decide) q_383))) (kp_s hI_1527) (by have := hj_385; omega) (Or.inr (by have := (rc_1).2; omega)))⟩ dX12_go_95
          · skip
            have r_1531 := (⟨(eq_rg (h_969) rc_10).1, (eq_rg (h_969) rc_10).2⟩ : Rg 10 10 x_958)
            refine g_aload_n C 0 dX12_go_39 rfl rfl ?_
            refine g_dup C dX12_go_40 rfl ?_
            refine g_getI C K hLx hkx f_12_95 (v := v_382) q_383 dX12_go_41 ?_
            refine g_iconst C (v := 1) dX12_go_44 (by decide) ?_
            obtain ⟨x_1532, hx_1532, rx_1532, tx_1532⟩ := ex_add 1 940 r_956 rc_1 (by decide) (by decide) (by decide) (by decide)
            refine g_iadd C (v := x_1532) dX12_go_45 hx_1532 ?_
            refine h_putI C K hLx hkx f_12_95 p_12_5 dX12_go_46 (fun I_1533 hI_1533 => ?_)
            have hU_1534 := iw_put W9 hU_379 hI_1533 (ro_o hkx (by decide)) (lo := 0) (hi := 940) (rfl) (rg_w rx_1532 (by decide) (by decide)) rfl
            have hF_1535 := fq_puto hF_380 hI_1533 hkx (by decide) (by decide)
            have hs_1536 : MTq I_1533 J_378 x b_2 = (MT_.w_to s_387 (x_1532)) := by rw [hI_1533]; exact ((mq_to wmqx).trans (congrArg (fun z : MT_ => MT_.w_to z (x_1532)) hs_387)).trans rfl
            refine g_goto C (tgt := 0) dX12_go_49 (by decide) ?_
            refine g_lo (is := [0]) (lo2 := [(0, .ref x)]) rfl ?_
            exact ih_0 I_1533 J_378 hU_1534 hF_1535 hG_381 x_1532 (rg_w rx_1532 (by decide) (by decide)) (kp_s hI_1533) (by (try simp only [f_390, hx_391, f_392, h_393, (nle h_393), hx_958, f_959, h_960, (eq_true h_969), hx_1532, if_true, if_false, mqM_tp, mqM_size, mqM_limit, mqM_to, mqM_frm, mqM_kind, mqM_number, mqM_sign, mqM_word, MT_.w_tp, MT_.w_size, MT_.w_limit, MT_.w_to, MT_.w_frm, MT_.w_kind, MT_.w_number, MT_.w_sign, MT_.w_word] at hQ_388); (try simp only [f_390, hx_391, f_392, h_393, (nle h_393), hx_958, f_959, h_960, (eq_true h_969), hx_1532, if_true, if_false, mqM_tp, mqM_size, mqM_limit, mqM_to, mqM_frm, mqM_kind, mqM_number, mqM_sign, mqM_word, MT_.w_tp, MT_.w_size, MT_.w_limit, MT_.w_to, MT_.w_frm, MT_.w_kind, MT_.w_number, MT_.w_sign, MT_.w_word] at u_389); simp only [mGo2, mGo3, mGoE, mSg, mStep, mGood, Int32.sub_self, (by decide : (7 ≤ (0 : Int32)) = False), (by decide : (3 ≤ (0 : Int32)) = False), (by decide : 10 * (0 : Int32) = 0), emqx, hs_1536, hs_3, hQ_388, f_390, u_389, hx_391, f_392, h_393, (nle h_393), hx_958, f_959, h_960, (eq_true h_969), hx_1532, if_true, if_false, mqM_tp, mqM_size, mqM_limit, mqM_to, mqM_frm, mqM_kind, mqM_number, mqM_sign, mqM_word, MT_.w_tp, MT_.w_size, MT_.w_limit, MT_.w_to, MT_.w_frm, MT_.w_kind, MT_.w_number, MT_.w_sign, MT_.w_word]) (by have := hj_385; have := (ti_k tx_1532 rc_1); omega) (ms_1 hm_386 (ti_k tx_1532 rc_1) (by decide))
  have f_1537 : s_3.to = x_1 := (congrArg MT_.to hs_3).symm.trans hx_1
  refine g_lo (is := [0]) (lo2 := [(0, .ref x)]) rfl ?_
  exact l_0 941 I J hU hF hG x_1 (rx_1) hx_1 (by simp only [mGo, mGo2, mGo3, mGoE, mSg, mStep, mGood, Int32.sub_self, (by decide : (7 ≤ (0 : Int32)) = False), (by decide : (3 ≤ (0 : Int32)) = False), (by decide : 10 * (0 : Int32) = 0), emqx, hs_3, hx_1, if_true, if_false, mqM_tp, mqM_size, mqM_limit, mqM_to, mqM_frm, mqM_kind, mqM_number, mqM_sign, mqM_word, MT_.w_tp, MT_.w_size, MT_.w_limit, MT_.w_to, MT_.w_frm, MT_.w_kind, MT_.w_number, MT_.w_sign, MT_.w_word]) (Int.le_refl _) (ms_s (a := 0) (b := 940) (N := 941) (rx_1) (by decide))
set_option maxRecDepth 100000 in
set_option maxHeartbeats 8000000 in
theorem c_X12_take {l : Launch} {D : va_G} {cy : Nat → ClassId} {L : List Nat} {κ ln : Nat → Nat} {R : Nat → Nat → Option Nat} {I : Nat → Nat → Int32} {J : Nat → Nat → Int64} {ow : Nat → Nat × Nat} (W9 : ∀ a ∈ L, Shp L κ ln R ow a) {x : Nat} (hLx : x ∈ L) (hkx : κ x = 12) (hU : Iw L κ R ow I) : CtI l yX12_take cX12_take 2 (some .int) { frames := 0, cells := 0, slots := 0, locals := 0 } D cy L κ ln R I J [.ref x] (fun r I2 J2 => Iw L κ R ow I2 ∧ Fq L κ ow [1202] I I2 ∧ Fq L κ ow [] J J2 ∧ Rg 0 940 r ∧ ((r, NRf R I2 J2 x) = mTake (NRf R I J x))) := by
  refine CtI.of (by decide +kernel) (Nat.le_of_ble_eq_true rfl) ?_
  intro p e s m below meth c B K
  have C := B.1
  have hF : Fq L κ ow [1202] I I := fq_rf
  have hG : Fq L κ ow [] J J := fq_rf
  obtain ⟨b_1, hb_1, hb_1L, hb_1k, hb_1n, hb_1o⟩ := shp_a (W9 x hLx) hkx 15 14 72 rfl (by decide)
  obtain ⟨b_2, hb_2, hb_2L, hb_2k, hb_2n, hb_2o⟩ := shp_a (W9 x hLx) hkx 20 15 13 rfl (by decide)
  have enqx : ∀ I J, NRf R I J x = NRq I J x b_1 b_2 := fun I J => by simp only [NRf, rr_, Option.getD_some, hb_1, hb_2]
  have wnqx : nqw_ L κ ow x b_1 b_2 := ⟨⟨hLx, hb_1L, hb_2L⟩, ⟨(ro_o hkx (by decide)), (ro_a hb_1k (by decide) hb_1o hkx rfl), (ro_a hb_2k (by decide) hb_2o hkx rfl)⟩⟩
  obtain ⟨s_3, hs_3⟩ : ∃ z, NRq I J x b_1 b_2 = z := ⟨_, rfl⟩
  refine g_lo (is := [0]) (lo2 := [(0, .ref x)]) rfl ?_
  refine g_aload_n C 0 dX12_take_0 rfl rfl ?_
  obtain ⟨x_4, hx_4, rx_4⟩ := ex_getw (I := I) (a := x) (j := 2) (lo := 0) (hi := 940) hU.1 hLx (ro_o hkx (by decide)) rfl
  have f_5 : s_3.taped = x_4 := (congrArg NR_.taped hs_3).symm.trans hx_4
  refine g_getI C K hLx hkx f_12_85 (v := x_4) hx_4 dX12_take_1 ?_
  refine g_istore_n C dX12_take_4 rfl (by decide) (lo2 := [(1, .int x_4), (0, .ref x)]) rfl ?_
  refine g_aload_n C 1 dX12_take_5 rfl rfl ?_
  refine g_iconst C (v := 0) dX12_take_6 (by decide) ?_
  refine h_putI C K hLx hkx f_12_85 p_12_2 dX12_take_7 (fun I_6 hI_6 => ?_)
  have hU_7 := iw_put W9 hU hI_6 (ro_o hkx (by decide)) (lo := 0) (hi := 940) (rfl) (rg_w rc_0 (by decide) (by decide)) rfl
  have hF_8 := fq_puto hF hI_6 hkx (by decide) (by decide)
  have hs_9 : NRq I_6 J x b_1 b_2 = (NR_.w_taped s_3 (0)) := by rw [hI_6]; exact ((nq_taped wnqx).trans (congrArg (fun z : NR_ => NR_.w_taped z (0)) hs_3)).trans rfl
  refine g_iload_n C 0 dX12_take_10 rfl rfl ?_
  exact g_zret (ty := .int) (r := x_4) B K rfl (rfl) ⟨hU_7, hF_8, hG, rx_4, (by simp only [mTake, enqx, hs_9, hs_3, hx_4, f_5, if_true, if_false, nqM_rd, nqM_rn, nqM_taped, nqM_mfault, nqM_mplace, nqM_told, nqM_hl, nqM_hd, NR_.w_rd, NR_.w_rn, NR_.w_taped, NR_.w_mfault, NR_.w_mplace, NR_.w_told, NR_.w_hl, NR_.w_hd])⟩ dX12_take_11
set_option maxRecDepth 100000 in
set_option maxHeartbeats 8000000 in
theorem c_X12_begin {l : Launch} {D : va_G} {cy : Nat → ClassId} {L : List Nat} {κ ln : Nat → Nat} {R : Nat → Nat → Option Nat} {I : Nat → Nat → Int32} {J : Nat → Nat → Int64} {ow : Nat → Nat × Nat} (W9 : ∀ a ∈ L, Shp L κ ln R ow a) {x : Nat} (hLx : x ∈ L) (hkx : κ x = 12) (a0 : Int32) (ra0 : Rg 200 900 a0) (hU : Iw L κ R ow I) : CtV l yX12_begin cX12_begin 2 none { frames := 2, cells := 0, slots := 0, locals := 45 } D cy L κ ln R I J [.ref x, .int a0] (fun I2 J2 => Iw L κ R ow I2 ∧ Fq L κ ow [1200, 1202, 1203, 1204, 1205, 1206, 1207, 1208, 1209, 1210] I I2 ∧ Fq L κ ow [1212] J J2 ∧ ((MTf R I2 J2 x, NRf R I2 J2 x) = mBegin a0 (MTf R I J x) (NRf R I J x))) := by
  refine CtV.of (by decide +kernel) (Nat.le_of_ble_eq_true rfl) ?_
  intro p e s m below meth c B K
  have C := B.1
  have hF : Fq L κ ow [1200, 1202, 1203, 1204, 1205, 1206, 1207, 1208, 1209, 1210] I I := fq_rf
  have hG : Fq L κ ow [1212] J J := fq_rf
  obtain ⟨b_1, hb_1, hb_1L, hb_1k, hb_1n, hb_1o⟩ := shp_a (W9 x hLx) hkx 1 14 940 rfl (by decide)
  have emqx : ∀ I J, MTf R I J x = MTq I J x b_1 := fun I J => by simp only [MTf, rr_, Option.getD_some, hb_1]
  have wmqx : mqw_ L κ ow x b_1 := ⟨⟨hLx, hb_1L⟩, ⟨(ro_o hkx (by decide)), (ro_a hb_1k (by decide) hb_1o hkx rfl)⟩⟩
  obtain ⟨s_2, hs_2⟩ : ∃ z, MTq I J x b_1 = z := ⟨_, rfl⟩
  obtain ⟨b_3, hb_3, hb_3L, hb_3k, hb_3n, hb_3o⟩ := shp_a (W9 x hLx) hkx 15 14 72 rfl (by decide)
  obtain ⟨b_4, hb_4, hb_4L, hb_4k, hb_4n, hb_4o⟩ := shp_a (W9 x hLx) hkx 20 15 13 rfl (by decide)
  have enqx : ∀ I J, NRf R I J x = NRq I J x b_3 b_4 := fun I J => by simp only [NRf, rr_, Option.getD_some, hb_3, hb_4]
  have wnqx : nqw_ L κ ow x b_3 b_4 := ⟨⟨hLx, hb_3L, hb_4L⟩, ⟨(ro_o hkx (by decide)), (ro_a hb_3k (by decide) hb_3o hkx rfl), (ro_a hb_4k (by decide) hb_4o hkx rfl)⟩⟩
  obtain ⟨s_5, hs_5⟩ : ∃ z, NRq I J x b_3 b_4 = z := ⟨_, rfl⟩
  refine g_lo (is := [0, 1]) (lo2 := [(0, .ref x), (1, .int a0)]) rfl ?_
  refine g_aload_n C 0 dX12_begin_0 rfl rfl ?_
  refine g_iconst C (v := 0) dX12_begin_1 (by decide) ?_
  refine h_putI C K hLx hkx f_12_82 p_12_0 dX12_begin_2 (fun I_6 hI_6 => ?_)
  have hU_7 := iw_put W9 hU hI_6 (ro_o hkx (by decide)) (lo := (-2147483648)) (hi := 2147483647) (rfl) (rg_all _) rfl
  have hF_8 := fq_puto hF hI_6 hkx (by decide) (by decide)
  have hs_9 : MTq I_6 J x b_1 = s_2 := by rw [hI_6]; exact (mq_uIt wmqx (by decide)).trans hs_2
  have hs_10 : NRq I_6 J x b_3 b_4 = s_5 := by rw [hI_6]; exact (nq_uIt wnqx (by decide)).trans hs_5
  refine g_aload_n C 0 dX12_begin_5 rfl rfl ?_
  refine g_aload_n C 0 dX12_begin_6 rfl rfl ?_
  refine g_callVI C K (c_X12_take W9 hLx hkx   hU_7) hLx hkx (by decide) rfl v_12_162 rfl ⟨rfl, rfl⟩ ⟨Nat.le_of_ble_eq_true rfl, Nat.le_of_ble_eq_true rfl⟩ (Nat.le_of_ble_eq_true rfl) ⟨Nat.le_of_ble_eq_true rfl, Nat.le_of_ble_eq_true rfl⟩ dX12_begin_7 rfl (st := [.ref x]) (fun x_11 I_12 J_13 h_14 => ?_)
  obtain ⟨hUI_12, hFI_12, hGJ_13, rx_11, fx_11⟩ := h_14
  have hF_15 := fq_tr hF_8 hFI_12 (by decide)
  have hG_16 := fq_tr hG hGJ_13 (by decide)
  obtain ⟨s_18, hs_18⟩ : ∃ z, NRq I_12 J_13 x b_3 b_4 = z := ⟨_, rfl⟩
  have c_17 : mTake (s_5) = (x_11, s_18) := by have q := fx_11; simp only [enqx, hs_10, hs_18] at q; exact q.symm
  have hs_19 : MTq I_12 J_13 x b_1 = s_2 := (mq_fq wmqx hFI_12 hGJ_13 (by decide) (by decide)).trans hs_9
  refine h_putI C K hLx hkx f_12_92 p_12_3 dX12_begin_10 (fun I_20 hI_20 => ?_)
  have hU_21 := iw_put W9 hUI_12 hI_20 (ro_o hkx (by decide)) (lo := 0) (hi := 940) (rfl) (rx_11) rfl
  have hF_22 := fq_puto hF_15 hI_20 hkx (by decide) (by decide)
  have hs_23 : MTq I_20 J_13 x b_1 = (MT_.w_size s_2 (x_11)) := by rw [hI_20]; exact ((mq_size wmqx).trans (congrArg (fun z : MT_ => MT_.w_size z (x_11)) hs_19)).trans rfl
  have hs_24 : NRq I_20 J_13 x b_3 b_4 = s_18 := by rw [hI_20]; exact (nq_uIt wnqx (by decide)).trans hs_18
  refine g_aload_n C 0 dX12_begin_13 rfl rfl ?_
  refine g_iload_n C 1 dX12_begin_14 rfl rfl ?_
  refine h_putI C K hLx hkx f_12_101 p_12_4 dX12_begin_15 (fun I_25 hI_25 => ?_)
  have hU_26 := iw_put W9 hU_21 hI_25 (ro_o hkx (by decide)) (lo := 0) (hi := 900) (rfl) (rg_w ra0 (by decide) (by decide)) rfl
  have hF_27 := fq_puto hF_22 hI_25 hkx (by decide) (by decide)
  have hs_28 : MTq I_25 J_13 x b_1 = (MT_.w_limit (MT_.w_size s_2 (x_11)) (a0)) := by rw [hI_25]; exact ((mq_limit wmqx).trans (congrArg (fun z : MT_ => MT_.w_limit z (a0)) hs_23)).trans rfl
  have hs_29 : NRq I_25 J_13 x b_3 b_4 = s_18 := by rw [hI_25]; exact (nq_uIt wnqx (by decide)).trans hs_24
  refine g_aload_n C 0 dX12_begin_18 rfl rfl ?_
  refine g_iconst C (v := 0) dX12_begin_19 (by decide) ?_
  refine h_putI C K hLx hkx f_12_140 p_12_10 dX12_begin_20 (fun I_30 hI_30 => ?_)
  have hU_31 := iw_put W9 hU_26 hI_30 (ro_o hkx (by decide)) (lo := (-2147483648)) (hi := 2147483647) (rfl) (rg_all _) rfl
  have hF_32 := fq_puto hF_27 hI_30 hkx (by decide) (by decide)
  have hs_33 : MTq I_30 J_13 x b_1 = (MT_.w_limit (MT_.w_size s_2 (x_11)) (a0)) := by rw [hI_30]; exact (mq_uIt wmqx (by decide)).trans hs_28
  have hs_34 : NRq I_30 J_13 x b_3 b_4 = (NR_.w_mfault s_18 (0)) := by rw [hI_30]; exact ((nq_mfault wnqx).trans (congrArg (fun z : NR_ => NR_.w_mfault z (0)) hs_29)).trans rfl
  refine g_aload_n C 0 dX12_begin_23 rfl rfl ?_
  refine g_iconst C (v := 0) dX12_begin_24 (by decide) ?_
  refine h_putI C K hLx hkx f_12_95 p_12_5 dX12_begin_25 (fun I_35 hI_35 => ?_)
  have hU_36 := iw_put W9 hU_31 hI_35 (ro_o hkx (by decide)) (lo := 0) (hi := 940) (rfl) (rg_w rc_0 (by decide) (by decide)) rfl
  have hF_37 := fq_puto hF_32 hI_35 hkx (by decide) (by decide)
  have hs_38 : MTq I_35 J_13 x b_1 = (MT_.w_to (MT_.w_limit (MT_.w_size s_2 (x_11)) (a0)) (0)) := by rw [hI_35]; exact ((mq_to wmqx).trans (congrArg (fun z : MT_ => MT_.w_to z (0)) hs_33)).trans rfl
  have hs_39 : NRq I_35 J_13 x b_3 b_4 = (NR_.w_mfault s_18 (0)) := by rw [hI_35]; exact (nq_uIt wnqx (by decide)).trans hs_34
  refine g_aload_n C 0 dX12_begin_28 rfl rfl ?_
  refine g_callVV C K (c_X12_go W9 hLx hkx   hU_36) hLx hkx (by decide) rfl v_12_156 rfl ⟨rfl, rfl⟩ ⟨Nat.le_of_ble_eq_true rfl, Nat.le_of_ble_eq_true rfl⟩ (Nat.le_of_ble_eq_true rfl) ⟨Nat.le_of_ble_eq_true rfl, Nat.le_of_ble_eq_true rfl⟩ dX12_begin_29 rfl (st := []) (fun I_41 J_42 h_43 => ?_)
  obtain ⟨hUI_41, hFI_41, hGJ_42, fx_40, ex_40⟩ := h_43
  have hF_44 := fq_tr hF_37 hFI_41 (by decide)
  have hG_45 := fq_tr hG_16 hGJ_42 (by decide)
  obtain ⟨s_47, hs_47⟩ : ∃ z, MTq I_41 J_42 x b_1 = z := ⟨_, rfl⟩
  have c_46 : mGo ((MT_.w_to (MT_.w_limit (MT_.w_size s_2 (x_11)) (a0)) (0))) = s_47 := by have q := fx_40; simp only [emqx, hs_38, hs_47] at q; exact q.symm
  have hs_48 : NRq I_41 J_42 x b_3 b_4 = (NR_.w_mfault s_18 (0)) := (nq_fq wnqx hFI_41 hGJ_42 (by decide) (by decide)).trans hs_39
  exact g_vret B K rfl ⟨hUI_41, hF_44, hG_45, (by (try simp only [c_17, if_true, if_false, mqM_tp, mqM_size, mqM_limit, mqM_to, mqM_frm, mqM_kind, mqM_number, mqM_sign, mqM_word, MT_.w_tp, MT_.w_size, MT_.w_limit, MT_.w_to, MT_.w_frm, MT_.w_kind, MT_.w_number, MT_.w_sign, MT_.w_word, nqM_rd, nqM_rn, nqM_taped, nqM_mfault, nqM_mplace, nqM_told, nqM_hl, nqM_hd, NR_.w_rd, NR_.w_rn, NR_.w_taped, NR_.w_mfault, NR_.w_mplace, NR_.w_told, NR_.w_hl, NR_.w_hd] at c_46); simp only [mBegin, emqx, hs_47, hs_2, enqx, hs_48, hs_5, c_17, c_46, if_true, if_false, mqM_tp, mqM_size, mqM_limit, mqM_to, mqM_frm, mqM_kind, mqM_number, mqM_sign, mqM_word, MT_.w_tp, MT_.w_size, MT_.w_limit, MT_.w_to, MT_.w_frm, MT_.w_kind, MT_.w_number, MT_.w_sign, MT_.w_word, nqM_rd, nqM_rn, nqM_taped, nqM_mfault, nqM_mplace, nqM_told, nqM_hl, nqM_hd, NR_.w_rd, NR_.w_rn, NR_.w_taped, NR_.w_mfault, NR_.w_mplace, NR_.w_told, NR_.w_hl, NR_.w_hd])⟩ dX12_begin_32
set_option maxRecDepth 100000 in
set_option maxHeartbeats 8000000 in
theorem c_X12_bad {l : Launch} {D : va_G} {cy : Nat → ClassId} {L : List Nat} {κ ln : Nat → Nat} {R : Nat → Nat → Option Nat} {I : Nat → Nat → Int32} {J : Nat → Nat → Int64} {ow : Nat → Nat × Nat} (W9 : ∀ a ∈ L, Shp L κ ln R ow a) {x : Nat} (hLx : x ∈ L) (hkx : κ x = 12) (a0 : Int32) (ra0 : Rg 1 4 a0) (hU : Iw L κ R ow I) : CtI l yX12_bad cX12_bad 2 (some .boolean) { frames := 0, cells := 0, slots := 0, locals := 0 } D cy L κ ln R I J [.ref x, .int a0] (fun r I2 J2 => Iw L κ R ow I2 ∧ Fq L κ ow [1210, 1211] I I2 ∧ Fq L κ ow [] J J2 ∧ Rg 0 0 r ∧ ((r, MTf R I2 J2 x, NRf R I2 J2 x) = mBad a0 (MTf R I J x) (NRf R I J x))) := by
  refine CtI.of (by decide +kernel) (Nat.le_of_ble_eq_true rfl) ?_
  intro p e s m below meth c B K
  have C := B.1
  have hF : Fq L κ ow [1210, 1211] I I := fq_rf
  have hG : Fq L κ ow [] J J := fq_rf
  obtain ⟨b_1, hb_1, hb_1L, hb_1k, hb_1n, hb_1o⟩ := shp_a (W9 x hLx) hkx 1 14 940 rfl (by decide)
  have emqx : ∀ I J, MTf R I J x = MTq I J x b_1 := fun I J => by simp only [MTf, rr_, Option.getD_some, hb_1]
  have wmqx : mqw_ L κ ow x b_1 := ⟨⟨hLx, hb_1L⟩, ⟨(ro_o hkx (by decide)), (ro_a hb_1k (by decide) hb_1o hkx rfl)⟩⟩
  obtain ⟨s_2, hs_2⟩ : ∃ z, MTq I J x b_1 = z := ⟨_, rfl⟩
  obtain ⟨b_3, hb_3, hb_3L, hb_3k, hb_3n, hb_3o⟩ := shp_a (W9 x hLx) hkx 15 14 72 rfl (by decide)
  obtain ⟨b_4, hb_4, hb_4L, hb_4k, hb_4n, hb_4o⟩ := shp_a (W9 x hLx) hkx 20 15 13 rfl (by decide)
  have enqx : ∀ I J, NRf R I J x = NRq I J x b_3 b_4 := fun I J => by simp only [NRf, rr_, Option.getD_some, hb_3, hb_4]
  have wnqx : nqw_ L κ ow x b_3 b_4 := ⟨⟨hLx, hb_3L, hb_4L⟩, ⟨(ro_o hkx (by decide)), (ro_a hb_3k (by decide) hb_3o hkx rfl), (ro_a hb_4k (by decide) hb_4o hkx rfl)⟩⟩
  obtain ⟨s_5, hs_5⟩ : ∃ z, NRq I J x b_3 b_4 = z := ⟨_, rfl⟩
  refine g_lo (is := [0, 1]) (lo2 := [(0, .ref x), (1, .int a0)]) rfl ?_
  refine g_aload_n C 0 dX12_bad_0 rfl rfl ?_
  refine g_aload_n C 0 dX12_bad_1 rfl rfl ?_
  obtain ⟨x_6, hx_6, rx_6⟩ := ex_getw (I := I) (a := x) (j := 7) (lo := 0) (hi := 4) hU.1 hLx (ro_o hkx (by decide)) rfl
  have f_7 : s_2.kind = x_6 := (congrArg MT_.kind hs_2).symm.trans hx_6
  refine g_getI C K hLx hkx f_12_104 (v := x_6) hx_6 dX12_bad_2 ?_
  refine g_iconst C (v := 1) dX12_bad_5 (by decide) ?_
  refine g_icmp_ne C (tgt := 13) dX12_bad_6 (by decide) (fun h_8 => ?_) (fun h_8 => ?_)
  · skip
    have n_9 : ¬ x_6 = 1 := h_8
    refine g_iload_n C 1 dX12_bad_13 rfl rfl ?_
    refine h_putI C K hLx hkx f_12_140 p_12_10 dX12_bad_14 (fun I_10 hI_10 => ?_)
    have hU_11 := iw_put W9 hU hI_10 (ro_o hkx (by decide)) (lo := (-2147483648)) (hi := 2147483647) (rfl) (rg_all _) rfl
    have hF_12 := fq_puto hF hI_10 hkx (by decide) (by decide)
    have hs_13 : MTq I_10 J x b_1 = s_2 := by rw [hI_10]; exact (mq_uIt wmqx (by decide)).trans hs_2
    have hs_14 : NRq I_10 J x b_3 b_4 = (NR_.w_mfault s_5 (a0)) := by rw [hI_10]; exact ((nq_mfault wnqx).trans (congrArg (fun z : NR_ => NR_.w_mfault z (a0)) hs_5)).trans rfl
    refine g_aload_n C 0 dX12_bad_17 rfl rfl ?_
    refine g_aload_n C 0 dX12_bad_18 rfl rfl ?_
    obtain ⟨x_15, hx_15, rx_15⟩ := ex_getw (I := I_10) (a := x) (j := 6) (lo := 0) (hi := 940) hU_11.1 hLx (ro_o hkx (by decide)) rfl
    have f_16 : s_2.frm = x_15 := (congrArg MT_.frm hs_13).symm.trans hx_15
    refine g_getI C K hLx hkx f_12_98 (v := x_15) hx_15 dX12_bad_19 ?_
    refine h_putI C K hLx hkx f_12_143 p_12_11 dX12_bad_22 (fun I_17 hI_17 => ?_)
    have hU_18 := iw_put W9 hU_11 hI_17 (ro_o hkx (by decide)) (lo := (-2147483648)) (hi := 2147483647) (rfl) (rg_all _) rfl
    have hF_19 := fq_puto hF_12 hI_17 hkx (by decide) (by decide)
    have hs_20 : MTq I_17 J x b_1 = s_2 := by rw [hI_17]; exact (mq_uIt wmqx (by decide)).trans hs_13
    have hs_21 : NRq I_17 J x b_3 b_4 = (NR_.w_mplace (NR_.w_mfault s_5 (a0)) (x_15)) := by rw [hI_17]; exact ((nq_mplace wnqx).trans (congrArg (fun z : NR_ => NR_.w_mplace z (x_15)) hs_14)).trans rfl
    refine g_iconst C (v := 0) dX12_bad_25 (by decide) ?_
    exact g_zret (ty := .boolean) (r := 0) B K rfl (rfl) ⟨hU_18, hF_19, hG, rc_0, (by simp only [mBad, emqx, hs_20, hs_2, enqx, hs_21, hs_5, hx_6, f_7, h_8, hx_15, f_16, if_true, if_false, mqM_tp, mqM_size, mqM_limit, mqM_to, mqM_frm, mqM_kind, mqM_number, mqM_sign, mqM_word, MT_.w_tp, MT_.w_size, MT_.w_limit, MT_.w_to, MT_.w_frm, MT_.w_kind, MT_.w_number, MT_.w_sign, MT_.w_word, nqM_rd, nqM_rn, nqM_taped, nqM_mfault, nqM_mplace, nqM_told, nqM_hl, nqM_hd, NR_.w_rd, NR_.w_rn, NR_.w_taped, NR_.w_mfault, NR_.w_mplace, NR_.w_told, NR_.w_hl, NR_.w_hd])⟩ dX12_bad_26
  · skip
    have r_22 := (⟨(eq_rg (h_8) rc_1).1, (eq_rg (h_8) rc_1).2⟩ : Rg 1 1 x_6)
    refine g_iconst C (v := 1) dX12_bad_9 (by decide) ?_
    refine g_goto C (tgt := 14) dX12_bad_10 (by decide) ?_
    refine h_putI C K hLx hkx f_12_140 p_12_10 dX12_bad_14 (fun I_23 hI_23 => ?_)
    have hU_24 := iw_put W9 hU hI_23 (ro_o hkx (by decide)) (lo := (-2147483648)) (hi := 2147483647) (rfl) (rg_all _) rfl
    have hF_25 := fq_puto hF hI_23 hkx (by decide) (by decide)
    have hs_26 : MTq I_23 J x b_1 = s_2 := by rw [hI_23]; exact (mq_uIt wmqx (by decide)).trans hs_2
    have hs_27 : NRq I_23 J x b_3 b_4 = (NR_.w_mfault s_5 (1)) := by rw [hI_23]; exact ((nq_mfault wnqx).trans (congrArg (fun z : NR_ => NR_.w_mfault z (1)) hs_5)).trans rfl
    refine g_aload_n C 0 dX12_bad_17 rfl rfl ?_
    refine g_aload_n C 0 dX12_bad_18 rfl rfl ?_
    obtain ⟨x_28, hx_28, rx_28⟩ := ex_getw (I := I_23) (a := x) (j := 6) (lo := 0) (hi := 940) hU_24.1 hLx (ro_o hkx (by decide)) rfl
    have f_29 : s_2.frm = x_28 := (congrArg MT_.frm hs_26).symm.trans hx_28
    refine g_getI C K hLx hkx f_12_98 (v := x_28) hx_28 dX12_bad_19 ?_
    refine h_putI C K hLx hkx f_12_143 p_12_11 dX12_bad_22 (fun I_30 hI_30 => ?_)
    have hU_31 := iw_put W9 hU_24 hI_30 (ro_o hkx (by decide)) (lo := (-2147483648)) (hi := 2147483647) (rfl) (rg_all _) rfl
    have hF_32 := fq_puto hF_25 hI_30 hkx (by decide) (by decide)
    have hs_33 : MTq I_30 J x b_1 = s_2 := by rw [hI_30]; exact (mq_uIt wmqx (by decide)).trans hs_26
    have hs_34 : NRq I_30 J x b_3 b_4 = (NR_.w_mplace (NR_.w_mfault s_5 (1)) (x_28)) := by rw [hI_30]; exact ((nq_mplace wnqx).trans (congrArg (fun z : NR_ => NR_.w_mplace z (x_28)) hs_27)).trans rfl
    refine g_iconst C (v := 0) dX12_bad_25 (by decide) ?_
    exact g_zret (ty := .boolean) (r := 0) B K rfl (rfl) ⟨hU_31, hF_32, hG, rc_0, (by simp only [mBad, emqx, hs_33, hs_2, enqx, hs_34, hs_5, hx_6, f_7, (eq_true h_8), hx_28, f_29, if_true, if_false, mqM_tp, mqM_size, mqM_limit, mqM_to, mqM_frm, mqM_kind, mqM_number, mqM_sign, mqM_word, MT_.w_tp, MT_.w_size, MT_.w_limit, MT_.w_to, MT_.w_frm, MT_.w_kind, MT_.w_number, MT_.w_sign, MT_.w_word, nqM_rd, nqM_rn, nqM_taped, nqM_mfault, nqM_mplace, nqM_told, nqM_hl, nqM_hd, NR_.w_rd, NR_.w_rn, NR_.w_taped, NR_.w_mfault, NR_.w_mplace, NR_.w_told, NR_.w_hl, NR_.w_hd])⟩ dX12_bad_26
set_option maxRecDepth 100000 in
set_option maxHeartbeats 8000000 in
theorem c_X12_isSign {l : Launch} {D : va_G} {cy : Nat → ClassId} {L : List Nat} {κ ln : Nat → Nat} {R : Nat → Nat → Option Nat} {I : Nat → Nat → Int32} {J : Nat → Nat → Int64} {ow : Nat → Nat × Nat} (W9 : ∀ a ∈ L, Shp L κ ln R ow a) {x : Nat} (hLx : x ∈ L) (hkx : κ x = 12) (a0 : Int32) (ra0 : Rg 40 62 a0) (hU : Iw L κ R ow I) : CtI l yX12_isSign cX12_isSign 2 (some .boolean) { frames := 0, cells := 0, slots := 0, locals := 0 } D cy L κ ln R I J [.ref x, .int a0] (fun r I2 J2 => I = I2 ∧ J = J2 ∧ Rg 0 1 r ∧ (r = mIsSign a0 (MTf R I J x)) ∧ (¬ r = 0 → Rg 4 4 (I2 x 7))) := by
  refine CtI.of (by decide +kernel) (Nat.le_of_ble_eq_true rfl) ?_
  intro p e s m below meth c B K
  have C := B.1
  obtain ⟨b_1, hb_1, hb_1L, hb_1k, hb_1n, hb_1o⟩ := shp_a (W9 x hLx) hkx 1 14 940 rfl (by decide)
  have emqx : ∀ I J, MTf R I J x = MTq I J x b_1 := fun I J => by simp only [MTf, rr_, Option.getD_some, hb_1]
  have wmqx : mqw_ L κ ow x b_1 := ⟨⟨hLx, hb_1L⟩, ⟨(ro_o hkx (by decide)), (ro_a hb_1k (by decide) hb_1o hkx rfl)⟩⟩
  obtain ⟨s_2, hs_2⟩ : ∃ z, MTq I J x b_1 = z := ⟨_, rfl⟩
  refine g_lo (is := [0, 1]) (lo2 := [(0, .ref x), (1, .int a0)]) rfl ?_
  refine g_aload_n C 0 dX12_isSign_0 rfl rfl ?_
  obtain ⟨x_3, hx_3, rx_3⟩ := ex_getw (I := I) (a := x) (j := 7) (lo := 0) (hi := 4) hU.1 hLx (ro_o hkx (by decide)) rfl
  have f_4 : s_2.kind = x_3 := (congrArg MT_.kind hs_2).symm.trans hx_3
  refine g_getI C K hLx hkx f_12_104 (v := x_3) hx_3 dX12_isSign_1 ?_
  refine g_iconst C (v := 4) dX12_isSign_4 (by decide) ?_
  refine g_icmp_ne C (tgt := 20) dX12_isSign_5 (by decide) (fun h_5 => ?_) (fun h_5 => ?_)
  · skip
    have n_6 : ¬ x_3 = 4 := h_5
    have r_7 := ne_hi (hi := 3) n_6 rx_3 rc_4 rfl (by decide)
    refine g_iconst C (v := 0) dX12_isSign_20 (by decide) ?_
    exact g_zret (ty := .boolean) (r := 0) B K rfl (rfl) ⟨rfl, rfl, rg_w rc_0 (by decide) (by decide), (by simp only [mIsSign, emqx, hs_2, hx_3, f_4, h_5, if_true, if_false, mqM_tp, mqM_size, mqM_limit, mqM_to, mqM_frm, mqM_kind, mqM_number, mqM_sign, mqM_word, MT_.w_tp, MT_.w_size, MT_.w_limit, MT_.w_to, MT_.w_frm, MT_.w_kind, MT_.w_number, MT_.w_sign, MT_.w_word]), (fun q => absurd rfl q)⟩ dX12_isSign_21
  · skip
    have r_8 := (⟨(eq_rg (h_5) rc_4).1, (rx_3).2⟩ : Rg 4 4 x_3)
    refine g_aload_n C 0 dX12_isSign_8 rfl rfl ?_
    obtain ⟨x_9, hx_9, rx_9⟩ := ex_getw (I := I) (a := x) (j := 9) (lo := (-2147483648)) (hi := 2147483647) hU.1 hLx (ro_o hkx (by decide)) rfl
    have f_10 : s_2.sign = x_9 := (congrArg MT_.sign hs_2).symm.trans hx_9
    refine g_getI C K hLx hkx f_12_114 (v := x_9) hx_9 dX12_isSign_9 ?_
    refine g_iload_n C 1 dX12_isSign_12 rfl rfl ?_
    refine g_icmp_ne C (tgt := 20) dX12_isSign_13 (by decide) (fun h_11 => ?_) (fun h_11 => ?_)
    · skip
      refine g_iconst C (v := 0) dX12_isSign_20 (by decide) ?_
      exact g_zret (ty := .boolean) (r := 0) B K rfl (rfl) ⟨rfl, rfl, rg_w rc_0 (by decide) (by decide), (by simp only [mIsSign, emqx, hs_2, hx_3, f_4, (eq_true h_5), hx_9, f_10, h_11, if_true, if_false, mqM_tp, mqM_size, mqM_limit, mqM_to, mqM_frm, mqM_kind, mqM_number, mqM_sign, mqM_word, MT_.w_tp, MT_.w_size, MT_.w_limit, MT_.w_to, MT_.w_frm, MT_.w_kind, MT_.w_number, MT_.w_sign, MT_.w_word]), (fun q => absurd rfl q)⟩ dX12_isSign_21
    · skip
      have r_12 := (⟨(eq_rg (h_11) ra0).1, (eq_rg (h_11) ra0).2⟩ : Rg 40 62 x_9)
      refine g_iconst C (v := 1) dX12_isSign_16 (by decide) ?_
      refine g_goto C (tgt := 21) dX12_isSign_17 (by decide) ?_
      exact g_zret (ty := .boolean) (r := 1) B K rfl (rfl) ⟨rfl, rfl, rg_w rc_1 (by decide) (by decide), (by simp only [mIsSign, emqx, hs_2, hx_3, f_4, (eq_true h_5), hx_9, f_10, (eq_true h_11), if_true, if_false, mqM_tp, mqM_size, mqM_limit, mqM_to, mqM_frm, mqM_kind, mqM_number, mqM_sign, mqM_word, MT_.w_tp, MT_.w_size, MT_.w_limit, MT_.w_to, MT_.w_frm, MT_.w_kind, MT_.w_number, MT_.w_sign, MT_.w_word]), (fun _ => eq_rg hx_3 (r_8))⟩ dX12_isSign_21
set_option maxRecDepth 100000 in
set_option maxHeartbeats 8000000 in
theorem c_X12_readEnd {l : Launch} {D : va_G} {cy : Nat → ClassId} {L : List Nat} {κ ln : Nat → Nat} {R : Nat → Nat → Option Nat} {I : Nat → Nat → Int32} {J : Nat → Nat → Int64} {ow : Nat → Nat × Nat} (W9 : ∀ a ∈ L, Shp L κ ln R ow a) {x : Nat} (hLx : x ∈ L) (hkx : κ x = 12) (hU : Iw L κ R ow I) : CtI l yX12_readEnd cX12_readEnd 1 (some .boolean) { frames := 2, cells := 0, slots := 0, locals := 45 } D cy L κ ln R I J [.ref x] (fun r I2 J2 => Iw L κ R ow I2 ∧ Fq L κ ow [1205, 1206, 1207, 1208, 1209, 1210, 1211] I I2 ∧ Fq L κ ow [1212] J J2 ∧ Rg 0 1 r ∧ ((r, MTf R I2 J2 x, NRf R I2 J2 x) = mReadEnd (MTf R I J x) (NRf R I J x)) ∧ (Pg_ x I I2 ∧ (¬ r = 0 → Ps_ x I I2)) ∧ (¬ r = 0 → (I x 7).toInt = 4)) := by
  obtain ⟨x_1, hx_1, rx_1⟩ := ex_getw (I := I) (a := x) (j := 7) (lo := 0) (hi := 4) hU.1 hLx (ro_o hkx (by decide)) rfl
  refine CtI.of (by decide +kernel) (Nat.le_of_ble_eq_true rfl) ?_
  intro p e s m below meth c B K
  have C := B.1
  have hF : Fq L κ ow [1205, 1206, 1207, 1208, 1209, 1210, 1211] I I := fq_rf
  have hG : Fq L κ ow [1212] J J := fq_rf
  obtain ⟨b_2, hb_2, hb_2L, hb_2k, hb_2n, hb_2o⟩ := shp_a (W9 x hLx) hkx 1 14 940 rfl (by decide)
  have emqx : ∀ I J, MTf R I J x = MTq I J x b_2 := fun I J => by simp only [MTf, rr_, Option.getD_some, hb_2]
  have wmqx : mqw_ L κ ow x b_2 := ⟨⟨hLx, hb_2L⟩, ⟨(ro_o hkx (by decide)), (ro_a hb_2k (by decide) hb_2o hkx rfl)⟩⟩
  obtain ⟨s_3, hs_3⟩ : ∃ z, MTq I J x b_2 = z := ⟨_, rfl⟩
  obtain ⟨b_4, hb_4, hb_4L, hb_4k, hb_4n, hb_4o⟩ := shp_a (W9 x hLx) hkx 15 14 72 rfl (by decide)
  obtain ⟨b_5, hb_5, hb_5L, hb_5k, hb_5n, hb_5o⟩ := shp_a (W9 x hLx) hkx 20 15 13 rfl (by decide)
  have enqx : ∀ I J, NRf R I J x = NRq I J x b_4 b_5 := fun I J => by simp only [NRf, rr_, Option.getD_some, hb_4, hb_5]
  have wnqx : nqw_ L κ ow x b_4 b_5 := ⟨⟨hLx, hb_4L, hb_5L⟩, ⟨(ro_o hkx (by decide)), (ro_a hb_4k (by decide) hb_4o hkx rfl), (ro_a hb_5k (by decide) hb_5o hkx rfl)⟩⟩
  obtain ⟨s_6, hs_6⟩ : ∃ z, NRq I J x b_4 b_5 = z := ⟨_, rfl⟩
  refine g_lo (is := [0]) (lo2 := [(0, .ref x)]) rfl ?_
  refine g_aload_n C 0 dX12_readEnd_0 rfl rfl ?_
  refine g_bipush C (v := 59) dX12_readEnd_1 (by decide) ?_
  have f_7 : s_3.kind = x_1 := (congrArg MT_.kind hs_3).symm.trans hx_1
  refine g_callVI C K (c_X12_isSign W9 hLx hkx 59 (rg_w rc_59 (by decide) (by decide)) hU) hLx hkx (by decide) rfl v_12_159 rfl ⟨rfl, rfl⟩ ⟨Nat.le_of_ble_eq_true rfl, Nat.le_of_ble_eq_true rfl⟩ (Nat.le_of_ble_eq_true rfl) ⟨Nat.le_of_ble_eq_true rfl, Nat.le_of_ble_eq_true rfl⟩ dX12_readEnd_3 rfl (st := []) (fun x_8 I_9 J_10 h_11 => ?_)
  obtain ⟨rfl, rfl, rx_8, fx_8, ex_8⟩ := h_11
  have c_12 : mIsSign (59) (s_3) = x_8 := by have q := fx_8; simp only [emqx, hs_3] at q; exact q.symm
  have q_13 := hx_1
  refine g_if_ne C (tgt := 15) dX12_readEnd_6 (by decide) (fun h_14 => ?_) (fun h_14 => ?_)
  · skip
    have n_15 : ¬ x_8 = 0 := h_14
    have r_16 := ne_lo (lo := 1) n_15 rx_8 rc_0 rfl (by decide)
    have r_17 := rg_i rx_1 (eq_rg q_13.symm ((ex_8) n_15)) (lo := 4) (hi := 4) (by decide) (by decide)
    refine g_aload_n C 0 dX12_readEnd_15 rfl rfl ?_
    refine g_callVV C K (c_X12_go W9 hLx hkx   hU) hLx hkx (by decide) rfl v_12_156 rfl ⟨rfl, rfl⟩ ⟨Nat.le_of_ble_eq_true rfl, Nat.le_of_ble_eq_true rfl⟩ (Nat.le_of_ble_eq_true rfl) ⟨Nat.le_of_ble_eq_true rfl, Nat.le_of_ble_eq_true rfl⟩ dX12_readEnd_16 rfl (st := []) (fun I_19 J_20 h_21 => ?_)
    obtain ⟨hUI_19, hFI_19, hGJ_20, fx_18, ex_18⟩ := h_21
    have hF_22 := fq_tr hF hFI_19 (by decide)
    have hG_23 := fq_tr hG hGJ_20 (by decide)
    obtain ⟨s_25, hs_25⟩ : ∃ z, MTq I_19 J_20 x b_2 = z := ⟨_, rfl⟩
    have c_24 : mGo (s_3) = s_25 := by have q := fx_18; simp only [emqx, hs_3, hs_25] at q; exact q.symm
    have hs_26 : NRq I_19 J_20 x b_4 b_5 = s_6 := (nq_fq wnqx hFI_19 hGJ_20 (by decide) (by decide)).trans hs_6
    refine g_iconst C (v := 1) dX12_readEnd_19 (by decide) ?_
    exact g_zret (ty := .boolean) (r := 1) B K rfl (rfl) ⟨hUI_19, hF_22, hG_23, rg_w rc_1 (by decide) (by decide), (by simp only [mReadEnd, emqx, hs_25, hs_3, enqx, hs_26, hs_6, hx_1, f_7, c_12, h_14, c_24, if_true, if_false, mqM_tp, mqM_size, mqM_limit, mqM_to, mqM_frm, mqM_kind, mqM_number, mqM_sign, mqM_word, MT_.w_tp, MT_.w_size, MT_.w_limit, MT_.w_to, MT_.w_frm, MT_.w_kind, MT_.w_number, MT_.w_sign, MT_.w_word, nqM_rd, nqM_rn, nqM_taped, nqM_mfault, nqM_mplace, nqM_told, nqM_hl, nqM_hd, NR_.w_rd, NR_.w_rn, NR_.w_taped, NR_.w_mfault, NR_.w_mplace, NR_.w_told, NR_.w_hl, NR_.w_hd]), ⟨(pg_s (ps_t2 pg_rf ex_18)), fun _ => (ps_t2 pg_rf ex_18)⟩, (fun _ => by rw [hx_1]; have := (r_17).1; have := (r_17).2; omega)⟩ dX12_readEnd_20
  · skip
    have r_27 := (⟨(rx_8).1, (eq_rg (h_14) rc_0).2⟩ : Rg 0 0 x_8)
    refine g_aload_n C 0 dX12_readEnd_9 rfl rfl ?_
    refine g_iconst C (v := 1) dX12_readEnd_10 (by decide) ?_
    refine g_callVI C K (c_X12_bad W9 hLx hkx 1 (rg_w rc_1 (by decide) (by decide)) hU) hLx hkx (by decide) rfl v_12_146 rfl ⟨rfl, rfl⟩ ⟨Nat.le_of_ble_eq_true rfl, Nat.le_of_ble_eq_true rfl⟩ (Nat.le_of_ble_eq_true rfl) ⟨Nat.le_of_ble_eq_true rfl, Nat.le_of_ble_eq_true rfl⟩ dX12_readEnd_11 rfl (st := []) (fun x_28 I_29 J_30 h_31 => ?_)
    obtain ⟨hUI_29, hFI_29, hGJ_30, rx_28, fx_28⟩ := h_31
    have hF_32 := fq_tr hF hFI_29 (by decide)
    have hG_33 := fq_tr hG hGJ_30 (by decide)
    obtain ⟨s_35, hs_35⟩ : ∃ z, MTq I_29 J_30 x b_2 = z := ⟨_, rfl⟩
    obtain ⟨s_36, hs_36⟩ : ∃ z, NRq I_29 J_30 x b_4 b_5 = z := ⟨_, rfl⟩
    have c_34 : mBad (1) (s_3) (s_6) = (x_28, s_35, s_36) := by have q := fx_28; simp only [emqx, enqx, hs_3, hs_6, hs_35, hs_36] at q; exact q.symm
    exact g_zret (ty := .boolean) (r := x_28) B K rfl (nar_z (rg_w rx_28 (by decide) (by decide))) ⟨hUI_29, hF_32, hG_33, rg_w rx_28 (by decide) (by decide), (by simp only [mReadEnd, emqx, hs_35, hs_3, enqx, hs_36, hs_6, hx_1, f_7, c_12, (eq_true h_14), c_34, if_true, if_false, mqM_tp, mqM_size, mqM_limit, mqM_to, mqM_frm, mqM_kind, mqM_number, mqM_sign, mqM_word, MT_.w_tp, MT_.w_size, MT_.w_limit, MT_.w_to, MT_.w_frm, MT_.w_kind, MT_.w_number, MT_.w_sign, MT_.w_word, nqM_rd, nqM_rn, nqM_taped, nqM_mfault, nqM_mplace, nqM_told, nqM_hl, nqM_hd, NR_.w_rd, NR_.w_rn, NR_.w_taped, NR_.w_mfault, NR_.w_mplace, NR_.w_told, NR_.w_hl, NR_.w_hd]), ⟨(pg_fq pg_rf hFI_29 hLx hkx (by decide) (by decide)), fun q => ne_no q rx_28 rc_0⟩, (fun q => ne_no q rx_28 rc_0)⟩ dX12_readEnd_14
set_option maxRecDepth 100000 in
set_option maxHeartbeats 8000000 in
theorem c_X12_spelt {l : Launch} {D : va_G} {cy : Nat → ClassId} {L : List Nat} {κ ln : Nat → Nat} {R : Nat → Nat → Option Nat} {I : Nat → Nat → Int32} {J : Nat → Nat → Int64} {ow : Nat → Nat × Nat} (W9 : ∀ a ∈ L, Shp L κ ln R ow a) (a0 : Int32) (a1 : Int32) (a2 : Int32) (a3 : Int32) (a4 : Int32) (a5 : Int32) (a6 : Int32) (ra0 : Rg 97 119 a0) (ra1 : Rg 97 117 a1) (ra2 : Rg 0 120 a2) (ra3 : Rg 0 118 a3) (ra4 : Rg 0 116 a4) (ra5 : Rg 0 121 a5) (ra6 : Rg 0 115 a6) (hU : Iw L κ R ow I) : CtL l yX12_spelt cX12_spelt 9 (some .long) { frames := 0, cells := 0, slots := 0, locals := 0 } D cy L κ ln R I J [.int a0, .int a1, .int a2, .int a3, .int a4, .int a5, .int a6] (fun r I2 J2 => I = I2 ∧ J = J2 ∧ (r = spl a0 a1 a2 a3 a4 a5 a6)) := by
  refine CtL.of (by decide +kernel) (Nat.le_of_ble_eq_true rfl) ?_
  intro p e s m below meth c B K
  have C := B.1
  refine g_lo (is := [0, 1, 2, 3, 4, 5, 6]) (lo2 := [(0, .int a0), (1, .int a1), (2, .int a2), (3, .int a3), (4, .int a4), (5, .int a5), (6, .int a6)]) rfl ?_
  refine g_ldc2 C kl_128 dX12_spelt_0 ?_
  refine g_iload_n C 0 dX12_spelt_3 rfl rfl ?_
  obtain ⟨y_1, hy_1⟩ : ∃ z, Int32.toInt64 a0 = z := ⟨_, rfl⟩
  refine g_i2l C (v := y_1) dX12_spelt_4 hy_1 ?_
  refine g_ldc2 C kl_130 dX12_spelt_5 ?_
  refine g_lsubE C dX12_spelt_8 (fun y_2 hy_2 => ?_)
  refine g_lmulE C dX12_spelt_9 (fun y_3 hy_3 => ?_)
  refine g_iload_n C 1 dX12_spelt_10 rfl rfl ?_
  obtain ⟨y_4, hy_4⟩ : ∃ z, Int32.toInt64 a1 = z := ⟨_, rfl⟩
  refine g_i2l C (v := y_4) dX12_spelt_11 hy_4 ?_
  refine g_laddE C dX12_spelt_12 (fun y_5 hy_5 => ?_)
  refine g_ldc2 C kl_130 dX12_spelt_13 ?_
  refine g_lsubE C dX12_spelt_16 (fun y_6 hy_6 => ?_)
  refine g_lstore C dX12_spelt_17 (by decide) (lo2 := [(7, .long y_6), (0, .int a0), (1, .int a1), (2, .int a2), (3, .int a3), (4, .int a4), (5, .int a5), (6, .int a6)]) rfl ?_
  refine g_iload_n C 3 dX12_spelt_19 rfl rfl ?_
  refine g_if_le C (tgt := 38) dX12_spelt_20 (by decide) (fun h_7 => ?_) (fun h_7 => ?_)
  · skip
    have r_8 := le_l (h_7) ra2 rc_0
    refine g_iload_n C 4 dX12_spelt_38 rfl rfl ?_
    refine g_if_le C (tgt := 57) dX12_spelt_39 (by decide) (fun h_9 => ?_) (fun h_9 => ?_)
    · skip
      have r_10 := le_l (h_9) ra3 rc_0
      refine g_iload C 5 dX12_spelt_57 rfl ?_
      refine g_if_le C (tgt := 78) dX12_spelt_59 (by decide) (fun h_11 => ?_) (fun h_11 => ?_)
      · skip
        have r_12 := le_l (h_11) ra4 rc_0
        refine g_iload C 6 dX12_spelt_78 rfl ?_
        refine g_if_le C (tgt := 99) dX12_spelt_80 (by decide) (fun h_13 => ?_) (fun h_13 => ?_)
        · skip
          have r_14 := le_l (h_13) ra5 rc_0
          refine g_iload C 7 dX12_spelt_99 rfl ?_
          refine g_if_le C (tgt := 120) dX12_spelt_101 (by decide) (fun h_15 => ?_) (fun h_15 => ?_)
          · skip
            have r_16 := le_l (h_15) ra6 rc_0
            refine g_lload C 0 dX12_spelt_120 rfl ?_
            exact g_lret (r := y_6) B K rfl ⟨rfl, rfl, (by simp only [spl, hy_1, hy_2, hy_3, hy_4, hy_5, hy_6, h_7, h_9, h_11, h_13, h_15, if_true, if_false])⟩ dX12_spelt_122
          · skip
            have r_17 := lt_r (lo := 1) (nle h_15) rc_0 ra6 (by decide)
            refine g_ldc2 C kl_128 dX12_spelt_104 ?_
            refine g_lload C 0 dX12_spelt_107 rfl ?_
            refine g_lmulE C dX12_spelt_109 (fun y_18 hy_18 => ?_)
            refine g_iload C 7 dX12_spelt_110 rfl ?_
            obtain ⟨y_19, hy_19⟩ : ∃ z, Int32.toInt64 a6 = z := ⟨_, rfl⟩
            refine g_i2l C (v := y_19) dX12_spelt_112 hy_19 ?_
            refine g_laddE C dX12_spelt_113 (fun y_20 hy_20 => ?_)
            refine g_ldc2 C kl_130 dX12_spelt_114 ?_
            refine g_lsubE C dX12_spelt_117 (fun y_21 hy_21 => ?_)
            refine g_lstore C dX12_spelt_118 (by decide) (lo2 := [(7, .long y_21), (0, .int a0), (1, .int a1), (2, .int a2), (3, .int a3), (4, .int a4), (5, .int a5), (6, .int a6)]) rfl ?_
            refine g_lload C 0 dX12_spelt_120 rfl ?_
            exact g_lret (r := y_21) B K rfl ⟨rfl, rfl, (by simp only [spl, hy_1, hy_2, hy_3, hy_4, hy_5, hy_6, h_7, h_9, h_11, h_13, h_15, (nle h_15), hy_18, hy_19, hy_20, hy_21, if_true, if_false])⟩ dX12_spelt_122
        · skip
          have r_22 := lt_r (lo := 1) (nle h_13) rc_0 ra5 (by decide)
          refine g_ldc2 C kl_128 dX12_spelt_83 ?_
          refine g_lload C 0 dX12_spelt_86 rfl ?_
          refine g_lmulE C dX12_spelt_88 (fun y_23 hy_23 => ?_)
          refine g_iload C 6 dX12_spelt_89 rfl ?_
          obtain ⟨y_24, hy_24⟩ : ∃ z, Int32.toInt64 a5 = z := ⟨_, rfl⟩
          refine g_i2l C (v := y_24) dX12_spelt_91 hy_24 ?_
          refine g_laddE C dX12_spelt_92 (fun y_25 hy_25 => ?_)
          refine g_ldc2 C kl_130 dX12_spelt_93 ?_
          refine g_lsubE C dX12_spelt_96 (fun y_26 hy_26 => ?_)
          refine g_lstore C dX12_spelt_97 (by decide) (lo2 := [(7, .long y_26), (0, .int a0), (1, .int a1), (2, .int a2), (3, .int a3), (4, .int a4), (5, .int a5), (6, .int a6)]) rfl ?_
          refine g_iload C 7 dX12_spelt_99 rfl ?_
          refine g_if_le C (tgt := 120) dX12_spelt_101 (by decide) (fun h_27 => ?_) (fun h_27 => ?_)
          · skip
            have r_28 := le_l (h_27) ra6 rc_0
            refine g_lload C 0 dX12_spelt_120 rfl ?_
            exact g_lret (r := y_26) B K rfl ⟨rfl, rfl, (by simp only [spl, hy_1, hy_2, hy_3, hy_4, hy_5, hy_6, h_7, h_9, h_11, h_13, (nle h_13), hy_23, hy_24, hy_25, hy_26, h_27, if_true, if_false])⟩ dX12_spelt_122
          · skip
            have r_29 := lt_r (lo := 1) (nle h_27) rc_0 ra6 (by decide)
            refine g_ldc2 C kl_128 dX12_spelt_104 ?_
            refine g_lload C 0 dX12_spelt_107 rfl ?_
            refine g_lmulE C dX12_spelt_109 (fun y_30 hy_30 => ?_)
            refine g_iload C 7 dX12_spelt_110 rfl ?_
            obtain ⟨y_31, hy_31⟩ : ∃ z, Int32.toInt64 a6 = z := ⟨_, rfl⟩
            refine g_i2l C (v := y_31) dX12_spelt_112 hy_31 ?_
            refine g_laddE C dX12_spelt_113 (fun y_32 hy_32 => ?_)
            refine g_ldc2 C kl_130 dX12_spelt_114 ?_
            refine g_lsubE C dX12_spelt_117 (fun y_33 hy_33 => ?_)
            refine g_lstore C dX12_spelt_118 (by decide) (lo2 := [(7, .long y_33), (0, .int a0), (1, .int a1), (2, .int a2), (3, .int a3), (4, .int a4), (5, .int a5), (6, .int a6)]) rfl ?_
            refine g_lload C 0 dX12_spelt_120 rfl ?_
            exact g_lret (r := y_33) B K rfl ⟨rfl, rfl, (by simp only [spl, hy_1, hy_2, hy_3, hy_4, hy_5, hy_6, h_7, h_9, h_11, h_13, (nle h_13), hy_23, hy_24, hy_25, hy_26, h_27, (nle h_27), hy_30, hy_31, hy_32, hy_33, if_true, if_false])⟩ dX12_spelt_122
      · skip
        have r_34 := lt_r (lo := 1) (nle h_11) rc_0 ra4 (by decide)
        refine g_ldc2 C kl_128 dX12_spelt_62 ?_
        refine g_lload C 0 dX12_spelt_65 rfl ?_
        refine g_lmulE C dX12_spelt_67 (fun y_35 hy_35 => ?_)
        refine g_iload C 5 dX12_spelt_68 rfl ?_
        obtain ⟨y_36, hy_36⟩ : ∃ z, Int32.toInt64 a4 = z := ⟨_, rfl⟩
        refine g_i2l C (v := y_36) dX12_spelt_70 hy_36 ?_
        refine g_laddE C dX12_spelt_71 (fun y_37 hy_37 => ?_)
        refine g_ldc2 C kl_130 dX12_spelt_72 ?_
        refine g_lsubE C dX12_spelt_75 (fun y_38 hy_38 => ?_)
        refine g_lstore C dX12_spelt_76 (by decide) (lo2 := [(7, .long y_38), (0, .int a0), (1, .int a1), (2, .int a2), (3, .int a3), (4, .int a4), (5, .int a5), (6, .int a6)]) rfl ?_
        refine g_iload C 6 dX12_spelt_78 rfl ?_
        refine g_if_le C (tgt := 99) dX12_spelt_80 (by decide) (fun h_39 => ?_) (fun h_39 => ?_)
        · skip
          have r_40 := le_l (h_39) ra5 rc_0
          refine g_iload C 7 dX12_spelt_99 rfl ?_
          refine g_if_le C (tgt := 120) dX12_spelt_101 (by decide) (fun h_41 => ?_) (fun h_41 => ?_)
          · skip
            have r_42 := le_l (h_41) ra6 rc_0
            refine g_lload C 0 dX12_spelt_120 rfl ?_
            exact g_lret (r := y_38) B K rfl ⟨rfl, rfl, (by simp only [spl, hy_1, hy_2, hy_3, hy_4, hy_5, hy_6, h_7, h_9, h_11, (nle h_11), hy_35, hy_36, hy_37, hy_38, h_39, h_41, if_true, if_false])⟩ dX12_spelt_122
          · skip
            have r_43 := lt_r (lo := 1) (nle h_41) rc_0 ra6 (by decide)
            refine g_ldc2 C kl_128 dX12_spelt_104 ?_
            refine g_lload C 0 dX12_spelt_107 rfl ?_
            refine g_lmulE C dX12_spelt_109 (fun y_44 hy_44 => ?_)
            refine g_iload C 7 dX12_spelt_110 rfl ?_
            obtain ⟨y_45, hy_45⟩ : ∃ z, Int32.toInt64 a6 = z := ⟨_, rfl⟩
            refine g_i2l C (v := y_45) dX12_spelt_112 hy_45 ?_
            refine g_laddE C dX12_spelt_113 (fun y_46 hy_46 => ?_)
            refine g_ldc2 C kl_130 dX12_spelt_114 ?_
            refine g_lsubE C dX12_spelt_117 (fun y_47 hy_47 => ?_)
            refine g_lstore C dX12_spelt_118 (by decide) (lo2 := [(7, .long y_47), (0, .int a0), (1, .int a1), (2, .int a2), (3, .int a3), (4, .int a4), (5, .int a5), (6, .int a6)]) rfl ?_
            refine g_lload C 0 dX12_spelt_120 rfl ?_
            exact g_lret (r := y_47) B K rfl ⟨rfl, rfl, (by simp only [spl, hy_1, hy_2, hy_3, hy_4, hy_5, hy_6, h_7, h_9, h_11, (nle h_11), hy_35, hy_36, hy_37, hy_38, h_39, h_41, (nle h_41), hy_44, hy_45, hy_46, hy_47, if_true, if_false])⟩ dX12_spelt_122
        · skip
          have r_48 := lt_r (lo := 1) (nle h_39) rc_0 ra5 (by decide)
          refine g_ldc2 C kl_128 dX12_spelt_83 ?_
          refine g_lload C 0 dX12_spelt_86 rfl ?_
          refine g_lmulE C dX12_spelt_88 (fun y_49 hy_49 => ?_)
          refine g_iload C 6 dX12_spelt_89 rfl ?_
          obtain ⟨y_50, hy_50⟩ : ∃ z, Int32.toInt64 a5 = z := ⟨_, rfl⟩
          refine g_i2l C (v := y_50) dX12_spelt_91 hy_50 ?_
          refine g_laddE C dX12_spelt_92 (fun y_51 hy_51 => ?_)
          refine g_ldc2 C kl_130 dX12_spelt_93 ?_
          refine g_lsubE C dX12_spelt_96 (fun y_52 hy_52 => ?_)
          refine g_lstore C dX12_spelt_97 (by decide) (lo2 := [(7, .long y_52), (0, .int a0), (1, .int a1), (2, .int a2), (3, .int a3), (4, .int a4), (5, .int a5), (6, .int a6)]) rfl ?_
          refine g_iload C 7 dX12_spelt_99 rfl ?_
          refine g_if_le C (tgt := 120) dX12_spelt_101 (by decide) (fun h_53 => ?_) (fun h_53 => ?_)
          · skip
            have r_54 := le_l (h_53) ra6 rc_0
            refine g_lload C 0 dX12_spelt_120 rfl ?_
            exact g_lret (r := y_52) B K rfl ⟨rfl, rfl, (by simp only [spl, hy_1, hy_2, hy_3, hy_4, hy_5, hy_6, h_7, h_9, h_11, (nle h_11), hy_35, hy_36, hy_37, hy_38, h_39, (nle h_39), hy_49, hy_50, hy_51, hy_52, h_53, if_true, if_false])⟩ dX12_spelt_122
          · skip
            have r_55 := lt_r (lo := 1) (nle h_53) rc_0 ra6 (by decide)
            refine g_ldc2 C kl_128 dX12_spelt_104 ?_
            refine g_lload C 0 dX12_spelt_107 rfl ?_
            refine g_lmulE C dX12_spelt_109 (fun y_56 hy_56 => ?_)
            refine g_iload C 7 dX12_spelt_110 rfl ?_
            obtain ⟨y_57, hy_57⟩ : ∃ z, Int32.toInt64 a6 = z := ⟨_, rfl⟩
            refine g_i2l C (v := y_57) dX12_spelt_112 hy_57 ?_
            refine g_laddE C dX12_spelt_113 (fun y_58 hy_58 => ?_)
            refine g_ldc2 C kl_130 dX12_spelt_114 ?_
            refine g_lsubE C dX12_spelt_117 (fun y_59 hy_59 => ?_)
            refine g_lstore C dX12_spelt_118 (by decide) (lo2 := [(7, .long y_59), (0, .int a0), (1, .int a1), (2, .int a2), (3, .int a3), (4, .int a4), (5, .int a5), (6, .int a6)]) rfl ?_
            refine g_lload C 0 dX12_spelt_120 rfl ?_
            exact g_lret (r := y_59) B K rfl ⟨rfl, rfl, (by simp only [spl, hy_1, hy_2, hy_3, hy_4, hy_5, hy_6, h_7, h_9, h_11, (nle h_11), hy_35, hy_36, hy_37, hy_38, h_39, (nle h_39), hy_49, hy_50, hy_51, hy_52, h_53, (nle h_53), hy_56, hy_57, hy_58, hy_59, if_true, if_false])⟩ dX12_spelt_122
    · skip
      have r_60 := lt_r (lo := 1) (nle h_9) rc_0 ra3 (by decide)
      refine g_ldc2 C kl_128 dX12_spelt_42 ?_
      refine g_lload C 0 dX12_spelt_45 rfl ?_
      refine g_lmulE C dX12_spelt_47 (fun y_61 hy_61 => ?_)
      refine g_iload_n C 4 dX12_spelt_48 rfl rfl ?_
      obtain ⟨y_62, hy_62⟩ : ∃ z, Int32.toInt64 a3 = z := ⟨_, rfl⟩
      refine g_i2l C (v := y_62) dX12_spelt_49 hy_62 ?_
      refine g_laddE C dX12_spelt_50 (fun y_63 hy_63 => ?_)
      refine g_ldc2 C kl_130 dX12_spelt_51 ?_
      refine g_lsubE C dX12_spelt_54 (fun y_64 hy_64 => ?_)
      refine g_lstore C dX12_spelt_55 (by decide) (lo2 := [(7, .long y_64), (0, .int a0), (1, .int a1), (2, .int a2), (3, .int a3), (4, .int a4), (5, .int a5), (6, .int a6)]) rfl ?_
      refine g_iload C 5 dX12_spelt_57 rfl ?_
      refine g_if_le C (tgt := 78) dX12_spelt_59 (by decide) (fun h_65 => ?_) (fun h_65 => ?_)
      · skip
        have r_66 := le_l (h_65) ra4 rc_0
        refine g_iload C 6 dX12_spelt_78 rfl ?_
        refine g_if_le C (tgt := 99) dX12_spelt_80 (by decide) (fun h_67 => ?_) (fun h_67 => ?_)
        · skip
          have r_68 := le_l (h_67) ra5 rc_0
          refine g_iload C 7 dX12_spelt_99 rfl ?_
          refine g_if_le C (tgt := 120) dX12_spelt_101 (by decide) (fun h_69 => ?_) (fun h_69 => ?_)
          · skip
            have r_70 := le_l (h_69) ra6 rc_0
            refine g_lload C 0 dX12_spelt_120 rfl ?_
            exact g_lret (r := y_64) B K rfl ⟨rfl, rfl, (by simp only [spl, hy_1, hy_2, hy_3, hy_4, hy_5, hy_6, h_7, h_9, (nle h_9), hy_61, hy_62, hy_63, hy_64, h_65, h_67, h_69, if_true, if_false])⟩ dX12_spelt_122
          · skip
            have r_71 := lt_r (lo := 1) (nle h_69) rc_0 ra6 (by decide)
            refine g_ldc2 C kl_128 dX12_spelt_104 ?_
            refine g_lload C 0 dX12_spelt_107 rfl ?_
            refine g_lmulE C dX12_spelt_109 (fun y_72 hy_72 => ?_)
            refine g_iload C 7 dX12_spelt_110 rfl ?_
            obtain ⟨y_73, hy_73⟩ : ∃ z, Int32.toInt64 a6 = z := ⟨_, rfl⟩
            refine g_i2l C (v := y_73) dX12_spelt_112 hy_73 ?_
            refine g_laddE C dX12_spelt_113 (fun y_74 hy_74 => ?_)
            refine g_ldc2 C kl_130 dX12_spelt_114 ?_
            refine g_lsubE C dX12_spelt_117 (fun y_75 hy_75 => ?_)
            refine g_lstore C dX12_spelt_118 (by decide) (lo2 := [(7, .long y_75), (0, .int a0), (1, .int a1), (2, .int a2), (3, .int a3), (4, .int a4), (5, .int a5), (6, .int a6)]) rfl ?_
            refine g_lload C 0 dX12_spelt_120 rfl ?_
            exact g_lret (r := y_75) B K rfl ⟨rfl, rfl, (by simp only [spl, hy_1, hy_2, hy_3, hy_4, hy_5, hy_6, h_7, h_9, (nle h_9), hy_61, hy_62, hy_63, hy_64, h_65, h_67, h_69, (nle h_69), hy_72, hy_73, hy_74, hy_75, if_true, if_false])⟩ dX12_spelt_122
        · skip
          have r_76 := lt_r (lo := 1) (nle h_67) rc_0 ra5 (by decide)
          refine g_ldc2 C kl_128 dX12_spelt_83 ?_
          refine g_lload C 0 dX12_spelt_86 rfl ?_
          refine g_lmulE C dX12_spelt_88 (fun y_77 hy_77 => ?_)
          refine g_iload C 6 dX12_spelt_89 rfl ?_
          obtain ⟨y_78, hy_78⟩ : ∃ z, Int32.toInt64 a5 = z := ⟨_, rfl⟩
          refine g_i2l C (v := y_78) dX12_spelt_91 hy_78 ?_
          refine g_laddE C dX12_spelt_92 (fun y_79 hy_79 => ?_)
          refine g_ldc2 C kl_130 dX12_spelt_93 ?_
          refine g_lsubE C dX12_spelt_96 (fun y_80 hy_80 => ?_)
          refine g_lstore C dX12_spelt_97 (by decide) (lo2 := [(7, .long y_80), (0, .int a0), (1, .int a1), (2, .int a2), (3, .int a3), (4, .int a4), (5, .int a5), (6, .int a6)]) rfl ?_
          refine g_iload C 7 dX12_spelt_99 rfl ?_
          refine g_if_le C (tgt := 120) dX12_spelt_101 (by decide) (fun h_81 => ?_) (fun h_81 => ?_)
          · skip
            have r_82 := le_l (h_81) ra6 rc_0
            refine g_lload C 0 dX12_spelt_120 rfl ?_
            exact g_lret (r := y_80) B K rfl ⟨rfl, rfl, (by simp only [spl, hy_1, hy_2, hy_3, hy_4, hy_5, hy_6, h_7, h_9, (nle h_9), hy_61, hy_62, hy_63, hy_64, h_65, h_67, (nle h_67), hy_77, hy_78, hy_79, hy_80, h_81, if_true, if_false])⟩ dX12_spelt_122
          · skip
            have r_83 := lt_r (lo := 1) (nle h_81) rc_0 ra6 (by decide)
            refine g_ldc2 C kl_128 dX12_spelt_104 ?_
            refine g_lload C 0 dX12_spelt_107 rfl ?_
            refine g_lmulE C dX12_spelt_109 (fun y_84 hy_84 => ?_)
            refine g_iload C 7 dX12_spelt_110 rfl ?_
            obtain ⟨y_85, hy_85⟩ : ∃ z, Int32.toInt64 a6 = z := ⟨_, rfl⟩
            refine g_i2l C (v := y_85) dX12_spelt_112 hy_85 ?_
            refine g_laddE C dX12_spelt_113 (fun y_86 hy_86 => ?_)
            refine g_ldc2 C kl_130 dX12_spelt_114 ?_
            refine g_lsubE C dX12_spelt_117 (fun y_87 hy_87 => ?_)
            refine g_lstore C dX12_spelt_118 (by decide) (lo2 := [(7, .long y_87), (0, .int a0), (1, .int a1), (2, .int a2), (3, .int a3), (4, .int a4), (5, .int a5), (6, .int a6)]) rfl ?_
            refine g_lload C 0 dX12_spelt_120 rfl ?_
            exact g_lret (r := y_87) B K rfl ⟨rfl, rfl, (by simp only [spl, hy_1, hy_2, hy_3, hy_4, hy_5, hy_6, h_7, h_9, (nle h_9), hy_61, hy_62, hy_63, hy_64, h_65, h_67, (nle h_67), hy_77, hy_78, hy_79, hy_80, h_81, (nle h_81), hy_84, hy_85, hy_86, hy_87, if_true, if_false])⟩ dX12_spelt_122
      · skip
        have r_88 := lt_r (lo := 1) (nle h_65) rc_0 ra4 (by decide)
        refine g_ldc2 C kl_128 dX12_spelt_62 ?_
        refine g_lload C 0 dX12_spelt_65 rfl ?_
        refine g_lmulE C dX12_spelt_67 (fun y_89 hy_89 => ?_)
        refine g_iload C 5 dX12_spelt_68 rfl ?_
        obtain ⟨y_90, hy_90⟩ : ∃ z, Int32.toInt64 a4 = z := ⟨_, rfl⟩
        refine g_i2l C (v := y_90) dX12_spelt_70 hy_90 ?_
        refine g_laddE C dX12_spelt_71 (fun y_91 hy_91 => ?_)
        refine g_ldc2 C kl_130 dX12_spelt_72 ?_
        refine g_lsubE C dX12_spelt_75 (fun y_92 hy_92 => ?_)
        refine g_lstore C dX12_spelt_76 (by decide) (lo2 := [(7, .long y_92), (0, .int a0), (1, .int a1), (2, .int a2), (3, .int a3), (4, .int a4), (5, .int a5), (6, .int a6)]) rfl ?_
        refine g_iload C 6 dX12_spelt_78 rfl ?_
        refine g_if_le C (tgt := 99) dX12_spelt_80 (by decide) (fun h_93 => ?_) (fun h_93 => ?_)
        · skip
          have r_94 := le_l (h_93) ra5 rc_0
          refine g_iload C 7 dX12_spelt_99 rfl ?_
          refine g_if_le C (tgt := 120) dX12_spelt_101 (by decide) (fun h_95 => ?_) (fun h_95 => ?_)
          · skip
            have r_96 := le_l (h_95) ra6 rc_0
            refine g_lload C 0 dX12_spelt_120 rfl ?_
            exact g_lret (r := y_92) B K rfl ⟨rfl, rfl, (by simp only [spl, hy_1, hy_2, hy_3, hy_4, hy_5, hy_6, h_7, h_9, (nle h_9), hy_61, hy_62, hy_63, hy_64, h_65, (nle h_65), hy_89, hy_90, hy_91, hy_92, h_93, h_95, if_true, if_false])⟩ dX12_spelt_122
          · skip
            have r_97 := lt_r (lo := 1) (nle h_95) rc_0 ra6 (by decide)
            refine g_ldc2 C kl_128 dX12_spelt_104 ?_
            refine g_lload C 0 dX12_spelt_107 rfl ?_
            refine g_lmulE C dX12_spelt_109 (fun y_98 hy_98 => ?_)
            refine g_iload C 7 dX12_spelt_110 rfl ?_
            obtain ⟨y_99, hy_99⟩ : ∃ z, Int32.toInt64 a6 = z := ⟨_, rfl⟩
            refine g_i2l C (v := y_99) dX12_spelt_112 hy_99 ?_
            refine g_laddE C dX12_spelt_113 (fun y_100 hy_100 => ?_)
            refine g_ldc2 C kl_130 dX12_spelt_114 ?_
            refine g_lsubE C dX12_spelt_117 (fun y_101 hy_101 => ?_)
            refine g_lstore C dX12_spelt_118 (by decide) (lo2 := [(7, .long y_101), (0, .int a0), (1, .int a1), (2, .int a2), (3, .int a3), (4, .int a4), (5, .int a5), (6, .int a6)]) rfl ?_
            refine g_lload C 0 dX12_spelt_120 rfl ?_
            exact g_lret (r := y_101) B K rfl ⟨rfl, rfl, (by simp only [spl, hy_1, hy_2, hy_3, hy_4, hy_5, hy_6, h_7, h_9, (nle h_9), hy_61, hy_62, hy_63, hy_64, h_65, (nle h_65), hy_89, hy_90, hy_91, hy_92, h_93, h_95, (nle h_95), hy_98, hy_99, hy_100, hy_101, if_true, if_false])⟩ dX12_spelt_122
        · skip
          have r_102 := lt_r (lo := 1) (nle h_93) rc_0 ra5 (by decide)
          refine g_ldc2 C kl_128 dX12_spelt_83 ?_
          refine g_lload C 0 dX12_spelt_86 rfl ?_
          refine g_lmulE C dX12_spelt_88 (fun y_103 hy_103 => ?_)
          refine g_iload C 6 dX12_spelt_89 rfl ?_
          obtain ⟨y_104, hy_104⟩ : ∃ z, Int32.toInt64 a5 = z := ⟨_, rfl⟩
          refine g_i2l C (v := y_104) dX12_spelt_91 hy_104 ?_
          refine g_laddE C dX12_spelt_92 (fun y_105 hy_105 => ?_)
          refine g_ldc2 C kl_130 dX12_spelt_93 ?_
          refine g_lsubE C dX12_spelt_96 (fun y_106 hy_106 => ?_)
          refine g_lstore C dX12_spelt_97 (by decide) (lo2 := [(7, .long y_106), (0, .int a0), (1, .int a1), (2, .int a2), (3, .int a3), (4, .int a4), (5, .int a5), (6, .int a6)]) rfl ?_
          refine g_iload C 7 dX12_spelt_99 rfl ?_
          refine g_if_le C (tgt := 120) dX12_spelt_101 (by decide) (fun h_107 => ?_) (fun h_107 => ?_)
          · skip
            have r_108 := le_l (h_107) ra6 rc_0
            refine g_lload C 0 dX12_spelt_120 rfl ?_
            exact g_lret (r := y_106) B K rfl ⟨rfl, rfl, (by simp only [spl, hy_1, hy_2, hy_3, hy_4, hy_5, hy_6, h_7, h_9, (nle h_9), hy_61, hy_62, hy_63, hy_64, h_65, (nle h_65), hy_89, hy_90, hy_91, hy_92, h_93, (nle h_93), hy_103, hy_104, hy_105, hy_106, h_107, if_true, if_false])⟩ dX12_spelt_122
          · skip
            have r_109 := lt_r (lo := 1) (nle h_107) rc_0 ra6 (by decide)
            refine g_ldc2 C kl_128 dX12_spelt_104 ?_
            refine g_lload C 0 dX12_spelt_107 rfl ?_
            refine g_lmulE C dX12_spelt_109 (fun y_110 hy_110 => ?_)
            refine g_iload C 7 dX12_spelt_110 rfl ?_
            obtain ⟨y_111, hy_111⟩ : ∃ z, Int32.toInt64 a6 = z := ⟨_, rfl⟩
            refine g_i2l C (v := y_111) dX12_spelt_112 hy_111 ?_
            refine g_laddE C dX12_spelt_113 (fun y_112 hy_112 => ?_)
            refine g_ldc2 C kl_130 dX12_spelt_114 ?_
            refine g_lsubE C dX12_spelt_117 (fun y_113 hy_113 => ?_)
            refine g_lstore C dX12_spelt_118 (by decide) (lo2 := [(7, .long y_113), (0, .int a0), (1, .int a1), (2, .int a2), (3, .int a3), (4, .int a4), (5, .int a5), (6, .int a6)]) rfl ?_
            refine g_lload C 0 dX12_spelt_120 rfl ?_
            exact g_lret (r := y_113) B K rfl ⟨rfl, rfl, (by simp only [spl, hy_1, hy_2, hy_3, hy_4, hy_5, hy_6, h_7, h_9, (nle h_9), hy_61, hy_62, hy_63, hy_64, h_65, (nle h_65), hy_89, hy_90, hy_91, hy_92, h_93, (nle h_93), hy_103, hy_104, hy_105, hy_106, h_107, (nle h_107), hy_110, hy_111, hy_112, hy_113, if_true, if_false])⟩ dX12_spelt_122
  · skip
    have r_114 := lt_r (lo := 1) (nle h_7) rc_0 ra2 (by decide)
    refine g_ldc2 C kl_128 dX12_spelt_23 ?_
    refine g_lload C 0 dX12_spelt_26 rfl ?_
    refine g_lmulE C dX12_spelt_28 (fun y_115 hy_115 => ?_)
    refine g_iload_n C 3 dX12_spelt_29 rfl rfl ?_
    obtain ⟨y_116, hy_116⟩ : ∃ z, Int32.toInt64 a2 = z := ⟨_, rfl⟩
    refine g_i2l C (v := y_116) dX12_spelt_30 hy_116 ?_
    refine g_laddE C dX12_spelt_31 (fun y_117 hy_117 => ?_)
    refine g_ldc2 C kl_130 dX12_spelt_32 ?_
    refine g_lsubE C dX12_spelt_35 (fun y_118 hy_118 => ?_)
    refine g_lstore C dX12_spelt_36 (by decide) (lo2 := [(7, .long y_118), (0, .int a0), (1, .int a1), (2, .int a2), (3, .int a3), (4, .int a4), (5, .int a5), (6, .int a6)]) rfl ?_
    refine g_iload_n C 4 dX12_spelt_38 rfl rfl ?_
    refine g_if_le C (tgt := 57) dX12_spelt_39 (by decide) (fun h_119 => ?_) (fun h_119 => ?_)
    · skip
      have r_120 := le_l (h_119) ra3 rc_0
      refine g_iload C 5 dX12_spelt_57 rfl ?_
      refine g_if_le C (tgt := 78) dX12_spelt_59 (by decide) (fun h_121 => ?_) (fun h_121 => ?_)
      · skip
        have r_122 := le_l (h_121) ra4 rc_0
        refine g_iload C 6 dX12_spelt_78 rfl ?_
        refine g_if_le C (tgt := 99) dX12_spelt_80 (by decide) (fun h_123 => ?_) (fun h_123 => ?_)
        · skip
          have r_124 := le_l (h_123) ra5 rc_0
          refine g_iload C 7 dX12_spelt_99 rfl ?_
          refine g_if_le C (tgt := 120) dX12_spelt_101 (by decide) (fun h_125 => ?_) (fun h_125 => ?_)
          · skip
            have r_126 := le_l (h_125) ra6 rc_0
            refine g_lload C 0 dX12_spelt_120 rfl ?_
            exact g_lret (r := y_118) B K rfl ⟨rfl, rfl, (by simp only [spl, hy_1, hy_2, hy_3, hy_4, hy_5, hy_6, h_7, (nle h_7), hy_115, hy_116, hy_117, hy_118, h_119, h_121, h_123, h_125, if_true, if_false])⟩ dX12_spelt_122
          · skip
            have r_127 := lt_r (lo := 1) (nle h_125) rc_0 ra6 (by decide)
            refine g_ldc2 C kl_128 dX12_spelt_104 ?_
            refine g_lload C 0 dX12_spelt_107 rfl ?_
            refine g_lmulE C dX12_spelt_109 (fun y_128 hy_128 => ?_)
            refine g_iload C 7 dX12_spelt_110 rfl ?_
            obtain ⟨y_129, hy_129⟩ : ∃ z, Int32.toInt64 a6 = z := ⟨_, rfl⟩
            refine g_i2l C (v := y_129) dX12_spelt_112 hy_129 ?_
            refine g_laddE C dX12_spelt_113 (fun y_130 hy_130 => ?_)
            refine g_ldc2 C kl_130 dX12_spelt_114 ?_
            refine g_lsubE C dX12_spelt_117 (fun y_131 hy_131 => ?_)
            refine g_lstore C dX12_spelt_118 (by decide) (lo2 := [(7, .long y_131), (0, .int a0), (1, .int a1), (2, .int a2), (3, .int a3), (4, .int a4), (5, .int a5), (6, .int a6)]) rfl ?_
            refine g_lload C 0 dX12_spelt_120 rfl ?_
            exact g_lret (r := y_131) B K rfl ⟨rfl, rfl, (by simp only [spl, hy_1, hy_2, hy_3, hy_4, hy_5, hy_6, h_7, (nle h_7), hy_115, hy_116, hy_117, hy_118, h_119, h_121, h_123, h_125, (nle h_125), hy_128, hy_129, hy_130, hy_131, if_true, if_false])⟩ dX12_spelt_122
        · skip
          have r_132 := lt_r (lo := 1) (nle h_123) rc_0 ra5 (by decide)
          refine g_ldc2 C kl_128 dX12_spelt_83 ?_
          refine g_lload C 0 dX12_spelt_86 rfl ?_
          refine g_lmulE C dX12_spelt_88 (fun y_133 hy_133 => ?_)
          refine g_iload C 6 dX12_spelt_89 rfl ?_
          obtain ⟨y_134, hy_134⟩ : ∃ z, Int32.toInt64 a5 = z := ⟨_, rfl⟩
          refine g_i2l C (v := y_134) dX12_spelt_91 hy_134 ?_
          refine g_laddE C dX12_spelt_92 (fun y_135 hy_135 => ?_)
          refine g_ldc2 C kl_130 dX12_spelt_93 ?_
          refine g_lsubE C dX12_spelt_96 (fun y_136 hy_136 => ?_)
          refine g_lstore C dX12_spelt_97 (by decide) (lo2 := [(7, .long y_136), (0, .int a0), (1, .int a1), (2, .int a2), (3, .int a3), (4, .int a4), (5, .int a5), (6, .int a6)]) rfl ?_
          refine g_iload C 7 dX12_spelt_99 rfl ?_
          refine g_if_le C (tgt := 120) dX12_spelt_101 (by decide) (fun h_137 => ?_) (fun h_137 => ?_)
          · skip
            have r_138 := le_l (h_137) ra6 rc_0
            refine g_lload C 0 dX12_spelt_120 rfl ?_
            exact g_lret (r := y_136) B K rfl ⟨rfl, rfl, (by simp only [spl, hy_1, hy_2, hy_3, hy_4, hy_5, hy_6, h_7, (nle h_7), hy_115, hy_116, hy_117, hy_118, h_119, h_121, h_123, (nle h_123), hy_133, hy_134, hy_135, hy_136, h_137, if_true, if_false])⟩ dX12_spelt_122
          · skip
            have r_139 := lt_r (lo := 1) (nle h_137) rc_0 ra6 (by decide)
            refine g_ldc2 C kl_128 dX12_spelt_104 ?_
            refine g_lload C 0 dX12_spelt_107 rfl ?_
            refine g_lmulE C dX12_spelt_109 (fun y_140 hy_140 => ?_)
            refine g_iload C 7 dX12_spelt_110 rfl ?_
            obtain ⟨y_141, hy_141⟩ : ∃ z, Int32.toInt64 a6 = z := ⟨_, rfl⟩
            refine g_i2l C (v := y_141) dX12_spelt_112 hy_141 ?_
            refine g_laddE C dX12_spelt_113 (fun y_142 hy_142 => ?_)
            refine g_ldc2 C kl_130 dX12_spelt_114 ?_
            refine g_lsubE C dX12_spelt_117 (fun y_143 hy_143 => ?_)
            refine g_lstore C dX12_spelt_118 (by decide) (lo2 := [(7, .long y_143), (0, .int a0), (1, .int a1), (2, .int a2), (3, .int a3), (4, .int a4), (5, .int a5), (6, .int a6)]) rfl ?_
            refine g_lload C 0 dX12_spelt_120 rfl ?_
            exact g_lret (r := y_143) B K rfl ⟨rfl, rfl, (by simp only [spl, hy_1, hy_2, hy_3, hy_4, hy_5, hy_6, h_7, (nle h_7), hy_115, hy_116, hy_117, hy_118, h_119, h_121, h_123, (nle h_123), hy_133, hy_134, hy_135, hy_136, h_137, (nle h_137), hy_140, hy_141, hy_142, hy_143, if_true, if_false])⟩ dX12_spelt_122
      · skip
        have r_144 := lt_r (lo := 1) (nle h_121) rc_0 ra4 (by decide)
        refine g_ldc2 C kl_128 dX12_spelt_62 ?_
        refine g_lload C 0 dX12_spelt_65 rfl ?_
        refine g_lmulE C dX12_spelt_67 (fun y_145 hy_145 => ?_)
        refine g_iload C 5 dX12_spelt_68 rfl ?_
        obtain ⟨y_146, hy_146⟩ : ∃ z, Int32.toInt64 a4 = z := ⟨_, rfl⟩
        refine g_i2l C (v := y_146) dX12_spelt_70 hy_146 ?_
        refine g_laddE C dX12_spelt_71 (fun y_147 hy_147 => ?_)
        refine g_ldc2 C kl_130 dX12_spelt_72 ?_
        refine g_lsubE C dX12_spelt_75 (fun y_148 hy_148 => ?_)
        refine g_lstore C dX12_spelt_76 (by decide) (lo2 := [(7, .long y_148), (0, .int a0), (1, .int a1), (2, .int a2), (3, .int a3), (4, .int a4), (5, .int a5), (6, .int a6)]) rfl ?_
        refine g_iload C 6 dX12_spelt_78 rfl ?_
        refine g_if_le C (tgt := 99) dX12_spelt_80 (by decide) (fun h_149 => ?_) (fun h_149 => ?_)
        · skip
          have r_150 := le_l (h_149) ra5 rc_0
          refine g_iload C 7 dX12_spelt_99 rfl ?_
          refine g_if_le C (tgt := 120) dX12_spelt_101 (by decide) (fun h_151 => ?_) (fun h_151 => ?_)
          · skip
            have r_152 := le_l (h_151) ra6 rc_0
            refine g_lload C 0 dX12_spelt_120 rfl ?_
            exact g_lret (r := y_148) B K rfl ⟨rfl, rfl, (by simp only [spl, hy_1, hy_2, hy_3, hy_4, hy_5, hy_6, h_7, (nle h_7), hy_115, hy_116, hy_117, hy_118, h_119, h_121, (nle h_121), hy_145, hy_146, hy_147, hy_148, h_149, h_151, if_true, if_false])⟩ dX12_spelt_122
          · skip
            have r_153 := lt_r (lo := 1) (nle h_151) rc_0 ra6 (by decide)
            refine g_ldc2 C kl_128 dX12_spelt_104 ?_
            refine g_lload C 0 dX12_spelt_107 rfl ?_
            refine g_lmulE C dX12_spelt_109 (fun y_154 hy_154 => ?_)
            refine g_iload C 7 dX12_spelt_110 rfl ?_
            obtain ⟨y_155, hy_155⟩ : ∃ z, Int32.toInt64 a6 = z := ⟨_, rfl⟩
            refine g_i2l C (v := y_155) dX12_spelt_112 hy_155 ?_
            refine g_laddE C dX12_spelt_113 (fun y_156 hy_156 => ?_)
            refine g_ldc2 C kl_130 dX12_spelt_114 ?_
            refine g_lsubE C dX12_spelt_117 (fun y_157 hy_157 => ?_)
            refine g_lstore C dX12_spelt_118 (by decide) (lo2 := [(7, .long y_157), (0, .int a0), (1, .int a1), (2, .int a2), (3, .int a3), (4, .int a4), (5, .int a5), (6, .int a6)]) rfl ?_
            refine g_lload C 0 dX12_spelt_120 rfl ?_
            exact g_lret (r := y_157) B K rfl ⟨rfl, rfl, (by simp only [spl, hy_1, hy_2, hy_3, hy_4, hy_5, hy_6, h_7, (nle h_7), hy_115, hy_116, hy_117, hy_118, h_119, h_121, (nle h_121), hy_145, hy_146, hy_147, hy_148, h_149, h_151, (nle h_151), hy_154, hy_155, hy_156, hy_157, if_true, if_false])⟩ dX12_spelt_122
        · skip
          have r_158 := lt_r (lo := 1) (nle h_149) rc_0 ra5 (by decide)
          refine g_ldc2 C kl_128 dX12_spelt_83 ?_
          refine g_lload C 0 dX12_spelt_86 rfl ?_
          refine g_lmulE C dX12_spelt_88 (fun y_159 hy_159 => ?_)
          refine g_iload C 6 dX12_spelt_89 rfl ?_
          obtain ⟨y_160, hy_160⟩ : ∃ z, Int32.toInt64 a5 = z := ⟨_, rfl⟩
          refine g_i2l C (v := y_160) dX12_spelt_91 hy_160 ?_
          refine g_laddE C dX12_spelt_92 (fun y_161 hy_161 => ?_)
          refine g_ldc2 C kl_130 dX12_spelt_93 ?_
          refine g_lsubE C dX12_spelt_96 (fun y_162 hy_162 => ?_)
          refine g_lstore C dX12_spelt_97 (by decide) (lo2 := [(7, .long y_162), (0, .int a0), (1, .int a1), (2, .int a2), (3, .int a3), (4, .int a4), (5, .int a5), (6, .int a6)]) rfl ?_
          refine g_iload C 7 dX12_spelt_99 rfl ?_
          refine g_if_le C (tgt := 120) dX12_spelt_101 (by decide) (fun h_163 => ?_) (fun h_163 => ?_)
          · skip
            have r_164 := le_l (h_163) ra6 rc_0
            refine g_lload C 0 dX12_spelt_120 rfl ?_
            exact g_lret (r := y_162) B K rfl ⟨rfl, rfl, (by simp only [spl, hy_1, hy_2, hy_3, hy_4, hy_5, hy_6, h_7, (nle h_7), hy_115, hy_116, hy_117, hy_118, h_119, h_121, (nle h_121), hy_145, hy_146, hy_147, hy_148, h_149, (nle h_149), hy_159, hy_160, hy_161, hy_162, h_163, if_true, if_false])⟩ dX12_spelt_122
          · skip
            have r_165 := lt_r (lo := 1) (nle h_163) rc_0 ra6 (by decide)
            refine g_ldc2 C kl_128 dX12_spelt_104 ?_
            refine g_lload C 0 dX12_spelt_107 rfl ?_
            refine g_lmulE C dX12_spelt_109 (fun y_166 hy_166 => ?_)
            refine g_iload C 7 dX12_spelt_110 rfl ?_
            obtain ⟨y_167, hy_167⟩ : ∃ z, Int32.toInt64 a6 = z := ⟨_, rfl⟩
            refine g_i2l C (v := y_167) dX12_spelt_112 hy_167 ?_
            refine g_laddE C dX12_spelt_113 (fun y_168 hy_168 => ?_)
            refine g_ldc2 C kl_130 dX12_spelt_114 ?_
            refine g_lsubE C dX12_spelt_117 (fun y_169 hy_169 => ?_)
            refine g_lstore C dX12_spelt_118 (by decide) (lo2 := [(7, .long y_169), (0, .int a0), (1, .int a1), (2, .int a2), (3, .int a3), (4, .int a4), (5, .int a5), (6, .int a6)]) rfl ?_
            refine g_lload C 0 dX12_spelt_120 rfl ?_
            exact g_lret (r := y_169) B K rfl ⟨rfl, rfl, (by simp only [spl, hy_1, hy_2, hy_3, hy_4, hy_5, hy_6, h_7, (nle h_7), hy_115, hy_116, hy_117, hy_118, h_119, h_121, (nle h_121), hy_145, hy_146, hy_147, hy_148, h_149, (nle h_149), hy_159, hy_160, hy_161, hy_162, h_163, (nle h_163), hy_166, hy_167, hy_168, hy_169, if_true, if_false])⟩ dX12_spelt_122
    · skip
      have r_170 := lt_r (lo := 1) (nle h_119) rc_0 ra3 (by decide)
      refine g_ldc2 C kl_128 dX12_spelt_42 ?_
      refine g_lload C 0 dX12_spelt_45 rfl ?_
      refine g_lmulE C dX12_spelt_47 (fun y_171 hy_171 => ?_)
      refine g_iload_n C 4 dX12_spelt_48 rfl rfl ?_
      obtain ⟨y_172, hy_172⟩ : ∃ z, Int32.toInt64 a3 = z := ⟨_, rfl⟩
      refine g_i2l C (v := y_172) dX12_spelt_49 hy_172 ?_
      refine g_laddE C dX12_spelt_50 (fun y_173 hy_173 => ?_)
      refine g_ldc2 C kl_130 dX12_spelt_51 ?_
      refine g_lsubE C dX12_spelt_54 (fun y_174 hy_174 => ?_)
      refine g_lstore C dX12_spelt_55 (by decide) (lo2 := [(7, .long y_174), (0, .int a0), (1, .int a1), (2, .int a2), (3, .int a3), (4, .int a4), (5, .int a5), (6, .int a6)]) rfl ?_
      refine g_iload C 5 dX12_spelt_57 rfl ?_
      refine g_if_le C (tgt := 78) dX12_spelt_59 (by decide) (fun h_175 => ?_) (fun h_175 => ?_)
      · skip
        have r_176 := le_l (h_175) ra4 rc_0
        refine g_iload C 6 dX12_spelt_78 rfl ?_
        refine g_if_le C (tgt := 99) dX12_spelt_80 (by decide) (fun h_177 => ?_) (fun h_177 => ?_)
        · skip
          have r_178 := le_l (h_177) ra5 rc_0
          refine g_iload C 7 dX12_spelt_99 rfl ?_
          refine g_if_le C (tgt := 120) dX12_spelt_101 (by decide) (fun h_179 => ?_) (fun h_179 => ?_)
          · skip
            have r_180 := le_l (h_179) ra6 rc_0
            refine g_lload C 0 dX12_spelt_120 rfl ?_
            exact g_lret (r := y_174) B K rfl ⟨rfl, rfl, (by simp only [spl, hy_1, hy_2, hy_3, hy_4, hy_5, hy_6, h_7, (nle h_7), hy_115, hy_116, hy_117, hy_118, h_119, (nle h_119), hy_171, hy_172, hy_173, hy_174, h_175, h_177, h_179, if_true, if_false])⟩ dX12_spelt_122
          · skip
            have r_181 := lt_r (lo := 1) (nle h_179) rc_0 ra6 (by decide)
            refine g_ldc2 C kl_128 dX12_spelt_104 ?_
            refine g_lload C 0 dX12_spelt_107 rfl ?_
            refine g_lmulE C dX12_spelt_109 (fun y_182 hy_182 => ?_)
            refine g_iload C 7 dX12_spelt_110 rfl ?_
            obtain ⟨y_183, hy_183⟩ : ∃ z, Int32.toInt64 a6 = z := ⟨_, rfl⟩
            refine g_i2l C (v := y_183) dX12_spelt_112 hy_183 ?_
            refine g_laddE C dX12_spelt_113 (fun y_184 hy_184 => ?_)
            refine g_ldc2 C kl_130 dX12_spelt_114 ?_
            refine g_lsubE C dX12_spelt_117 (fun y_185 hy_185 => ?_)
            refine g_lstore C dX12_spelt_118 (by decide) (lo2 := [(7, .long y_185), (0, .int a0), (1, .int a1), (2, .int a2), (3, .int a3), (4, .int a4), (5, .int a5), (6, .int a6)]) rfl ?_
            refine g_lload C 0 dX12_spelt_120 rfl ?_
            exact g_lret (r := y_185) B K rfl ⟨rfl, rfl, (by simp only [spl, hy_1, hy_2, hy_3, hy_4, hy_5, hy_6, h_7, (nle h_7), hy_115, hy_116, hy_117, hy_118, h_119, (nle h_119), hy_171, hy_172, hy_173, hy_174, h_175, h_177, h_179, (nle h_179), hy_182, hy_183, hy_184, hy_185, if_true, if_false])⟩ dX12_spelt_122
        · skip
          have r_186 := lt_r (lo := 1) (nle h_177) rc_0 ra5 (by decide)
          refine g_ldc2 C kl_128 dX12_spelt_83 ?_
          refine g_lload C 0 dX12_spelt_86 rfl ?_
          refine g_lmulE C dX12_spelt_88 (fun y_187 hy_187 => ?_)
          refine g_iload C 6 dX12_spelt_89 rfl ?_
          obtain ⟨y_188, hy_188⟩ : ∃ z, Int32.toInt64 a5 = z := ⟨_, rfl⟩
          refine g_i2l C (v := y_188) dX12_spelt_91 hy_188 ?_
          refine g_laddE C dX12_spelt_92 (fun y_189 hy_189 => ?_)
          refine g_ldc2 C kl_130 dX12_spelt_93 ?_
          refine g_lsubE C dX12_spelt_96 (fun y_190 hy_190 => ?_)
          refine g_lstore C dX12_spelt_97 (by decide) (lo2 := [(7, .long y_190), (0, .int a0), (1, .int a1), (2, .int a2), (3, .int a3), (4, .int a4), (5, .int a5), (6, .int a6)]) rfl ?_
          refine g_iload C 7 dX12_spelt_99 rfl ?_
          refine g_if_le C (tgt := 120) dX12_spelt_101 (by decide) (fun h_191 => ?_) (fun h_191 => ?_)
          · skip
            have r_192 := le_l (h_191) ra6 rc_0
            refine g_lload C 0 dX12_spelt_120 rfl ?_
            exact g_lret (r := y_190) B K rfl ⟨rfl, rfl, (by simp only [spl, hy_1, hy_2, hy_3, hy_4, hy_5, hy_6, h_7, (nle h_7), hy_115, hy_116, hy_117, hy_118, h_119, (nle h_119), hy_171, hy_172, hy_173, hy_174, h_175, h_177, (nle h_177), hy_187, hy_188, hy_189, hy_190, h_191, if_true, if_false])⟩ dX12_spelt_122
          · skip
            have r_193 := lt_r (lo := 1) (nle h_191) rc_0 ra6 (by decide)
            refine g_ldc2 C kl_128 dX12_spelt_104 ?_
            refine g_lload C 0 dX12_spelt_107 rfl ?_
            refine g_lmulE C dX12_spelt_109 (fun y_194 hy_194 => ?_)
            refine g_iload C 7 dX12_spelt_110 rfl ?_
            obtain ⟨y_195, hy_195⟩ : ∃ z, Int32.toInt64 a6 = z := ⟨_, rfl⟩
            refine g_i2l C (v := y_195) dX12_spelt_112 hy_195 ?_
            refine g_laddE C dX12_spelt_113 (fun y_196 hy_196 => ?_)
            refine g_ldc2 C kl_130 dX12_spelt_114 ?_
            refine g_lsubE C dX12_spelt_117 (fun y_197 hy_197 => ?_)
            refine g_lstore C dX12_spelt_118 (by decide) (lo2 := [(7, .long y_197), (0, .int a0), (1, .int a1), (2, .int a2), (3, .int a3), (4, .int a4), (5, .int a5), (6, .int a6)]) rfl ?_
            refine g_lload C 0 dX12_spelt_120 rfl ?_
            exact g_lret (r := y_197) B K rfl ⟨rfl, rfl, (by simp only [spl, hy_1, hy_2, hy_3, hy_4, hy_5, hy_6, h_7, (nle h_7), hy_115, hy_116, hy_117, hy_118, h_119, (nle h_119), hy_171, hy_172, hy_173, hy_174, h_175, h_177, (nle h_177), hy_187, hy_188, hy_189, hy_190, h_191, (nle h_191), hy_194, hy_195, hy_196, hy_197, if_true, if_false])⟩ dX12_spelt_122
      · skip
        have r_198 := lt_r (lo := 1) (nle h_175) rc_0 ra4 (by decide)
        refine g_ldc2 C kl_128 dX12_spelt_62 ?_
        refine g_lload C 0 dX12_spelt_65 rfl ?_
        refine g_lmulE C dX12_spelt_67 (fun y_199 hy_199 => ?_)
        refine g_iload C 5 dX12_spelt_68 rfl ?_
        obtain ⟨y_200, hy_200⟩ : ∃ z, Int32.toInt64 a4 = z := ⟨_, rfl⟩
        refine g_i2l C (v := y_200) dX12_spelt_70 hy_200 ?_
        refine g_laddE C dX12_spelt_71 (fun y_201 hy_201 => ?_)
        refine g_ldc2 C kl_130 dX12_spelt_72 ?_
        refine g_lsubE C dX12_spelt_75 (fun y_202 hy_202 => ?_)
        refine g_lstore C dX12_spelt_76 (by decide) (lo2 := [(7, .long y_202), (0, .int a0), (1, .int a1), (2, .int a2), (3, .int a3), (4, .int a4), (5, .int a5), (6, .int a6)]) rfl ?_
        refine g_iload C 6 dX12_spelt_78 rfl ?_
        refine g_if_le C (tgt := 99) dX12_spelt_80 (by decide) (fun h_203 => ?_) (fun h_203 => ?_)
        · skip
          have r_204 := le_l (h_203) ra5 rc_0
          refine g_iload C 7 dX12_spelt_99 rfl ?_
          refine g_if_le C (tgt := 120) dX12_spelt_101 (by decide) (fun h_205 => ?_) (fun h_205 => ?_)
          · skip
            have r_206 := le_l (h_205) ra6 rc_0
            refine g_lload C 0 dX12_spelt_120 rfl ?_
            exact g_lret (r := y_202) B K rfl ⟨rfl, rfl, (by simp only [spl, hy_1, hy_2, hy_3, hy_4, hy_5, hy_6, h_7, (nle h_7), hy_115, hy_116, hy_117, hy_118, h_119, (nle h_119), hy_171, hy_172, hy_173, hy_174, h_175, (nle h_175), hy_199, hy_200, hy_201, hy_202, h_203, h_205, if_true, if_false])⟩ dX12_spelt_122
          · skip
            have r_207 := lt_r (lo := 1) (nle h_205) rc_0 ra6 (by decide)
            refine g_ldc2 C kl_128 dX12_spelt_104 ?_
            refine g_lload C 0 dX12_spelt_107 rfl ?_
            refine g_lmulE C dX12_spelt_109 (fun y_208 hy_208 => ?_)
            refine g_iload C 7 dX12_spelt_110 rfl ?_
            obtain ⟨y_209, hy_209⟩ : ∃ z, Int32.toInt64 a6 = z := ⟨_, rfl⟩
            refine g_i2l C (v := y_209) dX12_spelt_112 hy_209 ?_
            refine g_laddE C dX12_spelt_113 (fun y_210 hy_210 => ?_)
            refine g_ldc2 C kl_130 dX12_spelt_114 ?_
            refine g_lsubE C dX12_spelt_117 (fun y_211 hy_211 => ?_)
            refine g_lstore C dX12_spelt_118 (by decide) (lo2 := [(7, .long y_211), (0, .int a0), (1, .int a1), (2, .int a2), (3, .int a3), (4, .int a4), (5, .int a5), (6, .int a6)]) rfl ?_
            refine g_lload C 0 dX12_spelt_120 rfl ?_
            exact g_lret (r := y_211) B K rfl ⟨rfl, rfl, (by simp only [spl, hy_1, hy_2, hy_3, hy_4, hy_5, hy_6, h_7, (nle h_7), hy_115, hy_116, hy_117, hy_118, h_119, (nle h_119), hy_171, hy_172, hy_173, hy_174, h_175, (nle h_175), hy_199, hy_200, hy_201, hy_202, h_203, h_205, (nle h_205), hy_208, hy_209, hy_210, hy_211, if_true, if_false])⟩ dX12_spelt_122
        · skip
          have r_212 := lt_r (lo := 1) (nle h_203) rc_0 ra5 (by decide)
          refine g_ldc2 C kl_128 dX12_spelt_83 ?_
          refine g_lload C 0 dX12_spelt_86 rfl ?_
          refine g_lmulE C dX12_spelt_88 (fun y_213 hy_213 => ?_)
          refine g_iload C 6 dX12_spelt_89 rfl ?_
          obtain ⟨y_214, hy_214⟩ : ∃ z, Int32.toInt64 a5 = z := ⟨_, rfl⟩
          refine g_i2l C (v := y_214) dX12_spelt_91 hy_214 ?_
          refine g_laddE C dX12_spelt_92 (fun y_215 hy_215 => ?_)
          refine g_ldc2 C kl_130 dX12_spelt_93 ?_
          refine g_lsubE C dX12_spelt_96 (fun y_216 hy_216 => ?_)
          refine g_lstore C dX12_spelt_97 (by decide) (lo2 := [(7, .long y_216), (0, .int a0), (1, .int a1), (2, .int a2), (3, .int a3), (4, .int a4), (5, .int a5), (6, .int a6)]) rfl ?_
          refine g_iload C 7 dX12_spelt_99 rfl ?_
          refine g_if_le C (tgt := 120) dX12_spelt_101 (by decide) (fun h_217 => ?_) (fun h_217 => ?_)
          · skip
            have r_218 := le_l (h_217) ra6 rc_0
            refine g_lload C 0 dX12_spelt_120 rfl ?_
            exact g_lret (r := y_216) B K rfl ⟨rfl, rfl, (by simp only [spl, hy_1, hy_2, hy_3, hy_4, hy_5, hy_6, h_7, (nle h_7), hy_115, hy_116, hy_117, hy_118, h_119, (nle h_119), hy_171, hy_172, hy_173, hy_174, h_175, (nle h_175), hy_199, hy_200, hy_201, hy_202, h_203, (nle h_203), hy_213, hy_214, hy_215, hy_216, h_217, if_true, if_false])⟩ dX12_spelt_122
          · skip
            have r_219 := lt_r (lo := 1) (nle h_217) rc_0 ra6 (by decide)
            refine g_ldc2 C kl_128 dX12_spelt_104 ?_
            refine g_lload C 0 dX12_spelt_107 rfl ?_
            refine g_lmulE C dX12_spelt_109 (fun y_220 hy_220 => ?_)
            refine g_iload C 7 dX12_spelt_110 rfl ?_
            obtain ⟨y_221, hy_221⟩ : ∃ z, Int32.toInt64 a6 = z := ⟨_, rfl⟩
            refine g_i2l C (v := y_221) dX12_spelt_112 hy_221 ?_
            refine g_laddE C dX12_spelt_113 (fun y_222 hy_222 => ?_)
            refine g_ldc2 C kl_130 dX12_spelt_114 ?_
            refine g_lsubE C dX12_spelt_117 (fun y_223 hy_223 => ?_)
            refine g_lstore C dX12_spelt_118 (by decide) (lo2 := [(7, .long y_223), (0, .int a0), (1, .int a1), (2, .int a2), (3, .int a3), (4, .int a4), (5, .int a5), (6, .int a6)]) rfl ?_
            refine g_lload C 0 dX12_spelt_120 rfl ?_
            exact g_lret (r := y_223) B K rfl ⟨rfl, rfl, (by simp only [spl, hy_1, hy_2, hy_3, hy_4, hy_5, hy_6, h_7, (nle h_7), hy_115, hy_116, hy_117, hy_118, h_119, (nle h_119), hy_171, hy_172, hy_173, hy_174, h_175, (nle h_175), hy_199, hy_200, hy_201, hy_202, h_203, (nle h_203), hy_213, hy_214, hy_215, hy_216, h_217, (nle h_217), hy_220, hy_221, hy_222, hy_223, if_true, if_false])⟩ dX12_spelt_122
set_option maxRecDepth 100000 in
set_option maxHeartbeats 8000000 in
theorem c_X12_wordOf {l : Launch} {D : va_G} {cy : Nat → ClassId} {L : List Nat} {κ ln : Nat → Nat} {R : Nat → Nat → Option Nat} {I : Nat → Nat → Int32} {J : Nat → Nat → Int64} {ow : Nat → Nat × Nat} (W9 : ∀ a ∈ L, Shp L κ ln R ow a) (a0 : Int32) (ra0 : Rg 0 27 a0) (hU : Iw L κ R ow I) : CtL l yX12_wordOf cX12_wordOf 1 (some .long) { frames := 1, cells := 0, slots := 0, locals := 28 } D cy L κ ln R I J [.int a0] (fun r I2 J2 => I = I2 ∧ J = J2 ∧ (r = wof a0)) := by
  refine CtL.of (by decide +kernel) (Nat.le_of_ble_eq_true rfl) ?_
  intro p e s m below meth c B K
  have C := B.1
  refine g_lo (is := [0]) (lo2 := [(0, .int a0)]) rfl ?_
  refine g_iload_n C 0 dX12_wordOf_0 rfl rfl ?_
  by_cases c_1 : a0.toInt = 0
  · skip
    have r_2 := rg_of (a := 0) (b := 0) 0 c_1 (by decide) (by decide)
    refine g_tableIn C (tgt := 124) dX12_wordOf_1 (by omega) (by omega) (off := 123) (by rw [c_1]; rfl) (by decide) ?_
    refine g_bipush C (v := 112) dX12_wordOf_124 (by decide) ?_
    refine g_bipush C (v := 101) dX12_wordOf_126 (by decide) ?_
    refine g_bipush C (v := 114) dX12_wordOf_128 (by decide) ?_
    refine g_bipush C (v := 115) dX12_wordOf_130 (by decide) ?_
    refine g_bipush C (v := 111) dX12_wordOf_132 (by decide) ?_
    refine g_bipush C (v := 110) dX12_wordOf_134 (by decide) ?_
    refine g_iconst C (v := 0) dX12_wordOf_136 (by decide) ?_
    refine g_callSL C K (c_X12_spelt W9 112 101 114 115 111 110 0 (rg_w rc_112 (by decide) (by decide)) (rg_w rc_101 (by decide) (by decide)) (rg_w rc_114 (by decide) (by decide)) (rg_w rc_115 (by decide) (by decide)) (rg_w rc_111 (by decide) (by decide)) (rg_w rc_110 (by decide) (by decide)) (rg_w rc_0 (by decide) (by decide)) hU) s_12_132 rfl ⟨rfl, rfl⟩ ⟨Nat.le_of_ble_eq_true rfl, Nat.le_of_ble_eq_true rfl⟩ (Nat.le_of_ble_eq_true rfl) ⟨Nat.le_of_ble_eq_true rfl, Nat.le_of_ble_eq_true rfl⟩ dX12_wordOf_137 rfl (st := []) (fun x_3 I_4 J_5 h_6 => ?_)
    obtain ⟨rfl, rfl, fx_3⟩ := h_6
    have c_7 : spl (112) (101) (114) (115) (111) (110) (0) = x_3 := fx_3.symm
    exact g_lret (r := x_3) B K rfl ⟨rfl, rfl, (by simp only [wof, (eq_true c_1), c_7, if_true, if_false])⟩ dX12_wordOf_140
  by_cases c_8 : a0.toInt = 1
  · skip
    have r_9 := rg_of (a := 1) (b := 1) 1 c_8 (by decide) (by decide)
    refine g_tableIn C (tgt := 141) dX12_wordOf_1 (by omega) (by omega) (off := 140) (by rw [c_8]; rfl) (by decide) ?_
    refine g_bipush C (v := 100) dX12_wordOf_141 (by decide) ?_
    refine g_bipush C (v := 105) dX12_wordOf_143 (by decide) ?_
    refine g_bipush C (v := 115) dX12_wordOf_145 (by decide) ?_
    refine g_bipush C (v := 104) dX12_wordOf_147 (by decide) ?_
    refine g_iconst C (v := 0) dX12_wordOf_149 (by decide) ?_
    refine g_iconst C (v := 0) dX12_wordOf_150 (by decide) ?_
    refine g_iconst C (v := 0) dX12_wordOf_151 (by decide) ?_
    refine g_callSL C K (c_X12_spelt W9 100 105 115 104 0 0 0 (rg_w rc_100 (by decide) (by decide)) (rg_w rc_105 (by decide) (by decide)) (rg_w rc_115 (by decide) (by decide)) (rg_w rc_104 (by decide) (by decide)) (rg_w rc_0 (by decide) (by decide)) (rg_w rc_0 (by decide) (by decide)) (rg_w rc_0 (by decide) (by decide)) hU) s_12_132 rfl ⟨rfl, rfl⟩ ⟨Nat.le_of_ble_eq_true rfl, Nat.le_of_ble_eq_true rfl⟩ (Nat.le_of_ble_eq_true rfl) ⟨Nat.le_of_ble_eq_true rfl, Nat.le_of_ble_eq_true rfl⟩ dX12_wordOf_152 rfl (st := []) (fun x_10 I_11 J_12 h_13 => ?_)
    obtain ⟨rfl, rfl, fx_10⟩ := h_13
    have c_14 : spl (100) (105) (115) (104) (0) (0) (0) = x_10 := fx_10.symm
    exact g_lret (r := x_10) B K rfl ⟨rfl, rfl, (by simp only [wof, c_1, (eq_true c_8), c_14, if_true, if_false])⟩ dX12_wordOf_155
  by_cases c_15 : a0.toInt = 2
  · skip
    have r_16 := rg_of (a := 2) (b := 2) 2 c_15 (by decide) (by decide)
    refine g_tableIn C (tgt := 156) dX12_wordOf_1 (by omega) (by omega) (off := 155) (by rw [c_15]; rfl) (by decide) ?_
    refine g_bipush C (v := 115) dX12_wordOf_156 (by decide) ?_
    refine g_bipush C (v := 112) dX12_wordOf_158 (by decide) ?_
    refine g_bipush C (v := 111) dX12_wordOf_160 (by decide) ?_
    refine g_bipush C (v := 105) dX12_wordOf_162 (by decide) ?_
    refine g_bipush C (v := 108) dX12_wordOf_164 (by decide) ?_
    refine g_bipush C (v := 115) dX12_wordOf_166 (by decide) ?_
    refine g_iconst C (v := 0) dX12_wordOf_168 (by decide) ?_
    refine g_callSL C K (c_X12_spelt W9 115 112 111 105 108 115 0 (rg_w rc_115 (by decide) (by decide)) (rg_w rc_112 (by decide) (by decide)) (rg_w rc_111 (by decide) (by decide)) (rg_w rc_105 (by decide) (by decide)) (rg_w rc_108 (by decide) (by decide)) (rg_w rc_115 (by decide) (by decide)) (rg_w rc_0 (by decide) (by decide)) hU) s_12_132 rfl ⟨rfl, rfl⟩ ⟨Nat.le_of_ble_eq_true rfl, Nat.le_of_ble_eq_true rfl⟩ (Nat.le_of_ble_eq_true rfl) ⟨Nat.le_of_ble_eq_true rfl, Nat.le_of_ble_eq_true rfl⟩ dX12_wordOf_169 rfl (st := []) (fun x_17 I_18 J_19 h_20 => ?_)
    obtain ⟨rfl, rfl, fx_17⟩ := h_20
    have c_21 : spl (115) (112) (111) (105) (108) (115) (0) = x_17 := fx_17.symm
    exact g_lret (r := x_17) B K rfl ⟨rfl, rfl, (by simp only [wof, c_1, c_8, (eq_true c_15), c_21, if_true, if_false])⟩ dX12_wordOf_172
  by_cases c_22 : a0.toInt = 3
  · skip
    have r_23 := rg_of (a := 3) (b := 3) 3 c_22 (by decide) (by decide)
    refine g_tableIn C (tgt := 173) dX12_wordOf_1 (by omega) (by omega) (off := 172) (by rw [c_22]; rfl) (by decide) ?_
    refine g_bipush C (v := 112) dX12_wordOf_173 (by decide) ?_
    refine g_bipush C (v := 108) dX12_wordOf_175 (by decide) ?_
    refine g_bipush C (v := 97) dX12_wordOf_177 (by decide) ?_
    refine g_bipush C (v := 116) dX12_wordOf_179 (by decide) ?_
    refine g_bipush C (v := 101) dX12_wordOf_181 (by decide) ?_
    refine g_iconst C (v := 0) dX12_wordOf_183 (by decide) ?_
    refine g_iconst C (v := 0) dX12_wordOf_184 (by decide) ?_
    refine g_callSL C K (c_X12_spelt W9 112 108 97 116 101 0 0 (rg_w rc_112 (by decide) (by decide)) (rg_w rc_108 (by decide) (by decide)) (rg_w rc_97 (by decide) (by decide)) (rg_w rc_116 (by decide) (by decide)) (rg_w rc_101 (by decide) (by decide)) (rg_w rc_0 (by decide) (by decide)) (rg_w rc_0 (by decide) (by decide)) hU) s_12_132 rfl ⟨rfl, rfl⟩ ⟨Nat.le_of_ble_eq_true rfl, Nat.le_of_ble_eq_true rfl⟩ (Nat.le_of_ble_eq_true rfl) ⟨Nat.le_of_ble_eq_true rfl, Nat.le_of_ble_eq_true rfl⟩ dX12_wordOf_185 rfl (st := []) (fun x_24 I_25 J_26 h_27 => ?_)
    obtain ⟨rfl, rfl, fx_24⟩ := h_27
    have c_28 : spl (112) (108) (97) (116) (101) (0) (0) = x_24 := fx_24.symm
    exact g_lret (r := x_24) B K rfl ⟨rfl, rfl, (by simp only [wof, c_1, c_8, c_15, (eq_true c_22), c_28, if_true, if_false])⟩ dX12_wordOf_188
  by_cases c_29 : a0.toInt = 4
  · skip
    have r_30 := rg_of (a := 4) (b := 4) 4 c_29 (by decide) (by decide)
    refine g_tableIn C (tgt := 189) dX12_wordOf_1 (by omega) (by omega) (off := 188) (by rw [c_29]; rfl) (by decide) ?_
    refine g_bipush C (v := 108) dX12_wordOf_189 (by decide) ?_
    refine g_bipush C (v := 97) dX12_wordOf_191 (by decide) ?_
    refine g_bipush C (v := 119) dX12_wordOf_193 (by decide) ?_
    refine g_iconst C (v := 0) dX12_wordOf_195 (by decide) ?_
    refine g_iconst C (v := 0) dX12_wordOf_196 (by decide) ?_
    refine g_iconst C (v := 0) dX12_wordOf_197 (by decide) ?_
    refine g_iconst C (v := 0) dX12_wordOf_198 (by decide) ?_
    refine g_callSL C K (c_X12_spelt W9 108 97 119 0 0 0 0 (rg_w rc_108 (by decide) (by decide)) (rg_w rc_97 (by decide) (by decide)) (rg_w rc_119 (by decide) (by decide)) (rg_w rc_0 (by decide) (by decide)) (rg_w rc_0 (by decide) (by decide)) (rg_w rc_0 (by decide) (by decide)) (rg_w rc_0 (by decide) (by decide)) hU) s_12_132 rfl ⟨rfl, rfl⟩ ⟨Nat.le_of_ble_eq_true rfl, Nat.le_of_ble_eq_true rfl⟩ (Nat.le_of_ble_eq_true rfl) ⟨Nat.le_of_ble_eq_true rfl, Nat.le_of_ble_eq_true rfl⟩ dX12_wordOf_199 rfl (st := []) (fun x_31 I_32 J_33 h_34 => ?_)
    obtain ⟨rfl, rfl, fx_31⟩ := h_34
    have c_35 : spl (108) (97) (119) (0) (0) (0) (0) = x_31 := fx_31.symm
    exact g_lret (r := x_31) B K rfl ⟨rfl, rfl, (by simp only [wof, c_1, c_8, c_15, c_22, (eq_true c_29), c_35, if_true, if_false])⟩ dX12_wordOf_202
  by_cases c_36 : a0.toInt = 5
  · skip
    have r_37 := rg_of (a := 5) (b := 5) 5 c_36 (by decide) (by decide)
    refine g_tableIn C (tgt := 203) dX12_wordOf_1 (by omega) (by omega) (off := 202) (by rw [c_36]; rfl) (by decide) ?_
    refine g_bipush C (v := 110) dX12_wordOf_203 (by decide) ?_
    refine g_bipush C (v := 101) dX12_wordOf_205 (by decide) ?_
    refine g_bipush C (v := 120) dX12_wordOf_207 (by decide) ?_
    refine g_bipush C (v := 116) dX12_wordOf_209 (by decide) ?_
    refine g_iconst C (v := 0) dX12_wordOf_211 (by decide) ?_
    refine g_iconst C (v := 0) dX12_wordOf_212 (by decide) ?_
    refine g_iconst C (v := 0) dX12_wordOf_213 (by decide) ?_
    refine g_callSL C K (c_X12_spelt W9 110 101 120 116 0 0 0 (rg_w rc_110 (by decide) (by decide)) (rg_w rc_101 (by decide) (by decide)) (rg_w rc_120 (by decide) (by decide)) (rg_w rc_116 (by decide) (by decide)) (rg_w rc_0 (by decide) (by decide)) (rg_w rc_0 (by decide) (by decide)) (rg_w rc_0 (by decide) (by decide)) hU) s_12_132 rfl ⟨rfl, rfl⟩ ⟨Nat.le_of_ble_eq_true rfl, Nat.le_of_ble_eq_true rfl⟩ (Nat.le_of_ble_eq_true rfl) ⟨Nat.le_of_ble_eq_true rfl, Nat.le_of_ble_eq_true rfl⟩ dX12_wordOf_214 rfl (st := []) (fun x_38 I_39 J_40 h_41 => ?_)
    obtain ⟨rfl, rfl, fx_38⟩ := h_41
    have c_42 : spl (110) (101) (120) (116) (0) (0) (0) = x_38 := fx_38.symm
    exact g_lret (r := x_38) B K rfl ⟨rfl, rfl, (by simp only [wof, c_1, c_8, c_15, c_22, c_29, (eq_true c_36), c_42, if_true, if_false])⟩ dX12_wordOf_217
  by_cases c_43 : a0.toInt = 6
  · skip
    have r_44 := rg_of (a := 6) (b := 6) 6 c_43 (by decide) (by decide)
    refine g_tableIn C (tgt := 218) dX12_wordOf_1 (by omega) (by omega) (off := 217) (by rw [c_43]; rfl) (by decide) ?_
    refine g_bipush C (v := 99) dX12_wordOf_218 (by decide) ?_
    refine g_bipush C (v := 104) dX12_wordOf_220 (by decide) ?_
    refine g_bipush C (v := 105) dX12_wordOf_222 (by decide) ?_
    refine g_bipush C (v := 108) dX12_wordOf_224 (by decide) ?_
    refine g_bipush C (v := 100) dX12_wordOf_226 (by decide) ?_
    refine g_iconst C (v := 0) dX12_wordOf_228 (by decide) ?_
    refine g_iconst C (v := 0) dX12_wordOf_229 (by decide) ?_
    refine g_callSL C K (c_X12_spelt W9 99 104 105 108 100 0 0 (rg_w rc_99 (by decide) (by decide)) (rg_w rc_104 (by decide) (by decide)) (rg_w rc_105 (by decide) (by decide)) (rg_w rc_108 (by decide) (by decide)) (rg_w rc_100 (by decide) (by decide)) (rg_w rc_0 (by decide) (by decide)) (rg_w rc_0 (by decide) (by decide)) hU) s_12_132 rfl ⟨rfl, rfl⟩ ⟨Nat.le_of_ble_eq_true rfl, Nat.le_of_ble_eq_true rfl⟩ (Nat.le_of_ble_eq_true rfl) ⟨Nat.le_of_ble_eq_true rfl, Nat.le_of_ble_eq_true rfl⟩ dX12_wordOf_230 rfl (st := []) (fun x_45 I_46 J_47 h_48 => ?_)
    obtain ⟨rfl, rfl, fx_45⟩ := h_48
    have c_49 : spl (99) (104) (105) (108) (100) (0) (0) = x_45 := fx_45.symm
    exact g_lret (r := x_45) B K rfl ⟨rfl, rfl, (by simp only [wof, c_1, c_8, c_15, c_22, c_29, c_36, (eq_true c_43), c_49, if_true, if_false])⟩ dX12_wordOf_233
  by_cases c_50 : a0.toInt = 7
  · skip
    have r_51 := rg_of (a := 7) (b := 7) 7 c_50 (by decide) (by decide)
    refine g_tableIn C (tgt := 234) dX12_wordOf_1 (by omega) (by omega) (off := 233) (by rw [c_50]; rfl) (by decide) ?_
    refine g_bipush C (v := 108) dX12_wordOf_234 (by decide) ?_
    refine g_bipush C (v := 101) dX12_wordOf_236 (by decide) ?_
    refine g_bipush C (v := 97) dX12_wordOf_238 (by decide) ?_
    refine g_bipush C (v := 115) dX12_wordOf_240 (by decide) ?_
    refine g_bipush C (v := 116) dX12_wordOf_242 (by decide) ?_
    refine g_iconst C (v := 0) dX12_wordOf_244 (by decide) ?_
    refine g_iconst C (v := 0) dX12_wordOf_245 (by decide) ?_
    refine g_callSL C K (c_X12_spelt W9 108 101 97 115 116 0 0 (rg_w rc_108 (by decide) (by decide)) (rg_w rc_101 (by decide) (by decide)) (rg_w rc_97 (by decide) (by decide)) (rg_w rc_115 (by decide) (by decide)) (rg_w rc_116 (by decide) (by decide)) (rg_w rc_0 (by decide) (by decide)) (rg_w rc_0 (by decide) (by decide)) hU) s_12_132 rfl ⟨rfl, rfl⟩ ⟨Nat.le_of_ble_eq_true rfl, Nat.le_of_ble_eq_true rfl⟩ (Nat.le_of_ble_eq_true rfl) ⟨Nat.le_of_ble_eq_true rfl, Nat.le_of_ble_eq_true rfl⟩ dX12_wordOf_246 rfl (st := []) (fun x_52 I_53 J_54 h_55 => ?_)
    obtain ⟨rfl, rfl, fx_52⟩ := h_55
    have c_56 : spl (108) (101) (97) (115) (116) (0) (0) = x_52 := fx_52.symm
    exact g_lret (r := x_52) B K rfl ⟨rfl, rfl, (by simp only [wof, c_1, c_8, c_15, c_22, c_29, c_36, c_43, (eq_true c_50), c_56, if_true, if_false])⟩ dX12_wordOf_249
  by_cases c_57 : a0.toInt = 8
  · skip
    have r_58 := rg_of (a := 8) (b := 8) 8 c_57 (by decide) (by decide)
    refine g_tableIn C (tgt := 250) dX12_wordOf_1 (by omega) (by omega) (off := 249) (by rw [c_57]; rfl) (by decide) ?_
    refine g_bipush C (v := 100) dX12_wordOf_250 (by decide) ?_
    refine g_bipush C (v := 111) dX12_wordOf_252 (by decide) ?_
    refine g_bipush C (v := 103) dX12_wordOf_254 (by decide) ?_
    refine g_bipush C (v := 115) dX12_wordOf_256 (by decide) ?_
    refine g_iconst C (v := 0) dX12_wordOf_258 (by decide) ?_
    refine g_iconst C (v := 0) dX12_wordOf_259 (by decide) ?_
    refine g_iconst C (v := 0) dX12_wordOf_260 (by decide) ?_
    refine g_callSL C K (c_X12_spelt W9 100 111 103 115 0 0 0 (rg_w rc_100 (by decide) (by decide)) (rg_w rc_111 (by decide) (by decide)) (rg_w rc_103 (by decide) (by decide)) (rg_w rc_115 (by decide) (by decide)) (rg_w rc_0 (by decide) (by decide)) (rg_w rc_0 (by decide) (by decide)) (rg_w rc_0 (by decide) (by decide)) hU) s_12_132 rfl ⟨rfl, rfl⟩ ⟨Nat.le_of_ble_eq_true rfl, Nat.le_of_ble_eq_true rfl⟩ (Nat.le_of_ble_eq_true rfl) ⟨Nat.le_of_ble_eq_true rfl, Nat.le_of_ble_eq_true rfl⟩ dX12_wordOf_261 rfl (st := []) (fun x_59 I_60 J_61 h_62 => ?_)
    obtain ⟨rfl, rfl, fx_59⟩ := h_62
    have c_63 : spl (100) (111) (103) (115) (0) (0) (0) = x_59 := fx_59.symm
    exact g_lret (r := x_59) B K rfl ⟨rfl, rfl, (by simp only [wof, c_1, c_8, c_15, c_22, c_29, c_36, c_43, c_50, (eq_true c_57), c_63, if_true, if_false])⟩ dX12_wordOf_264
  by_cases c_64 : a0.toInt = 9
  · skip
    have r_65 := rg_of (a := 9) (b := 9) 9 c_64 (by decide) (by decide)
    refine g_tableIn C (tgt := 265) dX12_wordOf_1 (by omega) (by omega) (off := 264) (by rw [c_64]; rfl) (by decide) ?_
    refine g_bipush C (v := 101) dX12_wordOf_265 (by decide) ?_
    refine g_bipush C (v := 97) dX12_wordOf_267 (by decide) ?_
    refine g_bipush C (v := 116) dX12_wordOf_269 (by decide) ?_
    refine g_bipush C (v := 115) dX12_wordOf_271 (by decide) ?_
    refine g_iconst C (v := 0) dX12_wordOf_273 (by decide) ?_
    refine g_iconst C (v := 0) dX12_wordOf_274 (by decide) ?_
    refine g_iconst C (v := 0) dX12_wordOf_275 (by decide) ?_
    refine g_callSL C K (c_X12_spelt W9 101 97 116 115 0 0 0 (rg_w rc_101 (by decide) (by decide)) (rg_w rc_97 (by decide) (by decide)) (rg_w rc_116 (by decide) (by decide)) (rg_w rc_115 (by decide) (by decide)) (rg_w rc_0 (by decide) (by decide)) (rg_w rc_0 (by decide) (by decide)) (rg_w rc_0 (by decide) (by decide)) hU) s_12_132 rfl ⟨rfl, rfl⟩ ⟨Nat.le_of_ble_eq_true rfl, Nat.le_of_ble_eq_true rfl⟩ (Nat.le_of_ble_eq_true rfl) ⟨Nat.le_of_ble_eq_true rfl, Nat.le_of_ble_eq_true rfl⟩ dX12_wordOf_276 rfl (st := []) (fun x_66 I_67 J_68 h_69 => ?_)
    obtain ⟨rfl, rfl, fx_66⟩ := h_69
    have c_70 : spl (101) (97) (116) (115) (0) (0) (0) = x_66 := fx_66.symm
    exact g_lret (r := x_66) B K rfl ⟨rfl, rfl, (by simp only [wof, c_1, c_8, c_15, c_22, c_29, c_36, c_43, c_50, c_57, (eq_true c_64), c_70, if_true, if_false])⟩ dX12_wordOf_279
  by_cases c_71 : a0.toInt = 10
  · skip
    have r_72 := rg_of (a := 10) (b := 10) 10 c_71 (by decide) (by decide)
    refine g_tableIn C (tgt := 280) dX12_wordOf_1 (by omega) (by omega) (off := 279) (by rw [c_71]; rfl) (by decide) ?_
    refine g_bipush C (v := 115) dX12_wordOf_280 (by decide) ?_
    refine g_bipush C (v := 101) dX12_wordOf_282 (by decide) ?_
    refine g_bipush C (v := 114) dX12_wordOf_284 (by decide) ?_
    refine g_bipush C (v := 118) dX12_wordOf_286 (by decide) ?_
    refine g_bipush C (v := 101) dX12_wordOf_288 (by decide) ?_
    refine g_bipush C (v := 100) dX12_wordOf_290 (by decide) ?_
    refine g_iconst C (v := 0) dX12_wordOf_292 (by decide) ?_
    refine g_callSL C K (c_X12_spelt W9 115 101 114 118 101 100 0 (rg_w rc_115 (by decide) (by decide)) (rg_w rc_101 (by decide) (by decide)) (rg_w rc_114 (by decide) (by decide)) (rg_w rc_118 (by decide) (by decide)) (rg_w rc_101 (by decide) (by decide)) (rg_w rc_100 (by decide) (by decide)) (rg_w rc_0 (by decide) (by decide)) hU) s_12_132 rfl ⟨rfl, rfl⟩ ⟨Nat.le_of_ble_eq_true rfl, Nat.le_of_ble_eq_true rfl⟩ (Nat.le_of_ble_eq_true rfl) ⟨Nat.le_of_ble_eq_true rfl, Nat.le_of_ble_eq_true rfl⟩ dX12_wordOf_293 rfl (st := []) (fun x_73 I_74 J_75 h_76 => ?_)
    obtain ⟨rfl, rfl, fx_73⟩ := h_76
    have c_77 : spl (115) (101) (114) (118) (101) (100) (0) = x_73 := fx_73.symm
    exact g_lret (r := x_73) B K rfl ⟨rfl, rfl, (by simp only [wof, c_1, c_8, c_15, c_22, c_29, c_36, c_43, c_50, c_57, c_64, (eq_true c_71), c_77, if_true, if_false])⟩ dX12_wordOf_296
  by_cases c_78 : a0.toInt = 11
  · skip
    have r_79 := rg_of (a := 11) (b := 11) 11 c_78 (by decide) (by decide)
    refine g_tableIn C (tgt := 297) dX12_wordOf_1 (by omega) (by omega) (off := 296) (by rw [c_78]; rfl) (by decide) ?_
    refine g_bipush C (v := 114) dX12_wordOf_297 (by decide) ?_
    refine g_bipush C (v := 105) dX12_wordOf_299 (by decide) ?_
    refine g_bipush C (v := 115) dX12_wordOf_301 (by decide) ?_
    refine g_bipush C (v := 101) dX12_wordOf_303 (by decide) ?_
    refine g_bipush C (v := 115) dX12_wordOf_305 (by decide) ?_
    refine g_iconst C (v := 0) dX12_wordOf_307 (by decide) ?_
    refine g_iconst C (v := 0) dX12_wordOf_308 (by decide) ?_
    refine g_callSL C K (c_X12_spelt W9 114 105 115 101 115 0 0 (rg_w rc_114 (by decide) (by decide)) (rg_w rc_105 (by decide) (by decide)) (rg_w rc_115 (by decide) (by decide)) (rg_w rc_101 (by decide) (by decide)) (rg_w rc_115 (by decide) (by decide)) (rg_w rc_0 (by decide) (by decide)) (rg_w rc_0 (by decide) (by decide)) hU) s_12_132 rfl ⟨rfl, rfl⟩ ⟨Nat.le_of_ble_eq_true rfl, Nat.le_of_ble_eq_true rfl⟩ (Nat.le_of_ble_eq_true rfl) ⟨Nat.le_of_ble_eq_true rfl, Nat.le_of_ble_eq_true rfl⟩ dX12_wordOf_309 rfl (st := []) (fun x_80 I_81 J_82 h_83 => ?_)
    obtain ⟨rfl, rfl, fx_80⟩ := h_83
    have c_84 : spl (114) (105) (115) (101) (115) (0) (0) = x_80 := fx_80.symm
    exact g_lret (r := x_80) B K rfl ⟨rfl, rfl, (by simp only [wof, c_1, c_8, c_15, c_22, c_29, c_36, c_43, c_50, c_57, c_64, c_71, (eq_true c_78), c_84, if_true, if_false])⟩ dX12_wordOf_312
  by_cases c_85 : a0.toInt = 12
  · skip
    have r_86 := rg_of (a := 12) (b := 12) 12 c_85 (by decide) (by decide)
    refine g_tableIn C (tgt := 313) dX12_wordOf_1 (by omega) (by omega) (off := 312) (by rw [c_85]; rfl) (by decide) ?_
    refine g_bipush C (v := 114) dX12_wordOf_313 (by decide) ?_
    refine g_bipush C (v := 101) dX12_wordOf_315 (by decide) ?_
    refine g_bipush C (v := 102) dX12_wordOf_317 (by decide) ?_
    refine g_bipush C (v := 117) dX12_wordOf_319 (by decide) ?_
    refine g_bipush C (v := 115) dX12_wordOf_321 (by decide) ?_
    refine g_bipush C (v := 101) dX12_wordOf_323 (by decide) ?_
    refine g_bipush C (v := 115) dX12_wordOf_325 (by decide) ?_
    refine g_callSL C K (c_X12_spelt W9 114 101 102 117 115 101 115 (rg_w rc_114 (by decide) (by decide)) (rg_w rc_101 (by decide) (by decide)) (rg_w rc_102 (by decide) (by decide)) (rg_w rc_117 (by decide) (by decide)) (rg_w rc_115 (by decide) (by decide)) (rg_w rc_101 (by decide) (by decide)) (rg_w rc_115 (by decide) (by decide)) hU) s_12_132 rfl ⟨rfl, rfl⟩ ⟨Nat.le_of_ble_eq_true rfl, Nat.le_of_ble_eq_true rfl⟩ (Nat.le_of_ble_eq_true rfl) ⟨Nat.le_of_ble_eq_true rfl, Nat.le_of_ble_eq_true rfl⟩ dX12_wordOf_327 rfl (st := []) (fun x_87 I_88 J_89 h_90 => ?_)
    obtain ⟨rfl, rfl, fx_87⟩ := h_90
    have c_91 : spl (114) (101) (102) (117) (115) (101) (115) = x_87 := fx_87.symm
    exact g_lret (r := x_87) B K rfl ⟨rfl, rfl, (by simp only [wof, c_1, c_8, c_15, c_22, c_29, c_36, c_43, c_50, c_57, c_64, c_71, c_78, (eq_true c_85), c_91, if_true, if_false])⟩ dX12_wordOf_330
  by_cases c_92 : a0.toInt = 13
  · skip
    have r_93 := rg_of (a := 13) (b := 13) 13 c_92 (by decide) (by decide)
    refine g_tableIn C (tgt := 331) dX12_wordOf_1 (by omega) (by omega) (off := 330) (by rw [c_92]; rfl) (by decide) ?_
    refine g_bipush C (v := 97) dX12_wordOf_331 (by decide) ?_
    refine g_bipush C (v := 99) dX12_wordOf_333 (by decide) ?_
    refine g_bipush C (v := 99) dX12_wordOf_335 (by decide) ?_
    refine g_bipush C (v := 101) dX12_wordOf_337 (by decide) ?_
    refine g_bipush C (v := 112) dX12_wordOf_339 (by decide) ?_
    refine g_bipush C (v := 116) dX12_wordOf_341 (by decide) ?_
    refine g_bipush C (v := 115) dX12_wordOf_343 (by decide) ?_
    refine g_callSL C K (c_X12_spelt W9 97 99 99 101 112 116 115 (rg_w rc_97 (by decide) (by decide)) (rg_w rc_99 (by decide) (by decide)) (rg_w rc_99 (by decide) (by decide)) (rg_w rc_101 (by decide) (by decide)) (rg_w rc_112 (by decide) (by decide)) (rg_w rc_116 (by decide) (by decide)) (rg_w rc_115 (by decide) (by decide)) hU) s_12_132 rfl ⟨rfl, rfl⟩ ⟨Nat.le_of_ble_eq_true rfl, Nat.le_of_ble_eq_true rfl⟩ (Nat.le_of_ble_eq_true rfl) ⟨Nat.le_of_ble_eq_true rfl, Nat.le_of_ble_eq_true rfl⟩ dX12_wordOf_345 rfl (st := []) (fun x_94 I_95 J_96 h_97 => ?_)
    obtain ⟨rfl, rfl, fx_94⟩ := h_97
    have c_98 : spl (97) (99) (99) (101) (112) (116) (115) = x_94 := fx_94.symm
    exact g_lret (r := x_94) B K rfl ⟨rfl, rfl, (by simp only [wof, c_1, c_8, c_15, c_22, c_29, c_36, c_43, c_50, c_57, c_64, c_71, c_78, c_85, (eq_true c_92), c_98, if_true, if_false])⟩ dX12_wordOf_348
  by_cases c_99 : a0.toInt = 14
  · skip
    have r_100 := rg_of (a := 14) (b := 14) 14 c_99 (by decide) (by decide)
    refine g_tableIn C (tgt := 349) dX12_wordOf_1 (by omega) (by omega) (off := 348) (by rw [c_99]; rfl) (by decide) ?_
    refine g_bipush C (v := 100) dX12_wordOf_349 (by decide) ?_
    refine g_bipush C (v := 105) dX12_wordOf_351 (by decide) ?_
    refine g_bipush C (v := 101) dX12_wordOf_353 (by decide) ?_
    refine g_bipush C (v := 115) dX12_wordOf_355 (by decide) ?_
    refine g_iconst C (v := 0) dX12_wordOf_357 (by decide) ?_
    refine g_iconst C (v := 0) dX12_wordOf_358 (by decide) ?_
    refine g_iconst C (v := 0) dX12_wordOf_359 (by decide) ?_
    refine g_callSL C K (c_X12_spelt W9 100 105 101 115 0 0 0 (rg_w rc_100 (by decide) (by decide)) (rg_w rc_105 (by decide) (by decide)) (rg_w rc_101 (by decide) (by decide)) (rg_w rc_115 (by decide) (by decide)) (rg_w rc_0 (by decide) (by decide)) (rg_w rc_0 (by decide) (by decide)) (rg_w rc_0 (by decide) (by decide)) hU) s_12_132 rfl ⟨rfl, rfl⟩ ⟨Nat.le_of_ble_eq_true rfl, Nat.le_of_ble_eq_true rfl⟩ (Nat.le_of_ble_eq_true rfl) ⟨Nat.le_of_ble_eq_true rfl, Nat.le_of_ble_eq_true rfl⟩ dX12_wordOf_360 rfl (st := []) (fun x_101 I_102 J_103 h_104 => ?_)
    obtain ⟨rfl, rfl, fx_101⟩ := h_104
    have c_105 : spl (100) (105) (101) (115) (0) (0) (0) = x_101 := fx_101.symm
    exact g_lret (r := x_101) B K rfl ⟨rfl, rfl, (by simp only [wof, c_1, c_8, c_15, c_22, c_29, c_36, c_43, c_50, c_57, c_64, c_71, c_78, c_85, c_92, (eq_true c_99), c_105, if_true, if_false])⟩ dX12_wordOf_363
  by_cases c_106 : a0.toInt = 15
  · skip
    have r_107 := rg_of (a := 15) (b := 15) 15 c_106 (by decide) (by decide)
    refine g_tableIn C (tgt := 364) dX12_wordOf_1 (by omega) (by omega) (off := 363) (by rw [c_106]; rfl) (by decide) ?_
    refine g_bipush C (v := 109) dX12_wordOf_364 (by decide) ?_
    refine g_bipush C (v := 101) dX12_wordOf_366 (by decide) ?_
    refine g_bipush C (v := 97) dX12_wordOf_368 (by decide) ?_
    refine g_bipush C (v := 108) dX12_wordOf_370 (by decide) ?_
    refine g_iconst C (v := 0) dX12_wordOf_372 (by decide) ?_
    refine g_iconst C (v := 0) dX12_wordOf_373 (by decide) ?_
    refine g_iconst C (v := 0) dX12_wordOf_374 (by decide) ?_
    refine g_callSL C K (c_X12_spelt W9 109 101 97 108 0 0 0 (rg_w rc_109 (by decide) (by decide)) (rg_w rc_101 (by decide) (by decide)) (rg_w rc_97 (by decide) (by decide)) (rg_w rc_108 (by decide) (by decide)) (rg_w rc_0 (by decide) (by decide)) (rg_w rc_0 (by decide) (by decide)) (rg_w rc_0 (by decide) (by decide)) hU) s_12_132 rfl ⟨rfl, rfl⟩ ⟨Nat.le_of_ble_eq_true rfl, Nat.le_of_ble_eq_true rfl⟩ (Nat.le_of_ble_eq_true rfl) ⟨Nat.le_of_ble_eq_true rfl, Nat.le_of_ble_eq_true rfl⟩ dX12_wordOf_375 rfl (st := []) (fun x_108 I_109 J_110 h_111 => ?_)
    obtain ⟨rfl, rfl, fx_108⟩ := h_111
    have c_112 : spl (109) (101) (97) (108) (0) (0) (0) = x_108 := fx_108.symm
    exact g_lret (r := x_108) B K rfl ⟨rfl, rfl, (by simp only [wof, c_1, c_8, c_15, c_22, c_29, c_36, c_43, c_50, c_57, c_64, c_71, c_78, c_85, c_92, c_99, (eq_true c_106), c_112, if_true, if_false])⟩ dX12_wordOf_378
  by_cases c_113 : a0.toInt = 16
  · skip
    have r_114 := rg_of (a := 16) (b := 16) 16 c_113 (by decide) (by decide)
    refine g_tableIn C (tgt := 379) dX12_wordOf_1 (by omega) (by omega) (off := 378) (by rw [c_113]; rfl) (by decide) ?_
    refine g_bipush C (v := 111) dX12_wordOf_379 (by decide) ?_
    refine g_bipush C (v := 114) dX12_wordOf_381 (by decide) ?_
    refine g_iconst C (v := 0) dX12_wordOf_383 (by decide) ?_
    refine g_iconst C (v := 0) dX12_wordOf_384 (by decide) ?_
    refine g_iconst C (v := 0) dX12_wordOf_385 (by decide) ?_
    refine g_iconst C (v := 0) dX12_wordOf_386 (by decide) ?_
    refine g_iconst C (v := 0) dX12_wordOf_387 (by decide) ?_
    refine g_callSL C K (c_X12_spelt W9 111 114 0 0 0 0 0 (rg_w rc_111 (by decide) (by decide)) (rg_w rc_114 (by decide) (by decide)) (rg_w rc_0 (by decide) (by decide)) (rg_w rc_0 (by decide) (by decide)) (rg_w rc_0 (by decide) (by decide)) (rg_w rc_0 (by decide) (by decide)) (rg_w rc_0 (by decide) (by decide)) hU) s_12_132 rfl ⟨rfl, rfl⟩ ⟨Nat.le_of_ble_eq_true rfl, Nat.le_of_ble_eq_true rfl⟩ (Nat.le_of_ble_eq_true rfl) ⟨Nat.le_of_ble_eq_true rfl, Nat.le_of_ble_eq_true rfl⟩ dX12_wordOf_388 rfl (st := []) (fun x_115 I_116 J_117 h_118 => ?_)
    obtain ⟨rfl, rfl, fx_115⟩ := h_118
    have c_119 : spl (111) (114) (0) (0) (0) (0) (0) = x_115 := fx_115.symm
    exact g_lret (r := x_115) B K rfl ⟨rfl, rfl, (by simp only [wof, c_1, c_8, c_15, c_22, c_29, c_36, c_43, c_50, c_57, c_64, c_71, c_78, c_85, c_92, c_99, c_106, (eq_true c_113), c_119, if_true, if_false])⟩ dX12_wordOf_391
  by_cases c_120 : a0.toInt = 17
  · skip
    have r_121 := rg_of (a := 17) (b := 17) 17 c_120 (by decide) (by decide)
    refine g_tableIn C (tgt := 392) dX12_wordOf_1 (by omega) (by omega) (off := 391) (by rw [c_120]; rfl) (by decide) ?_
    refine g_bipush C (v := 97) dX12_wordOf_392 (by decide) ?_
    refine g_bipush C (v := 110) dX12_wordOf_394 (by decide) ?_
    refine g_bipush C (v := 100) dX12_wordOf_396 (by decide) ?_
    refine g_iconst C (v := 0) dX12_wordOf_398 (by decide) ?_
    refine g_iconst C (v := 0) dX12_wordOf_399 (by decide) ?_
    refine g_iconst C (v := 0) dX12_wordOf_400 (by decide) ?_
    refine g_iconst C (v := 0) dX12_wordOf_401 (by decide) ?_
    refine g_callSL C K (c_X12_spelt W9 97 110 100 0 0 0 0 (rg_w rc_97 (by decide) (by decide)) (rg_w rc_110 (by decide) (by decide)) (rg_w rc_100 (by decide) (by decide)) (rg_w rc_0 (by decide) (by decide)) (rg_w rc_0 (by decide) (by decide)) (rg_w rc_0 (by decide) (by decide)) (rg_w rc_0 (by decide) (by decide)) hU) s_12_132 rfl ⟨rfl, rfl⟩ ⟨Nat.le_of_ble_eq_true rfl, Nat.le_of_ble_eq_true rfl⟩ (Nat.le_of_ble_eq_true rfl) ⟨Nat.le_of_ble_eq_true rfl, Nat.le_of_ble_eq_true rfl⟩ dX12_wordOf_402 rfl (st := []) (fun x_122 I_123 J_124 h_125 => ?_)
    obtain ⟨rfl, rfl, fx_122⟩ := h_125
    have c_126 : spl (97) (110) (100) (0) (0) (0) (0) = x_122 := fx_122.symm
    exact g_lret (r := x_122) B K rfl ⟨rfl, rfl, (by simp only [wof, c_1, c_8, c_15, c_22, c_29, c_36, c_43, c_50, c_57, c_64, c_71, c_78, c_85, c_92, c_99, c_106, c_113, (eq_true c_120), c_126, if_true, if_false])⟩ dX12_wordOf_405
  by_cases c_127 : a0.toInt = 18
  · skip
    have r_128 := rg_of (a := 18) (b := 18) 18 c_127 (by decide) (by decide)
    refine g_tableIn C (tgt := 406) dX12_wordOf_1 (by omega) (by omega) (off := 405) (by rw [c_127]; rfl) (by decide) ?_
    refine g_bipush C (v := 110) dX12_wordOf_406 (by decide) ?_
    refine g_bipush C (v := 111) dX12_wordOf_408 (by decide) ?_
    refine g_bipush C (v := 116) dX12_wordOf_410 (by decide) ?_
    refine g_iconst C (v := 0) dX12_wordOf_412 (by decide) ?_
    refine g_iconst C (v := 0) dX12_wordOf_413 (by decide) ?_
    refine g_iconst C (v := 0) dX12_wordOf_414 (by decide) ?_
    refine g_iconst C (v := 0) dX12_wordOf_415 (by decide) ?_
    refine g_callSL C K (c_X12_spelt W9 110 111 116 0 0 0 0 (rg_w rc_110 (by decide) (by decide)) (rg_w rc_111 (by decide) (by decide)) (rg_w rc_116 (by decide) (by decide)) (rg_w rc_0 (by decide) (by decide)) (rg_w rc_0 (by decide) (by decide)) (rg_w rc_0 (by decide) (by decide)) (rg_w rc_0 (by decide) (by decide)) hU) s_12_132 rfl ⟨rfl, rfl⟩ ⟨Nat.le_of_ble_eq_true rfl, Nat.le_of_ble_eq_true rfl⟩ (Nat.le_of_ble_eq_true rfl) ⟨Nat.le_of_ble_eq_true rfl, Nat.le_of_ble_eq_true rfl⟩ dX12_wordOf_416 rfl (st := []) (fun x_129 I_130 J_131 h_132 => ?_)
    obtain ⟨rfl, rfl, fx_129⟩ := h_132
    have c_133 : spl (110) (111) (116) (0) (0) (0) (0) = x_129 := fx_129.symm
    exact g_lret (r := x_129) B K rfl ⟨rfl, rfl, (by simp only [wof, c_1, c_8, c_15, c_22, c_29, c_36, c_43, c_50, c_57, c_64, c_71, c_78, c_85, c_92, c_99, c_106, c_113, c_120, (eq_true c_127), c_133, if_true, if_false])⟩ dX12_wordOf_419
  by_cases c_134 : a0.toInt = 19
  · skip
    have r_135 := rg_of (a := 19) (b := 19) 19 c_134 (by decide) (by decide)
    refine g_tableIn C (tgt := 420) dX12_wordOf_1 (by omega) (by omega) (off := 419) (by rw [c_134]; rfl) (by decide) ?_
    refine g_bipush C (v := 100) dX12_wordOf_420 (by decide) ?_
    refine g_bipush C (v := 101) dX12_wordOf_422 (by decide) ?_
    refine g_bipush C (v := 97) dX12_wordOf_424 (by decide) ?_
    refine g_bipush C (v := 100) dX12_wordOf_426 (by decide) ?_
    refine g_iconst C (v := 0) dX12_wordOf_428 (by decide) ?_
    refine g_iconst C (v := 0) dX12_wordOf_429 (by decide) ?_
    refine g_iconst C (v := 0) dX12_wordOf_430 (by decide) ?_
    refine g_callSL C K (c_X12_spelt W9 100 101 97 100 0 0 0 (rg_w rc_100 (by decide) (by decide)) (rg_w rc_101 (by decide) (by decide)) (rg_w rc_97 (by decide) (by decide)) (rg_w rc_100 (by decide) (by decide)) (rg_w rc_0 (by decide) (by decide)) (rg_w rc_0 (by decide) (by decide)) (rg_w rc_0 (by decide) (by decide)) hU) s_12_132 rfl ⟨rfl, rfl⟩ ⟨Nat.le_of_ble_eq_true rfl, Nat.le_of_ble_eq_true rfl⟩ (Nat.le_of_ble_eq_true rfl) ⟨Nat.le_of_ble_eq_true rfl, Nat.le_of_ble_eq_true rfl⟩ dX12_wordOf_431 rfl (st := []) (fun x_136 I_137 J_138 h_139 => ?_)
    obtain ⟨rfl, rfl, fx_136⟩ := h_139
    have c_140 : spl (100) (101) (97) (100) (0) (0) (0) = x_136 := fx_136.symm
    exact g_lret (r := x_136) B K rfl ⟨rfl, rfl, (by simp only [wof, c_1, c_8, c_15, c_22, c_29, c_36, c_43, c_50, c_57, c_64, c_71, c_78, c_85, c_92, c_99, c_106, c_113, c_120, c_127, (eq_true c_134), c_140, if_true, if_false])⟩ dX12_wordOf_434
  by_cases c_141 : a0.toInt = 20
  · skip
    have r_142 := rg_of (a := 20) (b := 20) 20 c_141 (by decide) (by decide)
    refine g_tableIn C (tgt := 435) dX12_wordOf_1 (by omega) (by omega) (off := 434) (by rw [c_141]; rfl) (by decide) ?_
    refine g_bipush C (v := 114) dX12_wordOf_435 (by decide) ?_
    refine g_bipush C (v := 101) dX12_wordOf_437 (by decide) ?_
    refine g_bipush C (v := 102) dX12_wordOf_439 (by decide) ?_
    refine g_bipush C (v := 117) dX12_wordOf_441 (by decide) ?_
    refine g_bipush C (v := 115) dX12_wordOf_443 (by decide) ?_
    refine g_bipush C (v := 101) dX12_wordOf_445 (by decide) ?_
    refine g_bipush C (v := 100) dX12_wordOf_447 (by decide) ?_
    refine g_callSL C K (c_X12_spelt W9 114 101 102 117 115 101 100 (rg_w rc_114 (by decide) (by decide)) (rg_w rc_101 (by decide) (by decide)) (rg_w rc_102 (by decide) (by decide)) (rg_w rc_117 (by decide) (by decide)) (rg_w rc_115 (by decide) (by decide)) (rg_w rc_101 (by decide) (by decide)) (rg_w rc_100 (by decide) (by decide)) hU) s_12_132 rfl ⟨rfl, rfl⟩ ⟨Nat.le_of_ble_eq_true rfl, Nat.le_of_ble_eq_true rfl⟩ (Nat.le_of_ble_eq_true rfl) ⟨Nat.le_of_ble_eq_true rfl, Nat.le_of_ble_eq_true rfl⟩ dX12_wordOf_449 rfl (st := []) (fun x_143 I_144 J_145 h_146 => ?_)
    obtain ⟨rfl, rfl, fx_143⟩ := h_146
    have c_147 : spl (114) (101) (102) (117) (115) (101) (100) = x_143 := fx_143.symm
    exact g_lret (r := x_143) B K rfl ⟨rfl, rfl, (by simp only [wof, c_1, c_8, c_15, c_22, c_29, c_36, c_43, c_50, c_57, c_64, c_71, c_78, c_85, c_92, c_99, c_106, c_113, c_120, c_127, c_134, (eq_true c_141), c_147, if_true, if_false])⟩ dX12_wordOf_452
  by_cases c_148 : a0.toInt = 21
  · skip
    have r_149 := rg_of (a := 21) (b := 21) 21 c_148 (by decide) (by decide)
    refine g_tableIn C (tgt := 453) dX12_wordOf_1 (by omega) (by omega) (off := 452) (by rw [c_148]; rfl) (by decide) ?_
    refine g_bipush C (v := 99) dX12_wordOf_453 (by decide) ?_
    refine g_bipush C (v := 108) dX12_wordOf_455 (by decide) ?_
    refine g_bipush C (v := 101) dX12_wordOf_457 (by decide) ?_
    refine g_bipush C (v := 97) dX12_wordOf_459 (by decide) ?_
    refine g_bipush C (v := 110) dX12_wordOf_461 (by decide) ?_
    refine g_iconst C (v := 0) dX12_wordOf_463 (by decide) ?_
    refine g_iconst C (v := 0) dX12_wordOf_464 (by decide) ?_
    refine g_callSL C K (c_X12_spelt W9 99 108 101 97 110 0 0 (rg_w rc_99 (by decide) (by decide)) (rg_w rc_108 (by decide) (by decide)) (rg_w rc_101 (by decide) (by decide)) (rg_w rc_97 (by decide) (by decide)) (rg_w rc_110 (by decide) (by decide)) (rg_w rc_0 (by decide) (by decide)) (rg_w rc_0 (by decide) (by decide)) hU) s_12_132 rfl ⟨rfl, rfl⟩ ⟨Nat.le_of_ble_eq_true rfl, Nat.le_of_ble_eq_true rfl⟩ (Nat.le_of_ble_eq_true rfl) ⟨Nat.le_of_ble_eq_true rfl, Nat.le_of_ble_eq_true rfl⟩ dX12_wordOf_465 rfl (st := []) (fun x_150 I_151 J_152 h_153 => ?_)
    obtain ⟨rfl, rfl, fx_150⟩ := h_153
    have c_154 : spl (99) (108) (101) (97) (110) (0) (0) = x_150 := fx_150.symm
    exact g_lret (r := x_150) B K rfl ⟨rfl, rfl, (by simp only [wof, c_1, c_8, c_15, c_22, c_29, c_36, c_43, c_50, c_57, c_64, c_71, c_78, c_85, c_92, c_99, c_106, c_113, c_120, c_127, c_134, c_141, (eq_true c_148), c_154, if_true, if_false])⟩ dX12_wordOf_468
  by_cases c_155 : a0.toInt = 22
  · skip
    have r_156 := rg_of (a := 22) (b := 22) 22 c_155 (by decide) (by decide)
    refine g_tableIn C (tgt := 469) dX12_wordOf_1 (by omega) (by omega) (off := 468) (by rw [c_155]; rfl) (by decide) ?_
    refine g_bipush C (v := 111) dX12_wordOf_469 (by decide) ?_
    refine g_bipush C (v := 102) dX12_wordOf_471 (by decide) ?_
    refine g_iconst C (v := 0) dX12_wordOf_473 (by decide) ?_
    refine g_iconst C (v := 0) dX12_wordOf_474 (by decide) ?_
    refine g_iconst C (v := 0) dX12_wordOf_475 (by decide) ?_
    refine g_iconst C (v := 0) dX12_wordOf_476 (by decide) ?_
    refine g_iconst C (v := 0) dX12_wordOf_477 (by decide) ?_
    refine g_callSL C K (c_X12_spelt W9 111 102 0 0 0 0 0 (rg_w rc_111 (by decide) (by decide)) (rg_w rc_102 (by decide) (by decide)) (rg_w rc_0 (by decide) (by decide)) (rg_w rc_0 (by decide) (by decide)) (rg_w rc_0 (by decide) (by decide)) (rg_w rc_0 (by decide) (by decide)) (rg_w rc_0 (by decide) (by decide)) hU) s_12_132 rfl ⟨rfl, rfl⟩ ⟨Nat.le_of_ble_eq_true rfl, Nat.le_of_ble_eq_true rfl⟩ (Nat.le_of_ble_eq_true rfl) ⟨Nat.le_of_ble_eq_true rfl, Nat.le_of_ble_eq_true rfl⟩ dX12_wordOf_478 rfl (st := []) (fun x_157 I_158 J_159 h_160 => ?_)
    obtain ⟨rfl, rfl, fx_157⟩ := h_160
    have c_161 : spl (111) (102) (0) (0) (0) (0) (0) = x_157 := fx_157.symm
    exact g_lret (r := x_157) B K rfl ⟨rfl, rfl, (by simp only [wof, c_1, c_8, c_15, c_22, c_29, c_36, c_43, c_50, c_57, c_64, c_71, c_78, c_85, c_92, c_99, c_106, c_113, c_120, c_127, c_134, c_141, c_148, (eq_true c_155), c_161, if_true, if_false])⟩ dX12_wordOf_481
  by_cases c_162 : a0.toInt = 23
  · skip
    have r_163 := rg_of (a := 23) (b := 23) 23 c_162 (by decide) (by decide)
    refine g_tableIn C (tgt := 482) dX12_wordOf_1 (by omega) (by omega) (off := 481) (by rw [c_162]; rfl) (by decide) ?_
    refine g_bipush C (v := 104) dX12_wordOf_482 (by decide) ?_
    refine g_bipush C (v := 97) dX12_wordOf_484 (by decide) ?_
    refine g_bipush C (v := 115) dX12_wordOf_486 (by decide) ?_
    refine g_iconst C (v := 0) dX12_wordOf_488 (by decide) ?_
    refine g_iconst C (v := 0) dX12_wordOf_489 (by decide) ?_
    refine g_iconst C (v := 0) dX12_wordOf_490 (by decide) ?_
    refine g_iconst C (v := 0) dX12_wordOf_491 (by decide) ?_
    refine g_callSL C K (c_X12_spelt W9 104 97 115 0 0 0 0 (rg_w rc_104 (by decide) (by decide)) (rg_w rc_97 (by decide) (by decide)) (rg_w rc_115 (by decide) (by decide)) (rg_w rc_0 (by decide) (by decide)) (rg_w rc_0 (by decide) (by decide)) (rg_w rc_0 (by decide) (by decide)) (rg_w rc_0 (by decide) (by decide)) hU) s_12_132 rfl ⟨rfl, rfl⟩ ⟨Nat.le_of_ble_eq_true rfl, Nat.le_of_ble_eq_true rfl⟩ (Nat.le_of_ble_eq_true rfl) ⟨Nat.le_of_ble_eq_true rfl, Nat.le_of_ble_eq_true rfl⟩ dX12_wordOf_492 rfl (st := []) (fun x_164 I_165 J_166 h_167 => ?_)
    obtain ⟨rfl, rfl, fx_164⟩ := h_167
    have c_168 : spl (104) (97) (115) (0) (0) (0) (0) = x_164 := fx_164.symm
    exact g_lret (r := x_164) B K rfl ⟨rfl, rfl, (by simp only [wof, c_1, c_8, c_15, c_22, c_29, c_36, c_43, c_50, c_57, c_64, c_71, c_78, c_85, c_92, c_99, c_106, c_113, c_120, c_127, c_134, c_141, c_148, c_155, (eq_true c_162), c_168, if_true, if_false])⟩ dX12_wordOf_495
  by_cases c_169 : a0.toInt = 24
  · skip
    have r_170 := rg_of (a := 24) (b := 24) 24 c_169 (by decide) (by decide)
    refine g_tableIn C (tgt := 496) dX12_wordOf_1 (by omega) (by omega) (off := 495) (by rw [c_169]; rfl) (by decide) ?_
    refine g_bipush C (v := 119) dX12_wordOf_496 (by decide) ?_
    refine g_bipush C (v := 97) dX12_wordOf_498 (by decide) ?_
    refine g_bipush C (v := 110) dX12_wordOf_500 (by decide) ?_
    refine g_bipush C (v := 116) dX12_wordOf_502 (by decide) ?_
    refine g_bipush C (v := 115) dX12_wordOf_504 (by decide) ?_
    refine g_iconst C (v := 0) dX12_wordOf_506 (by decide) ?_
    refine g_iconst C (v := 0) dX12_wordOf_507 (by decide) ?_
    refine g_callSL C K (c_X12_spelt W9 119 97 110 116 115 0 0 (rg_w rc_119 (by decide) (by decide)) (rg_w rc_97 (by decide) (by decide)) (rg_w rc_110 (by decide) (by decide)) (rg_w rc_116 (by decide) (by decide)) (rg_w rc_115 (by decide) (by decide)) (rg_w rc_0 (by decide) (by decide)) (rg_w rc_0 (by decide) (by decide)) hU) s_12_132 rfl ⟨rfl, rfl⟩ ⟨Nat.le_of_ble_eq_true rfl, Nat.le_of_ble_eq_true rfl⟩ (Nat.le_of_ble_eq_true rfl) ⟨Nat.le_of_ble_eq_true rfl, Nat.le_of_ble_eq_true rfl⟩ dX12_wordOf_508 rfl (st := []) (fun x_171 I_172 J_173 h_174 => ?_)
    obtain ⟨rfl, rfl, fx_171⟩ := h_174
    have c_175 : spl (119) (97) (110) (116) (115) (0) (0) = x_171 := fx_171.symm
    exact g_lret (r := x_171) B K rfl ⟨rfl, rfl, (by simp only [wof, c_1, c_8, c_15, c_22, c_29, c_36, c_43, c_50, c_57, c_64, c_71, c_78, c_85, c_92, c_99, c_106, c_113, c_120, c_127, c_134, c_141, c_148, c_155, c_162, (eq_true c_169), c_175, if_true, if_false])⟩ dX12_wordOf_511
  by_cases c_176 : a0.toInt = 25
  · skip
    have r_177 := rg_of (a := 25) (b := 25) 25 c_176 (by decide) (by decide)
    refine g_tableIn C (tgt := 512) dX12_wordOf_1 (by omega) (by omega) (off := 511) (by rw [c_176]; rfl) (by decide) ?_
    refine g_bipush C (v := 101) dX12_wordOf_512 (by decide) ?_
    refine g_bipush C (v := 97) dX12_wordOf_514 (by decide) ?_
    refine g_bipush C (v := 116) dX12_wordOf_516 (by decide) ?_
    refine g_bipush C (v := 101) dX12_wordOf_518 (by decide) ?_
    refine g_bipush C (v := 110) dX12_wordOf_520 (by decide) ?_
    refine g_iconst C (v := 0) dX12_wordOf_522 (by decide) ?_
    refine g_iconst C (v := 0) dX12_wordOf_523 (by decide) ?_
    refine g_callSL C K (c_X12_spelt W9 101 97 116 101 110 0 0 (rg_w rc_101 (by decide) (by decide)) (rg_w rc_97 (by decide) (by decide)) (rg_w rc_116 (by decide) (by decide)) (rg_w rc_101 (by decide) (by decide)) (rg_w rc_110 (by decide) (by decide)) (rg_w rc_0 (by decide) (by decide)) (rg_w rc_0 (by decide) (by decide)) hU) s_12_132 rfl ⟨rfl, rfl⟩ ⟨Nat.le_of_ble_eq_true rfl, Nat.le_of_ble_eq_true rfl⟩ (Nat.le_of_ble_eq_true rfl) ⟨Nat.le_of_ble_eq_true rfl, Nat.le_of_ble_eq_true rfl⟩ dX12_wordOf_524 rfl (st := []) (fun x_178 I_179 J_180 h_181 => ?_)
    obtain ⟨rfl, rfl, fx_178⟩ := h_181
    have c_182 : spl (101) (97) (116) (101) (110) (0) (0) = x_178 := fx_178.symm
    exact g_lret (r := x_178) B K rfl ⟨rfl, rfl, (by simp only [wof, c_1, c_8, c_15, c_22, c_29, c_36, c_43, c_50, c_57, c_64, c_71, c_78, c_85, c_92, c_99, c_106, c_113, c_120, c_127, c_134, c_141, c_148, c_155, c_162, c_169, (eq_true c_176), c_182, if_true, if_false])⟩ dX12_wordOf_527
  by_cases c_183 : a0.toInt = 26
  · skip
    have r_184 := rg_of (a := 26) (b := 26) 26 c_183 (by decide) (by decide)
    refine g_tableIn C (tgt := 528) dX12_wordOf_1 (by omega) (by omega) (off := 527) (by rw [c_183]; rfl) (by decide) ?_
    refine g_bipush C (v := 104) dX12_wordOf_528 (by decide) ?_
    refine g_bipush C (v := 117) dX12_wordOf_530 (by decide) ?_
    refine g_bipush C (v := 110) dX12_wordOf_532 (by decide) ?_
    refine g_bipush C (v := 103) dX12_wordOf_534 (by decide) ?_
    refine g_bipush C (v := 101) dX12_wordOf_536 (by decide) ?_
    refine g_bipush C (v := 114) dX12_wordOf_538 (by decide) ?_
    refine g_iconst C (v := 0) dX12_wordOf_540 (by decide) ?_
    refine g_callSL C K (c_X12_spelt W9 104 117 110 103 101 114 0 (rg_w rc_104 (by decide) (by decide)) (rg_w rc_117 (by decide) (by decide)) (rg_w rc_110 (by decide) (by decide)) (rg_w rc_103 (by decide) (by decide)) (rg_w rc_101 (by decide) (by decide)) (rg_w rc_114 (by decide) (by decide)) (rg_w rc_0 (by decide) (by decide)) hU) s_12_132 rfl ⟨rfl, rfl⟩ ⟨Nat.le_of_ble_eq_true rfl, Nat.le_of_ble_eq_true rfl⟩ (Nat.le_of_ble_eq_true rfl) ⟨Nat.le_of_ble_eq_true rfl, Nat.le_of_ble_eq_true rfl⟩ dX12_wordOf_541 rfl (st := []) (fun x_185 I_186 J_187 h_188 => ?_)
    obtain ⟨rfl, rfl, fx_185⟩ := h_188
    have c_189 : spl (104) (117) (110) (103) (101) (114) (0) = x_185 := fx_185.symm
    exact g_lret (r := x_185) B K rfl ⟨rfl, rfl, (by simp only [wof, c_1, c_8, c_15, c_22, c_29, c_36, c_43, c_50, c_57, c_64, c_71, c_78, c_85, c_92, c_99, c_106, c_113, c_120, c_127, c_134, c_141, c_148, c_155, c_162, c_169, c_176, (eq_true c_183), c_189, if_true, if_false])⟩ dX12_wordOf_544
  have n_191 : ¬ a0 = 0 := (fun q => c_1 (by rw [q]; decide))
  have r_192 := ne_lo (lo := 1) n_191 ra0 rc_0 rfl (by decide)
  have n_193 : ¬ a0 = 1 := (fun q => c_8 (by rw [q]; decide))
  have r_194 := ne_lo (lo := 2) n_193 r_192 rc_1 rfl (by decide)
  have n_195 : ¬ a0 = 2 := (fun q => c_15 (by rw [q]; decide))
  have r_196 := ne_lo (lo := 3) n_195 r_194 rc_2 rfl (by decide)
  have n_197 : ¬ a0 = 3 := (fun q => c_22 (by rw [q]; decide))
  have r_198 := ne_lo (lo := 4) n_197 r_196 rc_3 rfl (by decide)
  have n_199 : ¬ a0 = 4 := (fun q => c_29 (by rw [q]; decide))
  have r_200 := ne_lo (lo := 5) n_199 r_198 rc_4 rfl (by decide)
  have n_201 : ¬ a0 = 5 := (fun q => c_36 (by rw [q]; decide))
  have r_202 := ne_lo (lo := 6) n_201 r_200 rc_5 rfl (by decide)
  have n_203 : ¬ a0 = 6 := (fun q => c_43 (by rw [q]; decide))
  have r_204 := ne_lo (lo := 7) n_203 r_202 rc_6 rfl (by decide)
  have n_205 : ¬ a0 = 7 := (fun q => c_50 (by rw [q]; decide))
  have r_206 := ne_lo (lo := 8) n_205 r_204 rc_7 rfl (by decide)
  have n_207 : ¬ a0 = 8 := (fun q => c_57 (by rw [q]; decide))
  have r_208 := ne_lo (lo := 9) n_207 r_206 rc_8 rfl (by decide)
  have n_209 : ¬ a0 = 9 := (fun q => c_64 (by rw [q]; decide))
  have r_210 := ne_lo (lo := 10) n_209 r_208 rc_9 rfl (by decide)
  have n_211 : ¬ a0 = 10 := (fun q => c_71 (by rw [q]; decide))
  have r_212 := ne_lo (lo := 11) n_211 r_210 rc_10 rfl (by decide)
  have n_213 : ¬ a0 = 11 := (fun q => c_78 (by rw [q]; decide))
  have r_214 := ne_lo (lo := 12) n_213 r_212 rc_11 rfl (by decide)
  have n_215 : ¬ a0 = 12 := (fun q => c_85 (by rw [q]; decide))
  have r_216 := ne_lo (lo := 13) n_215 r_214 rc_12 rfl (by decide)
  have n_217 : ¬ a0 = 13 := (fun q => c_92 (by rw [q]; decide))
  have r_218 := ne_lo (lo := 14) n_217 r_216 rc_13 rfl (by decide)
  have n_219 : ¬ a0 = 14 := (fun q => c_99 (by rw [q]; decide))
  have r_220 := ne_lo (lo := 15) n_219 r_218 rc_14 rfl (by decide)
  have n_221 : ¬ a0 = 15 := (fun q => c_106 (by rw [q]; decide))
  have r_222 := ne_lo (lo := 16) n_221 r_220 rc_15 rfl (by decide)
  have n_223 : ¬ a0 = 16 := (fun q => c_113 (by rw [q]; decide))
  have r_224 := ne_lo (lo := 17) n_223 r_222 rc_16 rfl (by decide)
  have n_225 : ¬ a0 = 17 := (fun q => c_120 (by rw [q]; decide))
  have r_226 := ne_lo (lo := 18) n_225 r_224 rc_17 rfl (by decide)
  have n_227 : ¬ a0 = 18 := (fun q => c_127 (by rw [q]; decide))
  have r_228 := ne_lo (lo := 19) n_227 r_226 rc_18 rfl (by decide)
  have n_229 : ¬ a0 = 19 := (fun q => c_134 (by rw [q]; decide))
  have r_230 := ne_lo (lo := 20) n_229 r_228 rc_19 rfl (by decide)
  have n_231 : ¬ a0 = 20 := (fun q => c_141 (by rw [q]; decide))
  have r_232 := ne_lo (lo := 21) n_231 r_230 rc_20 rfl (by decide)
  have n_233 : ¬ a0 = 21 := (fun q => c_148 (by rw [q]; decide))
  have r_234 := ne_lo (lo := 22) n_233 r_232 rc_21 rfl (by decide)
  have n_235 : ¬ a0 = 22 := (fun q => c_155 (by rw [q]; decide))
  have r_236 := ne_lo (lo := 23) n_235 r_234 rc_22 rfl (by decide)
  have n_237 : ¬ a0 = 23 := (fun q => c_162 (by rw [q]; decide))
  have r_238 := ne_lo (lo := 24) n_237 r_236 rc_23 rfl (by decide)
  have n_239 : ¬ a0 = 24 := (fun q => c_169 (by rw [q]; decide))
  have r_240 := ne_lo (lo := 25) n_239 r_238 rc_24 rfl (by decide)
  have n_241 : ¬ a0 = 25 := (fun q => c_176 (by rw [q]; decide))
  have r_242 := ne_lo (lo := 26) n_241 r_240 rc_25 rfl (by decide)
  have n_243 : ¬ a0 = 26 := (fun q => c_183 (by rw [q]; decide))
  have r_244 := ne_lo (lo := 27) n_243 r_242 rc_26 rfl (by decide)
  obtain ⟨q_1901, q_1902⟩ := id (r_244)
  refine g_tableOut C (tgt := 545) dX12_wordOf_1 (by omega) (by decide) ?_
  refine g_bipush C (v := 110) dX12_wordOf_545 (by decide) ?_
  refine g_bipush C (v := 117) dX12_wordOf_547 (by decide) ?_
  refine g_bipush C (v := 109) dX12_wordOf_549 (by decide) ?_
  refine g_bipush C (v := 98) dX12_wordOf_551 (by decide) ?_
  refine g_bipush C (v := 101) dX12_wordOf_553 (by decide) ?_
  refine g_bipush C (v := 114) dX12_wordOf_555 (by decide) ?_
  refine g_iconst C (v := 0) dX12_wordOf_557 (by decide) ?_
  refine g_callSL C K (c_X12_spelt W9 110 117 109 98 101 114 0 (rg_w rc_110 (by decide) (by decide)) (rg_w rc_117 (by decide) (by decide)) (rg_w rc_109 (by decide) (by decide)) (rg_w rc_98 (by decide) (by decide)) (rg_w rc_101 (by decide) (by decide)) (rg_w rc_114 (by decide) (by decide)) (rg_w rc_0 (by decide) (by decide)) hU) s_12_132 rfl ⟨rfl, rfl⟩ ⟨Nat.le_of_ble_eq_true rfl, Nat.le_of_ble_eq_true rfl⟩ (Nat.le_of_ble_eq_true rfl) ⟨Nat.le_of_ble_eq_true rfl, Nat.le_of_ble_eq_true rfl⟩ dX12_wordOf_558 rfl (st := []) (fun x_245 I_246 J_247 h_248 => ?_)
  obtain ⟨rfl, rfl, fx_245⟩ := h_248
  have c_249 : spl (110) (117) (109) (98) (101) (114) (0) = x_245 := fx_245.symm
  exact g_lret (r := x_245) B K rfl ⟨rfl, rfl, (by simp only [wof, c_1, c_8, c_15, c_22, c_29, c_36, c_43, c_50, c_57, c_64, c_71, c_78, c_85, c_92, c_99, c_106, c_113, c_120, c_127, c_134, c_141, c_148, c_155, c_162, c_169, c_176, c_183, c_249, if_true, if_false])⟩ dX12_wordOf_561
