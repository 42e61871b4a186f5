theorem dJ9_abs_0f7a4_0 : decode cJ9_abs_0f7a4 0 = .ok (.iload_n 0, 1) := by decide +kernel
theorem dJ9_abs_0f7a4_1 : decode cJ9_abs_0f7a4 1 = .ok (.ifCond .ge 8, 3) := by decide +kernel
theorem dJ9_abs_0f7a4_4 : decode cJ9_abs_0f7a4 4 = .ok (.iload_n 0, 1) := by decide +kernel
theorem dJ9_abs_0f7a4_5 : decode cJ9_abs_0f7a4 5 = .ok (.ineg, 1) := by decide +kernel
theorem dJ9_abs_0f7a4_6 : decode cJ9_abs_0f7a4 6 = .ok (.goto 4, 3) := by decide +kernel
theorem dJ9_abs_0f7a4_9 : decode cJ9_abs_0f7a4 9 = .ok (.iload_n 0, 1) := by decide +kernel
theorem dJ9_abs_0f7a4_10 : decode cJ9_abs_0f7a4 10 = .ok (.ireturn, 1) := by decide +kernel
theorem dX10_byteOf_0 : decode cX10_byteOf 0 = .ok (.iload_n 1, 1) := by decide +kernel
theorem dX10_byteOf_1 : decode cX10_byteOf 1 = .ok (.ifCond .lt 33, 3) := by decide +kernel
theorem dX10_byteOf_4 : decode cX10_byteOf 4 = .ok (.iload_n 1, 1) := by decide +kernel
theorem dX10_byteOf_5 : decode cX10_byteOf 5 = .ok (.aload_n 0, 1) := by decide +kernel
theorem dX10_byteOf_6 : decode cX10_byteOf 6 = .ok (.getfield 29, 3) := by decide +kernel
theorem dX10_byteOf_9 : decode cX10_byteOf 9 = .ok (.if_icmp .ge 25, 3) := by decide +kernel
theorem dX10_byteOf_12 : decode cX10_byteOf 12 = .ok (.iload_n 1, 1) := by decide +kernel
theorem dX10_byteOf_13 : decode cX10_byteOf 13 = .ok (.aload_n 0, 1) := by decide +kernel
theorem dX10_byteOf_14 : decode cX10_byteOf 14 = .ok (.getfield 9, 3) := by decide +kernel
theorem dX10_byteOf_17 : decode cX10_byteOf 17 = .ok (.arraylength, 1) := by decide +kernel
theorem dX10_byteOf_18 : decode cX10_byteOf 18 = .ok (.if_icmp .ge 16, 3) := by decide +kernel
theorem dX10_byteOf_21 : decode cX10_byteOf 21 = .ok (.aload_n 0, 1) := by decide +kernel
theorem dX10_byteOf_22 : decode cX10_byteOf 22 = .ok (.getfield 9, 3) := by decide +kernel
theorem dX10_byteOf_25 : decode cX10_byteOf 25 = .ok (.iload_n 1, 1) := by decide +kernel
theorem dX10_byteOf_26 : decode cX10_byteOf 26 = .ok (.baload, 1) := by decide +kernel
theorem dX10_byteOf_27 : decode cX10_byteOf 27 = .ok (.sipush 255, 3) := by decide +kernel
theorem dX10_byteOf_30 : decode cX10_byteOf 30 = .ok (.iand, 1) := by decide +kernel
theorem dX10_byteOf_31 : decode cX10_byteOf 31 = .ok (.goto 4, 3) := by decide +kernel
theorem dX10_byteOf_34 : decode cX10_byteOf 34 = .ok (.iconst (-1), 1) := by decide +kernel
theorem dX10_byteOf_35 : decode cX10_byteOf 35 = .ok (.ireturn, 1) := by decide +kernel
theorem dX11_ask_0 : decode cX11_ask 0 = .ok (.aload_n 0, 1) := by decide +kernel
theorem dX11_ask_1 : decode cX11_ask 1 = .ok (.getfield 83, 3) := by decide +kernel
theorem dX11_ask_4 : decode cX11_ask 4 = .ok (.getfield 285, 3) := by decide +kernel
theorem dX11_ask_7 : decode cX11_ask 7 = .ok (.ireturn, 1) := by decide +kernel
theorem dX11_last_0 : decode cX11_last 0 = .ok (.aload_n 0, 1) := by decide +kernel
theorem dX11_last_1 : decode cX11_last 1 = .ok (.getfield 19, 3) := by decide +kernel
theorem dX11_last_4 : decode cX11_last 4 = .ok (.iload_n 1, 1) := by decide +kernel
theorem dX11_last_5 : decode cX11_last 5 = .ok (.invokevirtual 175, 3) := by decide +kernel
theorem dX11_last_8 : decode cX11_last 8 = .ok (.ifCond .ne 5, 3) := by decide +kernel
theorem dX11_last_11 : decode cX11_last 11 = .ok (.iconst (-1), 1) := by decide +kernel
theorem dX11_last_12 : decode cX11_last 12 = .ok (.ireturn, 1) := by decide +kernel
theorem dX11_last_13 : decode cX11_last 13 = .ok (.aload_n 0, 1) := by decide +kernel
theorem dX11_last_14 : decode cX11_last 14 = .ok (.getfield 28, 3) := by decide +kernel
theorem dX11_last_17 : decode cX11_last 17 = .ok (.getfield 182, 3) := by decide +kernel
theorem dX11_last_20 : decode cX11_last 20 = .ok (.iload_n 1, 1) := by decide +kernel
theorem dX11_last_21 : decode cX11_last 21 = .ok (.iaload, 1) := by decide +kernel
theorem dX11_last_22 : decode cX11_last 22 = .ok (.ifCond .ne 7, 3) := by decide +kernel
theorem dX11_last_25 : decode cX11_last 25 = .ok (.iconst 0, 1) := by decide +kernel
theorem dX11_last_26 : decode cX11_last 26 = .ok (.goto 16, 3) := by decide +kernel
theorem dX11_last_29 : decode cX11_last 29 = .ok (.aload_n 0, 1) := by decide +kernel
theorem dX11_last_30 : decode cX11_last 30 = .ok (.getfield 28, 3) := by decide +kernel
theorem dX11_last_33 : decode cX11_last 33 = .ok (.getfield 182, 3) := by decide +kernel
theorem dX11_last_36 : decode cX11_last 36 = .ok (.iload_n 1, 1) := by decide +kernel
theorem dX11_last_37 : decode cX11_last 37 = .ok (.iaload, 1) := by decide +kernel
theorem dX11_last_38 : decode cX11_last 38 = .ok (.iconst 3, 1) := by decide +kernel
theorem dX11_last_39 : decode cX11_last 39 = .ok (.iadd, 1) := by decide +kernel
theorem dX11_last_40 : decode cX11_last 40 = .ok (.iconst 4, 1) := by decide +kernel
theorem dX11_last_41 : decode cX11_last 41 = .ok (.irem, 1) := by decide +kernel
theorem dX11_last_42 : decode cX11_last 42 = .ok (.ireturn, 1) := by decide +kernel
theorem dX11_seats_0 : decode cX11_seats 0 = .ok (.aload_n 0, 1) := by decide +kernel
theorem dX11_seats_1 : decode cX11_seats 1 = .ok (.getfield 76, 3) := by decide +kernel
theorem dX11_seats_4 : decode cX11_seats 4 = .ok (.aload_n 0, 1) := by decide +kernel
theorem dX11_seats_5 : decode cX11_seats 5 = .ok (.getfield 28, 3) := by decide +kernel
theorem dX11_seats_8 : decode cX11_seats 8 = .ok (.invokevirtual 291, 3) := by decide +kernel
theorem dX11_seats_11 : decode cX11_seats 11 = .ok (.ireturn, 1) := by decide +kernel
theorem dX11_share_0 : decode cX11_share 0 = .ok (.aload_n 0, 1) := by decide +kernel
theorem dX11_share_1 : decode cX11_share 1 = .ok (.getfield 19, 3) := by decide +kernel
theorem dX11_share_4 : decode cX11_share 4 = .ok (.iload_n 1, 1) := by decide +kernel
theorem dX11_share_5 : decode cX11_share 5 = .ok (.invokevirtual 175, 3) := by decide +kernel
theorem dX11_share_8 : decode cX11_share 8 = .ok (.ifCond .eq 32, 3) := by decide +kernel
theorem dX11_share_11 : decode cX11_share 11 = .ok (.aload_n 0, 1) := by decide +kernel
theorem dX11_share_12 : decode cX11_share 12 = .ok (.getfield 19, 3) := by decide +kernel
theorem dX11_share_15 : decode cX11_share 15 = .ok (.iload_n 3, 1) := by decide +kernel
theorem dX11_share_16 : decode cX11_share 16 = .ok (.invokevirtual 133, 3) := by decide +kernel
theorem dX11_share_19 : decode cX11_share 19 = .ok (.ifCond .eq 21, 3) := by decide +kernel
theorem dX11_share_22 : decode cX11_share 22 = .ok (.iload_n 2, 1) := by decide +kernel
theorem dX11_share_23 : decode cX11_share 23 = .ok (.aload_n 0, 1) := by decide +kernel
theorem dX11_share_24 : decode cX11_share 24 = .ok (.getfield 19, 3) := by decide +kernel
theorem dX11_share_27 : decode cX11_share 27 = .ok (.invokevirtual 188, 3) := by decide +kernel
theorem dX11_share_30 : decode cX11_share 30 = .ok (.iconst (-1), 1) := by decide +kernel
theorem dX11_share_31 : decode cX11_share 31 = .ok (.ixor, 1) := by decide +kernel
theorem dX11_share_32 : decode cX11_share 32 = .ok (.iand, 1) := by decide +kernel
theorem dX11_share_33 : decode cX11_share 33 = .ok (.ifCond .ne 7, 3) := by decide +kernel
theorem dX11_share_36 : decode cX11_share 36 = .ok (.iconst 1, 1) := by decide +kernel
theorem dX11_share_37 : decode cX11_share 37 = .ok (.goto 4, 3) := by decide +kernel
theorem dX11_share_40 : decode cX11_share 40 = .ok (.iconst 0, 1) := by decide +kernel
theorem dX11_share_41 : decode cX11_share 41 = .ok (.istore 4, 2) := by decide +kernel
theorem dX11_share_43 : decode cX11_share 43 = .ok (.iload 4, 2) := by decide +kernel
theorem dX11_share_45 : decode cX11_share 45 = .ok (.ifCond .eq 11, 3) := by decide +kernel
theorem dX11_share_48 : decode cX11_share 48 = .ok (.iload_n 2, 1) := by decide +kernel
theorem dX11_share_49 : decode cX11_share 49 = .ok (.iload_n 3, 1) := by decide +kernel
theorem dX11_share_50 : decode cX11_share 50 = .ok (.ishr, 1) := by decide +kernel
theorem dX11_share_51 : decode cX11_share 51 = .ok (.iconst 1, 1) := by decide +kernel
theorem dX11_share_52 : decode cX11_share 52 = .ok (.iand, 1) := by decide +kernel
theorem dX11_share_53 : decode cX11_share 53 = .ok (.ifCond .ne 5, 3) := by decide +kernel
theorem dX11_share_56 : decode cX11_share 56 = .ok (.iconst (-1), 1) := by decide +kernel
theorem dX11_share_57 : decode cX11_share 57 = .ok (.ireturn, 1) := by decide +kernel
theorem dX11_share_58 : decode cX11_share 58 = .ok (.aload_n 0, 1) := by decide +kernel
theorem dX11_share_59 : decode cX11_share 59 = .ok (.getfield 19, 3) := by decide +kernel
theorem dX11_share_62 : decode cX11_share 62 = .ok (.aload_n 0, 1) := by decide +kernel
theorem dX11_share_63 : decode cX11_share 63 = .ok (.getfield 28, 3) := by decide +kernel
theorem dX11_share_66 : decode cX11_share 66 = .ok (.getfield 182, 3) := by decide +kernel
theorem dX11_share_69 : decode cX11_share 69 = .ok (.iload_n 1, 1) := by decide +kernel
theorem dX11_share_70 : decode cX11_share 70 = .ok (.iaload, 1) := by decide +kernel
theorem dX11_share_71 : decode cX11_share 71 = .ok (.iload_n 2, 1) := by decide +kernel
theorem dX11_share_72 : decode cX11_share 72 = .ok (.iload_n 3, 1) := by decide +kernel
theorem dX11_share_73 : decode cX11_share 73 = .ok (.invokevirtual 288, 3) := by decide +kernel
theorem dX11_share_76 : decode cX11_share 76 = .ok (.ireturn, 1) := by decide +kernel
theorem dX11_surely_0 : decode cX11_surely 0 = .ok (.aload_n 0, 1) := by decide +kernel
theorem dX11_surely_1 : decode cX11_surely 1 = .ok (.getfield 83, 3) := by decide +kernel
theorem dX11_surely_4 : decode cX11_surely 4 = .ok (.getfield 282, 3) := by decide +kernel
theorem dX11_surely_7 : decode cX11_surely 7 = .ok (.ireturn, 1) := by decide +kernel
theorem dX2_countIn_0 : decode cX2_countIn 0 = .ok (.iconst 0, 1) := by decide +kernel
theorem dX2_countIn_1 : decode cX2_countIn 1 = .ok (.istore_n 2, 1) := by decide +kernel
theorem dX2_countIn_2 : decode cX2_countIn 2 = .ok (.iload_n 2, 1) := by decide +kernel
theorem dX2_countIn_3 : decode cX2_countIn 3 = .ok (.bipush 7, 2) := by decide +kernel
theorem dX2_countIn_5 : decode cX2_countIn 5 = .ok (.if_icmp .ge 23, 3) := by decide +kernel
theorem dX2_countIn_8 : decode cX2_countIn 8 = .ok (.aload_n 0, 1) := by decide +kernel
theorem dX2_countIn_9 : decode cX2_countIn 9 = .ok (.getfield 9, 3) := by decide +kernel
theorem dX2_countIn_12 : decode cX2_countIn 12 = .ok (.iload_n 2, 1) := by decide +kernel
theorem dX2_countIn_13 : decode cX2_countIn 13 = .ok (.dup2, 1) := by decide +kernel
theorem dX2_countIn_14 : decode cX2_countIn 14 = .ok (.iaload, 1) := by decide +kernel
theorem dX2_countIn_15 : decode cX2_countIn 15 = .ok (.iload_n 1, 1) := by decide +kernel
theorem dX2_countIn_16 : decode cX2_countIn 16 = .ok (.iload_n 2, 1) := by decide +kernel
theorem dX2_countIn_17 : decode cX2_countIn 17 = .ok (.ishr, 1) := by decide +kernel
theorem dX2_countIn_18 : decode cX2_countIn 18 = .ok (.iconst 1, 1) := by decide +kernel
theorem dX2_countIn_19 : decode cX2_countIn 19 = .ok (.iand, 1) := by decide +kernel
theorem dX2_countIn_20 : decode cX2_countIn 20 = .ok (.iadd, 1) := by decide +kernel
theorem dX2_countIn_21 : decode cX2_countIn 21 = .ok (.iastore, 1) := by decide +kernel
theorem dX2_countIn_22 : decode cX2_countIn 22 = .ok (.iinc 2 1, 3) := by decide +kernel
theorem dX2_countIn_25 : decode cX2_countIn 25 = .ok (.goto (-23), 3) := by decide +kernel
theorem dX2_countIn_28 : decode cX2_countIn 28 = .ok (.return_, 1) := by decide +kernel
theorem dX2_nearestToHalf_0 : decode cX2_nearestToHalf 0 = .ok (.iconst (-1), 1) := by decide +kernel
theorem dX2_nearestToHalf_1 : decode cX2_nearestToHalf 1 = .ok (.istore_n 3, 1) := by decide +kernel
theorem dX2_nearestToHalf_2 : decode cX2_nearestToHalf 2 = .ok (.sipush 1000, 3) := by decide +kernel
theorem dX2_nearestToHalf_5 : decode cX2_nearestToHalf 5 = .ok (.istore 4, 2) := by decide +kernel
theorem dX2_nearestToHalf_7 : decode cX2_nearestToHalf 7 = .ok (.iconst 0, 1) := by decide +kernel
theorem dX2_nearestToHalf_8 : decode cX2_nearestToHalf 8 = .ok (.istore 5, 2) := by decide +kernel
theorem dX2_nearestToHalf_10 : decode cX2_nearestToHalf 10 = .ok (.iload 5, 2) := by decide +kernel
theorem dX2_nearestToHalf_12 : decode cX2_nearestToHalf 12 = .ok (.iload_n 1, 1) := by decide +kernel
theorem dX2_nearestToHalf_13 : decode cX2_nearestToHalf 13 = .ok (.if_icmp .ge 39, 3) := by decide +kernel
theorem dX2_nearestToHalf_16 : decode cX2_nearestToHalf 16 = .ok (.iconst 2, 1) := by decide +kernel
theorem dX2_nearestToHalf_17 : decode cX2_nearestToHalf 17 = .ok (.aload_n 0, 1) := by decide +kernel
theorem dX2_nearestToHalf_18 : decode cX2_nearestToHalf 18 = .ok (.getfield 9, 3) := by decide +kernel
theorem dX2_nearestToHalf_21 : decode cX2_nearestToHalf 21 = .ok (.iload 5, 2) := by decide +kernel
theorem dX2_nearestToHalf_23 : decode cX2_nearestToHalf 23 = .ok (.iaload, 1) := by decide +kernel
theorem dX2_nearestToHalf_24 : decode cX2_nearestToHalf 24 = .ok (.imul, 1) := by decide +kernel
theorem dX2_nearestToHalf_25 : decode cX2_nearestToHalf 25 = .ok (.iload_n 2, 1) := by decide +kernel
theorem dX2_nearestToHalf_26 : decode cX2_nearestToHalf 26 = .ok (.isub, 1) := by decide +kernel
theorem dX2_nearestToHalf_27 : decode cX2_nearestToHalf 27 = .ok (.invokestatic 48, 3) := by decide +kernel
theorem dX2_nearestToHalf_30 : decode cX2_nearestToHalf 30 = .ok (.istore 6, 2) := by decide +kernel
theorem dX2_nearestToHalf_32 : decode cX2_nearestToHalf 32 = .ok (.iload 6, 2) := by decide +kernel
theorem dX2_nearestToHalf_34 : decode cX2_nearestToHalf 34 = .ok (.iload 4, 2) := by decide +kernel
theorem dX2_nearestToHalf_36 : decode cX2_nearestToHalf 36 = .ok (.if_icmp .ge 10, 3) := by decide +kernel
theorem dX2_nearestToHalf_39 : decode cX2_nearestToHalf 39 = .ok (.iload 6, 2) := by decide +kernel
theorem dX2_nearestToHalf_41 : decode cX2_nearestToHalf 41 = .ok (.istore 4, 2) := by decide +kernel
theorem dX2_nearestToHalf_43 : decode cX2_nearestToHalf 43 = .ok (.iload 5, 2) := by decide +kernel
theorem dX2_nearestToHalf_45 : decode cX2_nearestToHalf 45 = .ok (.istore_n 3, 1) := by decide +kernel
theorem dX2_nearestToHalf_46 : decode cX2_nearestToHalf 46 = .ok (.iinc 5 1, 3) := by decide +kernel
theorem dX2_nearestToHalf_49 : decode cX2_nearestToHalf 49 = .ok (.goto (-39), 3) := by decide +kernel
theorem dX2_nearestToHalf_52 : decode cX2_nearestToHalf 52 = .ok (.iload_n 3, 1) := by decide +kernel
theorem dX2_nearestToHalf_53 : decode cX2_nearestToHalf 53 = .ok (.ireturn, 1) := by decide +kernel
theorem dX6_isChild_0 : decode cX6_isChild 0 = .ok (.iload_n 2, 1) := by decide +kernel
theorem dX6_isChild_1 : decode cX6_isChild 1 = .ok (.iconst (-1), 1) := by decide +kernel
theorem dX6_isChild_2 : decode cX6_isChild 2 = .ok (.if_icmp .eq 17, 3) := by decide +kernel
theorem dX6_isChild_5 : decode cX6_isChild 5 = .ok (.aload_n 0, 1) := by decide +kernel
theorem dX6_isChild_6 : decode cX6_isChild 6 = .ok (.getfield 45, 3) := by decide +kernel
theorem dX6_isChild_9 : decode cX6_isChild 9 = .ok (.iload_n 1, 1) := by decide +kernel
theorem dX6_isChild_10 : decode cX6_isChild 10 = .ok (.iaload, 1) := by decide +kernel
theorem dX6_isChild_11 : decode cX6_isChild 11 = .ok (.iload_n 2, 1) := by decide +kernel
theorem dX6_isChild_12 : decode cX6_isChild 12 = .ok (.if_icmp .ne 7, 3) := by decide +kernel
theorem dX6_isChild_15 : decode cX6_isChild 15 = .ok (.iconst 1, 1) := by decide +kernel
theorem dX6_isChild_16 : decode cX6_isChild 16 = .ok (.goto 4, 3) := by decide +kernel
theorem dX6_isChild_19 : decode cX6_isChild 19 = .ok (.iconst 0, 1) := by decide +kernel
theorem dX6_isChild_20 : decode cX6_isChild 20 = .ok (.ireturn, 1) := by decide +kernel
theorem dX6_leastFor_0 : decode cX6_leastFor 0 = .ok (.iconst 0, 1) := by decide +kernel
theorem dX6_leastFor_1 : decode cX6_leastFor 1 = .ok (.istore 4, 2) := by decide +kernel
theorem dX6_leastFor_3 : decode cX6_leastFor 3 = .ok (.iload 4, 2) := by decide +kernel
theorem dX6_leastFor_5 : decode cX6_leastFor 5 = .ok (.aload_n 0, 1) := by decide +kernel
theorem dX6_leastFor_6 : decode cX6_leastFor 6 = .ok (.getfield 33, 3) := by decide +kernel
theorem dX6_leastFor_9 : decode cX6_leastFor 9 = .ok (.if_icmp .ge 47, 3) := by decide +kernel
theorem dX6_leastFor_12 : decode cX6_leastFor 12 = .ok (.iload_n 1, 1) := by decide +kernel
theorem dX6_leastFor_13 : decode cX6_leastFor 13 = .ok (.iconst 1, 1) := by decide +kernel
theorem dX6_leastFor_14 : decode cX6_leastFor 14 = .ok (.iload 4, 2) := by decide +kernel
theorem dX6_leastFor_16 : decode cX6_leastFor 16 = .ok (.ishl, 1) := by decide +kernel
theorem dX6_leastFor_17 : decode cX6_leastFor 17 = .ok (.iconst (-1), 1) := by decide +kernel
theorem dX6_leastFor_18 : decode cX6_leastFor 18 = .ok (.ixor, 1) := by decide +kernel
theorem dX6_leastFor_19 : decode cX6_leastFor 19 = .ok (.iand, 1) := by decide +kernel
theorem dX6_leastFor_20 : decode cX6_leastFor 20 = .ok (.istore 5, 2) := by decide +kernel
theorem dX6_leastFor_22 : decode cX6_leastFor 22 = .ok (.iload 5, 2) := by decide +kernel
theorem dX6_leastFor_24 : decode cX6_leastFor 24 = .ok (.iload_n 1, 1) := by decide +kernel
theorem dX6_leastFor_25 : decode cX6_leastFor 25 = .ok (.if_icmp .eq 25, 3) := by decide +kernel
theorem dX6_leastFor_28 : decode cX6_leastFor 28 = .ok (.aload_n 0, 1) := by decide +kernel
theorem dX6_leastFor_29 : decode cX6_leastFor 29 = .ok (.iload 4, 2) := by decide +kernel
theorem dX6_leastFor_31 : decode cX6_leastFor 31 = .ok (.iload_n 2, 1) := by decide +kernel
theorem dX6_leastFor_32 : decode cX6_leastFor 32 = .ok (.invokestatic 42, 3) := by decide +kernel
theorem dX6_leastFor_35 : decode cX6_leastFor 35 = .ok (.aload_n 0, 1) := by decide +kernel
theorem dX6_leastFor_36 : decode cX6_leastFor 36 = .ok (.iload_n 1, 1) := by decide +kernel
theorem dX6_leastFor_37 : decode cX6_leastFor 37 = .ok (.iload 5, 2) := by decide +kernel
theorem dX6_leastFor_39 : decode cX6_leastFor 39 = .ok (.invokestatic 29, 3) := by decide +kernel
theorem dX6_leastFor_42 : decode cX6_leastFor 42 = .ok (.iadd, 1) := by decide +kernel
theorem dX6_leastFor_43 : decode cX6_leastFor 43 = .ok (.iload_n 3, 1) := by decide +kernel
theorem dX6_leastFor_44 : decode cX6_leastFor 44 = .ok (.if_icmp .ne 6, 3) := by decide +kernel
theorem dX6_leastFor_47 : decode cX6_leastFor 47 = .ok (.iload 4, 2) := by decide +kernel
theorem dX6_leastFor_49 : decode cX6_leastFor 49 = .ok (.ireturn, 1) := by decide +kernel
theorem dX6_leastFor_50 : decode cX6_leastFor 50 = .ok (.iinc 4 1, 3) := by decide +kernel
theorem dX6_leastFor_53 : decode cX6_leastFor 53 = .ok (.goto (-50), 3) := by decide +kernel
theorem dX6_leastFor_56 : decode cX6_leastFor 56 = .ok (.iconst (-1), 1) := by decide +kernel
theorem dX6_leastFor_57 : decode cX6_leastFor 57 = .ok (.ireturn, 1) := by decide +kernel
theorem dX6_parentsAmong_0 : decode cX6_parentsAmong 0 = .ok (.iconst 0, 1) := by decide +kernel
theorem dX6_parentsAmong_1 : decode cX6_parentsAmong 1 = .ok (.istore_n 3, 1) := by decide +kernel
theorem dX6_parentsAmong_2 : decode cX6_parentsAmong 2 = .ok (.iconst 0, 1) := by decide +kernel
theorem dX6_parentsAmong_3 : decode cX6_parentsAmong 3 = .ok (.istore 4, 2) := by decide +kernel
theorem dX6_parentsAmong_5 : decode cX6_parentsAmong 5 = .ok (.iload 4, 2) := by decide +kernel
theorem dX6_parentsAmong_7 : decode cX6_parentsAmong 7 = .ok (.aload_n 0, 1) := by decide +kernel
theorem dX6_parentsAmong_8 : decode cX6_parentsAmong 8 = .ok (.getfield 33, 3) := by decide +kernel
theorem dX6_parentsAmong_11 : decode cX6_parentsAmong 11 = .ok (.if_icmp .ge 32, 3) := by decide +kernel
theorem dX6_parentsAmong_14 : decode cX6_parentsAmong 14 = .ok (.iload_n 1, 1) := by decide +kernel
theorem dX6_parentsAmong_15 : decode cX6_parentsAmong 15 = .ok (.iload 4, 2) := by decide +kernel
theorem dX6_parentsAmong_17 : decode cX6_parentsAmong 17 = .ok (.ishr, 1) := by decide +kernel
theorem dX6_parentsAmong_18 : decode cX6_parentsAmong 18 = .ok (.iconst 1, 1) := by decide +kernel
theorem dX6_parentsAmong_19 : decode cX6_parentsAmong 19 = .ok (.iand, 1) := by decide +kernel
theorem dX6_parentsAmong_20 : decode cX6_parentsAmong 20 = .ok (.ifCond .eq 17, 3) := by decide +kernel
theorem dX6_parentsAmong_23 : decode cX6_parentsAmong 23 = .ok (.aload_n 0, 1) := by decide +kernel
theorem dX6_parentsAmong_24 : decode cX6_parentsAmong 24 = .ok (.iload 4, 2) := by decide +kernel
theorem dX6_parentsAmong_26 : decode cX6_parentsAmong 26 = .ok (.invokevirtual 48, 3) := by decide +kernel
theorem dX6_parentsAmong_29 : decode cX6_parentsAmong 29 = .ok (.iload_n 2, 1) := by decide +kernel
theorem dX6_parentsAmong_30 : decode cX6_parentsAmong 30 = .ok (.iand, 1) := by decide +kernel
theorem dX6_parentsAmong_31 : decode cX6_parentsAmong 31 = .ok (.ifCond .eq 6, 3) := by decide +kernel
theorem dX6_parentsAmong_34 : decode cX6_parentsAmong 34 = .ok (.iinc 3 1, 3) := by decide +kernel
theorem dX6_parentsAmong_37 : decode cX6_parentsAmong 37 = .ok (.iinc 4 1, 3) := by decide +kernel
theorem dX6_parentsAmong_40 : decode cX6_parentsAmong 40 = .ok (.goto (-35), 3) := by decide +kernel
theorem dX6_parentsAmong_43 : decode cX6_parentsAmong 43 = .ok (.iload_n 3, 1) := by decide +kernel
theorem dX6_parentsAmong_44 : decode cX6_parentsAmong 44 = .ok (.ireturn, 1) := by decide +kernel
theorem dX6_seat_0 : decode cX6_seat 0 = .ok (.aload_n 1, 1) := by decide +kernel
theorem dX6_seat_1 : decode cX6_seat 1 = .ok (.getfield 19, 3) := by decide +kernel
theorem dX6_seat_4 : decode cX6_seat 4 = .ok (.astore_n 2, 1) := by decide +kernel
theorem dX6_seat_5 : decode cX6_seat 5 = .ok (.aload_n 1, 1) := by decide +kernel
theorem dX6_seat_6 : decode cX6_seat 6 = .ok (.invokevirtual 25, 3) := by decide +kernel
theorem dX6_seat_9 : decode cX6_seat 9 = .ok (.istore_n 3, 1) := by decide +kernel
theorem dX6_seat_10 : decode cX6_seat 10 = .ok (.aload_n 2, 1) := by decide +kernel
theorem dX6_seat_11 : decode cX6_seat 11 = .ok (.iload_n 3, 1) := by decide +kernel
theorem dX6_seat_12 : decode cX6_seat 12 = .ok (.iload_n 3, 1) := by decide +kernel
theorem dX6_seat_13 : decode cX6_seat 13 = .ok (.invokestatic 29, 3) := by decide +kernel
theorem dX6_seat_16 : decode cX6_seat 16 = .ok (.istore 4, 2) := by decide +kernel
theorem dX6_seat_18 : decode cX6_seat 18 = .ok (.iconst 0, 1) := by decide +kernel
theorem dX6_seat_19 : decode cX6_seat 19 = .ok (.istore 5, 2) := by decide +kernel
theorem dX6_seat_21 : decode cX6_seat 21 = .ok (.iconst (-1), 1) := by decide +kernel
theorem dX6_seat_22 : decode cX6_seat 22 = .ok (.istore 6, 2) := by decide +kernel
theorem dX6_seat_24 : decode cX6_seat 24 = .ok (.aload_n 0, 1) := by decide +kernel
theorem dX6_seat_25 : decode cX6_seat 25 = .ok (.iconst 0, 1) := by decide +kernel
theorem dX6_seat_26 : decode cX6_seat 26 = .ok (.putfield 15, 3) := by decide +kernel
theorem dX6_seat_29 : decode cX6_seat 29 = .ok (.iconst 0, 1) := by decide +kernel
theorem dX6_seat_30 : decode cX6_seat 30 = .ok (.istore 7, 2) := by decide +kernel
theorem dX6_seat_32 : decode cX6_seat 32 = .ok (.iload 7, 2) := by decide +kernel
theorem dX6_seat_34 : decode cX6_seat 34 = .ok (.aload_n 2, 1) := by decide +kernel
theorem dX6_seat_35 : decode cX6_seat 35 = .ok (.getfield 33, 3) := by decide +kernel
theorem dX6_seat_38 : decode cX6_seat 38 = .ok (.if_icmp .ge 92, 3) := by decide +kernel
theorem dX6_seat_41 : decode cX6_seat 41 = .ok (.iload_n 3, 1) := by decide +kernel
theorem dX6_seat_42 : decode cX6_seat 42 = .ok (.ifCond .eq 88, 3) := by decide +kernel
theorem dX6_seat_45 : decode cX6_seat 45 = .ok (.aload_n 2, 1) := by decide +kernel
theorem dX6_seat_46 : decode cX6_seat 46 = .ok (.iload_n 3, 1) := by decide +kernel
theorem dX6_seat_47 : decode cX6_seat 47 = .ok (.iload 6, 2) := by decide +kernel
theorem dX6_seat_49 : decode cX6_seat 49 = .ok (.iload 4, 2) := by decide +kernel
theorem dX6_seat_51 : decode cX6_seat 51 = .ok (.iload 5, 2) := by decide +kernel
theorem dX6_seat_53 : decode cX6_seat 53 = .ok (.isub, 1) := by decide +kernel
theorem dX6_seat_54 : decode cX6_seat 54 = .ok (.invokestatic 38, 3) := by decide +kernel
theorem dX6_seat_57 : decode cX6_seat 57 = .ok (.istore 8, 2) := by decide +kernel
theorem dX6_seat_59 : decode cX6_seat 59 = .ok (.iload 8, 2) := by decide +kernel
theorem dX6_seat_61 : decode cX6_seat 61 = .ok (.iconst (-1), 1) := by decide +kernel
theorem dX6_seat_62 : decode cX6_seat 62 = .ok (.if_icmp .eq 12, 3) := by decide +kernel
theorem dX6_seat_65 : decode cX6_seat 65 = .ok (.aload_n 0, 1) := by decide +kernel
theorem dX6_seat_66 : decode cX6_seat 66 = .ok (.getfield 15, 3) := by decide +kernel
theorem dX6_seat_69 : decode cX6_seat 69 = .ok (.bipush 7, 2) := by decide +kernel
theorem dX6_seat_71 : decode cX6_seat 71 = .ok (.if_icmp .lt 6, 3) := by decide +kernel
theorem dX6_seat_74 : decode cX6_seat 74 = .ok (.iload 5, 2) := by decide +kernel
theorem dX6_seat_76 : decode cX6_seat 76 = .ok (.ireturn, 1) := by decide +kernel
theorem dX6_seat_77 : decode cX6_seat 77 = .ok (.iload 5, 2) := by decide +kernel
theorem dX6_seat_79 : decode cX6_seat 79 = .ok (.aload_n 2, 1) := by decide +kernel
theorem dX6_seat_80 : decode cX6_seat 80 = .ok (.iload 8, 2) := by decide +kernel
theorem dX6_seat_82 : decode cX6_seat 82 = .ok (.iload 6, 2) := by decide +kernel
theorem dX6_seat_84 : decode cX6_seat 84 = .ok (.invokestatic 42, 3) := by decide +kernel
theorem dX6_seat_87 : decode cX6_seat 87 = .ok (.iadd, 1) := by decide +kernel
theorem dX6_seat_88 : decode cX6_seat 88 = .ok (.istore 5, 2) := by decide +kernel
theorem dX6_seat_90 : decode cX6_seat 90 = .ok (.aload_n 0, 1) := by decide +kernel
theorem dX6_seat_91 : decode cX6_seat 91 = .ok (.getfield 9, 3) := by decide +kernel
theorem dX6_seat_94 : decode cX6_seat 94 = .ok (.aload_n 0, 1) := by decide +kernel
theorem dX6_seat_95 : decode cX6_seat 95 = .ok (.getfield 15, 3) := by decide +kernel
theorem dX6_seat_98 : decode cX6_seat 98 = .ok (.iload 8, 2) := by decide +kernel
theorem dX6_seat_100 : decode cX6_seat 100 = .ok (.iastore, 1) := by decide +kernel
theorem dX6_seat_101 : decode cX6_seat 101 = .ok (.aload_n 0, 1) := by decide +kernel
theorem dX6_seat_102 : decode cX6_seat 102 = .ok (.dup, 1) := by decide +kernel
theorem dX6_seat_103 : decode cX6_seat 103 = .ok (.getfield 15, 3) := by decide +kernel
theorem dX6_seat_106 : decode cX6_seat 106 = .ok (.iconst 1, 1) := by decide +kernel
theorem dX6_seat_107 : decode cX6_seat 107 = .ok (.iadd, 1) := by decide +kernel
theorem dX6_seat_108 : decode cX6_seat 108 = .ok (.putfield 15, 3) := by decide +kernel
theorem dX6_seat_111 : decode cX6_seat 111 = .ok (.iload_n 3, 1) := by decide +kernel
theorem dX6_seat_112 : decode cX6_seat 112 = .ok (.iconst 1, 1) := by decide +kernel
theorem dX6_seat_113 : decode cX6_seat 113 = .ok (.iload 8, 2) := by decide +kernel
theorem dX6_seat_115 : decode cX6_seat 115 = .ok (.ishl, 1) := by decide +kernel
theorem dX6_seat_116 : decode cX6_seat 116 = .ok (.iconst (-1), 1) := by decide +kernel
theorem dX6_seat_117 : decode cX6_seat 117 = .ok (.ixor, 1) := by decide +kernel
theorem dX6_seat_118 : decode cX6_seat 118 = .ok (.iand, 1) := by decide +kernel
theorem dX6_seat_119 : decode cX6_seat 119 = .ok (.istore_n 3, 1) := by decide +kernel
theorem dX6_seat_120 : decode cX6_seat 120 = .ok (.iload 8, 2) := by decide +kernel
theorem dX6_seat_122 : decode cX6_seat 122 = .ok (.istore 6, 2) := by decide +kernel
theorem dX6_seat_124 : decode cX6_seat 124 = .ok (.iinc 7 1, 3) := by decide +kernel
theorem dX6_seat_127 : decode cX6_seat 127 = .ok (.goto (-95), 3) := by decide +kernel
theorem dX6_seat_130 : decode cX6_seat 130 = .ok (.iload 5, 2) := by decide +kernel
theorem dX6_seat_132 : decode cX6_seat 132 = .ok (.ireturn, 1) := by decide +kernel
theorem dX8_shareOf_0 : decode cX8_shareOf 0 = .ok (.iconst 0, 1) := by decide +kernel
theorem dX8_shareOf_1 : decode cX8_shareOf 1 = .ok (.istore 4, 2) := by decide +kernel
theorem dX8_shareOf_3 : decode cX8_shareOf 3 = .ok (.iconst 0, 1) := by decide +kernel
theorem dX8_shareOf_4 : decode cX8_shareOf 4 = .ok (.istore 5, 2) := by decide +kernel
theorem dX8_shareOf_6 : decode cX8_shareOf 6 = .ok (.iload 5, 2) := by decide +kernel
theorem dX8_shareOf_8 : decode cX8_shareOf 8 = .ok (.aload_n 0, 1) := by decide +kernel
theorem dX8_shareOf_9 : decode cX8_shareOf 9 = .ok (.getfield 28, 3) := by decide +kernel
theorem dX8_shareOf_12 : decode cX8_shareOf 12 = .ok (.if_icmp .ge 28, 3) := by decide +kernel
theorem dX8_shareOf_15 : decode cX8_shareOf 15 = .ok (.iload 4, 2) := by decide +kernel
theorem dX8_shareOf_17 : decode cX8_shareOf 17 = .ok (.iload_n 2, 1) := by decide +kernel
theorem dX8_shareOf_18 : decode cX8_shareOf 18 = .ok (.iload 5, 2) := by decide +kernel
theorem dX8_shareOf_20 : decode cX8_shareOf 20 = .ok (.ishr, 1) := by decide +kernel
theorem dX8_shareOf_21 : decode cX8_shareOf 21 = .ok (.iconst 1, 1) := by decide +kernel
theorem dX8_shareOf_22 : decode cX8_shareOf 22 = .ok (.iand, 1) := by decide +kernel
theorem dX8_shareOf_23 : decode cX8_shareOf 23 = .ok (.aload_n 0, 1) := by decide +kernel
theorem dX8_shareOf_24 : decode cX8_shareOf 24 = .ok (.getfield 15, 3) := by decide +kernel
theorem dX8_shareOf_27 : decode cX8_shareOf 27 = .ok (.iload 5, 2) := by decide +kernel
theorem dX8_shareOf_29 : decode cX8_shareOf 29 = .ok (.iaload, 1) := by decide +kernel
theorem dX8_shareOf_30 : decode cX8_shareOf 30 = .ok (.imul, 1) := by decide +kernel
theorem dX8_shareOf_31 : decode cX8_shareOf 31 = .ok (.iadd, 1) := by decide +kernel
theorem dX8_shareOf_32 : decode cX8_shareOf 32 = .ok (.istore 4, 2) := by decide +kernel
theorem dX8_shareOf_34 : decode cX8_shareOf 34 = .ok (.iinc 5 1, 3) := by decide +kernel
theorem dX8_shareOf_37 : decode cX8_shareOf 37 = .ok (.goto (-31), 3) := by decide +kernel
theorem dX8_shareOf_40 : decode cX8_shareOf 40 = .ok (.iload 4, 2) := by decide +kernel
theorem dX8_shareOf_42 : decode cX8_shareOf 42 = .ok (.ifCond .gt 5, 3) := by decide +kernel
theorem dX8_shareOf_45 : decode cX8_shareOf 45 = .ok (.iconst 0, 1) := by decide +kernel
theorem dX8_shareOf_46 : decode cX8_shareOf 46 = .ok (.ireturn, 1) := by decide +kernel
theorem dX8_shareOf_47 : decode cX8_shareOf 47 = .ok (.iload_n 1, 1) := by decide +kernel
theorem dX8_shareOf_48 : decode cX8_shareOf 48 = .ok (.istore 5, 2) := by decide +kernel
theorem dX8_shareOf_50 : decode cX8_shareOf 50 = .ok (.iconst 0, 1) := by decide +kernel
theorem dX8_shareOf_51 : decode cX8_shareOf 51 = .ok (.istore 6, 2) := by decide +kernel
theorem dX8_shareOf_53 : decode cX8_shareOf 53 = .ok (.iload_n 1, 1) := by decide +kernel
theorem dX8_shareOf_54 : decode cX8_shareOf 54 = .ok (.aload_n 0, 1) := by decide +kernel
theorem dX8_shareOf_55 : decode cX8_shareOf 55 = .ok (.getfield 15, 3) := by decide +kernel
theorem dX8_shareOf_58 : decode cX8_shareOf 58 = .ok (.iload_n 3, 1) := by decide +kernel
theorem dX8_shareOf_59 : decode cX8_shareOf 59 = .ok (.iaload, 1) := by decide +kernel
theorem dX8_shareOf_60 : decode cX8_shareOf 60 = .ok (.imul, 1) := by decide +kernel
theorem dX8_shareOf_61 : decode cX8_shareOf 61 = .ok (.iload 4, 2) := by decide +kernel
theorem dX8_shareOf_63 : decode cX8_shareOf 63 = .ok (.irem, 1) := by decide +kernel
theorem dX8_shareOf_64 : decode cX8_shareOf 64 = .ok (.istore 7, 2) := by decide +kernel
theorem dX8_shareOf_66 : decode cX8_shareOf 66 = .ok (.iconst 0, 1) := by decide +kernel
theorem dX8_shareOf_67 : decode cX8_shareOf 67 = .ok (.istore 8, 2) := by decide +kernel
theorem dX8_shareOf_69 : decode cX8_shareOf 69 = .ok (.iload 8, 2) := by decide +kernel
theorem dX8_shareOf_71 : decode cX8_shareOf 71 = .ok (.aload_n 0, 1) := by decide +kernel
theorem dX8_shareOf_72 : decode cX8_shareOf 72 = .ok (.getfield 28, 3) := by decide +kernel
theorem dX8_shareOf_75 : decode cX8_shareOf 75 = .ok (.if_icmp .ge 72, 3) := by decide +kernel
theorem dX8_shareOf_78 : decode cX8_shareOf 78 = .ok (.iload_n 2, 1) := by decide +kernel
theorem dX8_shareOf_79 : decode cX8_shareOf 79 = .ok (.iload 8, 2) := by decide +kernel
theorem dX8_shareOf_81 : decode cX8_shareOf 81 = .ok (.ishr, 1) := by decide +kernel
theorem dX8_shareOf_82 : decode cX8_shareOf 82 = .ok (.iconst 1, 1) := by decide +kernel
theorem dX8_shareOf_83 : decode cX8_shareOf 83 = .ok (.iand, 1) := by decide +kernel
theorem dX8_shareOf_84 : decode cX8_shareOf 84 = .ok (.ifCond .eq 57, 3) := by decide +kernel
theorem dX8_shareOf_87 : decode cX8_shareOf 87 = .ok (.iload_n 1, 1) := by decide +kernel
theorem dX8_shareOf_88 : decode cX8_shareOf 88 = .ok (.aload_n 0, 1) := by decide +kernel
theorem dX8_shareOf_89 : decode cX8_shareOf 89 = .ok (.getfield 15, 3) := by decide +kernel
theorem dX8_shareOf_92 : decode cX8_shareOf 92 = .ok (.iload 8, 2) := by decide +kernel
theorem dX8_shareOf_94 : decode cX8_shareOf 94 = .ok (.iaload, 1) := by decide +kernel
theorem dX8_shareOf_95 : decode cX8_shareOf 95 = .ok (.imul, 1) := by decide +kernel
theorem dX8_shareOf_96 : decode cX8_shareOf 96 = .ok (.iload 4, 2) := by decide +kernel
theorem dX8_shareOf_98 : decode cX8_shareOf 98 = .ok (.irem, 1) := by decide +kernel
theorem dX8_shareOf_99 : decode cX8_shareOf 99 = .ok (.istore 9, 2) := by decide +kernel
theorem dX8_shareOf_101 : decode cX8_shareOf 101 = .ok (.iload 5, 2) := by decide +kernel
theorem dX8_shareOf_103 : decode cX8_shareOf 103 = .ok (.iload_n 1, 1) := by decide +kernel
theorem dX8_shareOf_104 : decode cX8_shareOf 104 = .ok (.aload_n 0, 1) := by decide +kernel
theorem dX8_shareOf_105 : decode cX8_shareOf 105 = .ok (.getfield 15, 3) := by decide +kernel
theorem dX8_shareOf_108 : decode cX8_shareOf 108 = .ok (.iload 8, 2) := by decide +kernel
theorem dX8_shareOf_110 : decode cX8_shareOf 110 = .ok (.iaload, 1) := by decide +kernel
theorem dX8_shareOf_111 : decode cX8_shareOf 111 = .ok (.imul, 1) := by decide +kernel
theorem dX8_shareOf_112 : decode cX8_shareOf 112 = .ok (.iload 4, 2) := by decide +kernel
theorem dX8_shareOf_114 : decode cX8_shareOf 114 = .ok (.idiv, 1) := by decide +kernel
theorem dX8_shareOf_115 : decode cX8_shareOf 115 = .ok (.isub, 1) := by decide +kernel
theorem dX8_shareOf_116 : decode cX8_shareOf 116 = .ok (.istore 5, 2) := by decide +kernel
theorem dX8_shareOf_118 : decode cX8_shareOf 118 = .ok (.iload 9, 2) := by decide +kernel
theorem dX8_shareOf_120 : decode cX8_shareOf 120 = .ok (.iload 7, 2) := by decide +kernel
theorem dX8_shareOf_122 : decode cX8_shareOf 122 = .ok (.if_icmp .gt 16, 3) := by decide +kernel
theorem dX8_shareOf_125 : decode cX8_shareOf 125 = .ok (.iload 9, 2) := by decide +kernel
theorem dX8_shareOf_127 : decode cX8_shareOf 127 = .ok (.iload 7, 2) := by decide +kernel
theorem dX8_shareOf_129 : decode cX8_shareOf 129 = .ok (.if_icmp .ne 12, 3) := by decide +kernel
theorem dX8_shareOf_132 : decode cX8_shareOf 132 = .ok (.iload 8, 2) := by decide +kernel
theorem dX8_shareOf_134 : decode cX8_shareOf 134 = .ok (.iload_n 3, 1) := by decide +kernel
theorem dX8_shareOf_135 : decode cX8_shareOf 135 = .ok (.if_icmp .ge 6, 3) := by decide +kernel
theorem dX8_shareOf_138 : decode cX8_shareOf 138 = .ok (.iinc 6 1, 3) := by decide +kernel
theorem dX8_shareOf_141 : decode cX8_shareOf 141 = .ok (.iinc 8 1, 3) := by decide +kernel
theorem dX8_shareOf_144 : decode cX8_shareOf 144 = .ok (.goto (-75), 3) := by decide +kernel
theorem dX8_shareOf_147 : decode cX8_shareOf 147 = .ok (.iload_n 1, 1) := by decide +kernel
theorem dX8_shareOf_148 : decode cX8_shareOf 148 = .ok (.aload_n 0, 1) := by decide +kernel
theorem dX8_shareOf_149 : decode cX8_shareOf 149 = .ok (.getfield 15, 3) := by decide +kernel
theorem dX8_shareOf_152 : decode cX8_shareOf 152 = .ok (.iload_n 3, 1) := by decide +kernel
theorem dX8_shareOf_153 : decode cX8_shareOf 153 = .ok (.iaload, 1) := by decide +kernel
theorem dX8_shareOf_154 : decode cX8_shareOf 154 = .ok (.imul, 1) := by decide +kernel
theorem dX8_shareOf_155 : decode cX8_shareOf 155 = .ok (.iload 4, 2) := by decide +kernel
theorem dX8_shareOf_157 : decode cX8_shareOf 157 = .ok (.idiv, 1) := by decide +kernel
theorem dX8_shareOf_158 : decode cX8_shareOf 158 = .ok (.iload 6, 2) := by decide +kernel
theorem dX8_shareOf_160 : decode cX8_shareOf 160 = .ok (.iload 5, 2) := by decide +kernel
theorem dX8_shareOf_162 : decode cX8_shareOf 162 = .ok (.if_icmp .ge 7, 3) := by decide +kernel
theorem dX8_shareOf_165 : decode cX8_shareOf 165 = .ok (.iconst 1, 1) := by decide +kernel
theorem dX8_shareOf_166 : decode cX8_shareOf 166 = .ok (.goto 4, 3) := by decide +kernel
theorem dX8_shareOf_169 : decode cX8_shareOf 169 = .ok (.iconst 0, 1) := by decide +kernel
theorem dX8_shareOf_170 : decode cX8_shareOf 170 = .ok (.iadd, 1) := by decide +kernel
theorem dX8_shareOf_171 : decode cX8_shareOf 171 = .ok (.ireturn, 1) := by decide +kernel
theorem rc_255 : Rg 255 255 255 := ⟨by decide, by decide⟩
theorem rc_1000 : Rg 1000 1000 1000 := ⟨by decide, by decide⟩
set_option maxRecDepth 100000 in
set_option maxHeartbeats 8000000 in
theorem c_X10_byteOf {l : Launch} {D : va_G} {cy : Nat → ClassId} {L : List Nat} {κ ln : Nat → Nat} {R : Nat → Nat → Option Nat} {I : Nat → Nat → Int32} {J : Nat → Nat → Int64} {ow : Nat → Nat × Nat} (W9 : ∀ a ∈ L, Shp L κ ln R ow a) {x : Nat} (hLx : x ∈ L) (hkx : κ x = 10) (a0 : Int32) (ra0 : Rg 0 1 a0) (hU : Uv L κ ow I) : CtI l yX10_byteOf cX10_byteOf 2 (some .int) { frames := 0, cells := 0, slots := 0, locals := 0 } D cy L κ ln R I J [.ref x, .int a0] (fun r I2 J2 => I = I2 ∧ J = J2 ∧ Rg (-1) 255 r) := by
  refine CtI.of (by decide +kernel) (Nat.le_of_ble_eq_true rfl) ?_
  intro p e s m below meth c B K
  have C := B.1
  obtain ⟨b_408984, hb_408984, hb_408984L, hb_408984k, hb_408984n, hb_408984o⟩ := shp_a (W9 x hLx) hkx 0 13 940 rfl (by decide)
  refine g_lo (is := [0, 1]) (lo2 := [(0, .ref x), (1, .int a0)]) rfl ?_
  refine g_iload_n C 1 dX10_byteOf_0 rfl rfl ?_
  refine g_if_lt C (tgt := 34) dX10_byteOf_1 (by decide) (fun h_408985 => ?_) (fun h_408985 => ?_)
  · skip
    have r_408986 := lt_l (hi := (-1)) (h_408985) ra0 rc_0 (by decide)
    exact rg_no r_408986 (by decide)
  · skip
    refine g_iload_n C 1 dX10_byteOf_4 rfl rfl ?_
    refine g_aload_n C 0 dX10_byteOf_5 rfl rfl ?_
    obtain ⟨x_408987, hx_408987, rx_408987⟩ := ex_get (I := I) (a := x) (j := 5) (lo := 0) (hi := 940) hU hLx (ro_o hkx (by decide)) rfl
    refine g_getI C K hLx hkx f_10_29 (v := x_408987) hx_408987 dX10_byteOf_6 ?_
    refine g_icmp_ge C (tgt := 34) dX10_byteOf_9 (by decide) (fun h_408988 => ?_) (fun h_408988 => ?_)
    · skip
      have r_408989 := le_l (h_408988) rx_408987 ra0
      refine g_iconst C (v := (-1)) dX10_byteOf_34 (by decide) ?_
      exact g_zret (ty := .int) (r := (-1)) B K rfl (rfl) ⟨rfl, rfl, rg_w rc_m1 (by decide) (by decide)⟩ dX10_byteOf_35
    · skip
      have r_408990 := lt_r (lo := 1) (nle h_408988) ra0 rx_408987 (by decide)
      refine g_iload_n C 1 dX10_byteOf_12 rfl rfl ?_
      refine g_aload_n C 0 dX10_byteOf_13 rfl rfl ?_
      refine g_getR C K hLx hkx f_10_9 hb_408984 dX10_byteOf_14 ?_
      refine g_alenB C K hb_408984L hb_408984k (v := 940) (by rw [hb_408984n]; rfl) dX10_byteOf_17 ?_
      refine g_icmp_ge C (tgt := 34) dX10_byteOf_18 (by decide) (fun h_408991 => ?_) (fun h_408991 => ?_)
      · skip
        have r_408992 := le_r (h_408991) rc_940 ra0
        exact rg_no r_408992 (by decide)
      · skip
        refine g_aload_n C 0 dX10_byteOf_21 rfl rfl ?_
        refine g_getR C K hLx hkx f_10_9 hb_408984 dX10_byteOf_22 ?_
        refine g_iload_n C 1 dX10_byteOf_25 rfl rfl ?_
        obtain ⟨x_408993, hx_408993, rx_408993⟩ := ex_get (I := I) (a := b_408984) (j := a0.toNatClampNeg) (lo := (-128)) (hi := 127) hU hb_408984L (ro_a hb_408984k (by decide) hb_408984o hkx rfl) (rfl)
        refine h_bald C K hb_408984L hb_408984k (v := x_408993) (a0.toNatClampNeg) (rfl) (ix_0 ra0 (by decide)) (ix_lt ra0 (by decide) hb_408984n (by decide)) hx_408993 dX10_byteOf_26 ?_
        refine g_sipush C (v := 255) dX10_byteOf_27 (by decide) ?_
        obtain ⟨x_408994, hx_408994, rx_408994⟩ := ex_andr (x := x_408993) (y := 255) (b := 255) (rg_w rc_255 (by decide) (by decide))
        refine g_iand C (v := x_408994) dX10_byteOf_30 hx_408994 ?_
        refine g_goto C (tgt := 35) dX10_byteOf_31 (by decide) ?_
        exact g_zret (ty := .int) (r := x_408994) B K rfl (rfl) ⟨rfl, rfl, rg_w rx_408994 (by decide) (by decide)⟩ dX10_byteOf_35
set_option maxRecDepth 100000 in
set_option maxHeartbeats 8000000 in
theorem c_X2_countIn {l : Launch} {D : va_G} {cy : Nat → ClassId} {L : List Nat} {κ ln : Nat → Nat} {R : Nat → Nat → Option Nat} {I : Nat → Nat → Int32} {J : Nat → Nat → Int64} {ow : Nat → Nat × Nat} (W9 : ∀ a ∈ L, Shp L κ ln R ow a) {x : Nat} (hLx : x ∈ L) (hkx : κ x = 2) (a0 : Int32) (ra0 : Rg 0 127 a0) (hU : Uv L κ ow I) : CtV l yX2_countIn cX2_countIn 3 none { frames := 0, cells := 0, slots := 0, locals := 0 } D cy L κ ln R I J [.ref x, .int a0] (fun I2 J2 => Uv L κ ow I2 ∧ Fq L κ ow [22000] I I2 ∧ Fq L κ ow [] J J2) := by
  refine CtV.of (by decide +kernel) (Nat.le_of_ble_eq_true rfl) ?_
  intro p e s m below meth c B K
  have C := B.1
  have hF : Fq L κ ow [22000] I I := fq_rf
  have hG : Fq L κ ow [] J J := fq_rf
  obtain ⟨b_409086, hb_409086, hb_409086L, hb_409086k, hb_409086n, hb_409086o⟩ := shp_a (W9 x hLx) hkx 0 14 7 rfl (by decide)
  refine g_lo (is := [0, 1]) (lo2 := [(0, .ref x), (1, .int a0)]) rfl ?_
  have l_2 : ∀ (n_2 : Nat) (I_409087 : Nat → Nat → Int32) (J_409088 : Nat → Nat → Int64) (hU_409089 : Uv L κ ow I_409087) (hF_409090 : Fq L κ ow [22000] I I_409087) (hG_409091 : Fq L κ ow [] J J_409088) (v_409092 : Int32) (rv_409092 : Rg 0 127 v_409092) (v_409093 : Int32) (rv_409093 : Rg 0 7 v_409093) (hm_409094 : 7 < (v_409093 : Int32).toInt + (n_2 : Int)), WG p l e { frames := 0, cells := 0, slots := 0, locals := 0 } s m ([.ref x, .int a0] : List Value).toArray below meth c 3 0 0 (MQ below (Qv_ D cy L κ ln R (fun I2 J2 => Uv L κ ow I2 ∧ Fq L κ ow [22000] I I2 ∧ Fq L κ ow [] J J2)) ([.ref x, .int a0] : List Value).toArray s 0 0 (Al_ L)) D cy (Al_ L) s.heap L κ ln R I_409087 J_409088 2 [(0, .ref x), (1, .int v_409092), (2, .int v_409093)] [] := by
    intro n_2
    induction n_2 with
    | zero =>
      intro I_409087 J_409088 hU_409089 hF_409090 hG_409091 v_409092 rv_409092 v_409093 rv_409093 hm_409094
      exact ms_0 rv_409093 hm_409094
    | succ n_2 ih_2 =>
      intro I_409087 J_409088 hU_409089 hF_409090 hG_409091 v_409092 rv_409092 v_409093 rv_409093 hm_409094
      refine g_iload_n C 2 dX2_countIn_2 rfl rfl ?_
      refine g_bipush C (v := 7) dX2_countIn_3 (by decide) ?_
      refine g_icmp_ge C (tgt := 28) dX2_countIn_5 (by decide) (fun h_409095 => ?_) (fun h_409095 => ?_)
      · skip
        have r_409096 := le_r (h_409095) rc_7 rv_409093
        exact g_vret B K rfl ⟨hU_409089, hF_409090, hG_409091⟩ dX2_countIn_28
      · skip
        have r_409097 := lt_l (hi := 6) (nle h_409095) rv_409093 rc_7 (by decide)
        refine g_aload_n C 0 dX2_countIn_8 rfl rfl ?_
        refine g_getR C K hLx hkx f_2_9 hb_409086 dX2_countIn_9 ?_
        refine g_iload_n C 2 dX2_countIn_12 rfl rfl ?_
        refine g_dup2 C dX2_countIn_13 rfl rfl ?_
        obtain ⟨x_409098, hx_409098, rx_409098⟩ := ex_get (I := I_409087) (a := b_409086) (j := v_409093.toNatClampNeg) (lo := (-2147483648)) (hi := 2147483647) hU_409089 hb_409086L (ro_a hb_409086k (by decide) hb_409086o hkx rfl) (rfl)
        refine h_iald C K hb_409086L hb_409086k (v := x_409098) (v_409093.toNatClampNeg) (rfl) (ix_0 r_409097 (by decide)) (ix_lt r_409097 (by decide) hb_409086n (by decide)) hx_409098 dX2_countIn_14 ?_
        refine g_iload_n C 1 dX2_countIn_15 rfl rfl ?_
        refine g_iload_n C 2 dX2_countIn_16 rfl rfl ?_
        obtain ⟨x_409099, hx_409099, rx_409099⟩ := ex_shr (x := v_409092) (y := v_409093) (b := 127) (rv_409092)
        refine g_ishr C (v := x_409099) dX2_countIn_17 hx_409099 ?_
        refine g_iconst C (v := 1) dX2_countIn_18 (by decide) ?_
        obtain ⟨x_409100, hx_409100, rx_409100⟩ := ex_andr (x := x_409099) (y := 1) (b := 1) (rg_w rc_1 (by decide) (by decide))
        refine g_iand C (v := x_409100) dX2_countIn_19 hx_409100 ?_
        obtain ⟨x_409101, hx_409101, rx_409101⟩ := ex_any (z0 := x_409098 + x_409100)
        refine g_iadd C (v := x_409101) dX2_countIn_20 hx_409101 ?_
        refine h_iast C K hb_409086L hb_409086k (v_409093.toNatClampNeg) (rfl) (ix_0 r_409097 (by decide)) (ix_lt r_409097 (by decide) hb_409086n (by decide)) dX2_countIn_21 (fun I_409102 hI_409102 => ?_)
        have hU_409103 := uv_put hU_409089 hI_409102 (ro_a hb_409086k (by decide) hb_409086o hkx rfl) (lo := (-2147483648)) (hi := 2147483647) (rfl) (rx_409101)
        have hF_409104 := fq_puta hF_409090 hI_409102 (ro_a hb_409086k (by decide) hb_409086o hkx rfl) (by decide) (by decide)
        obtain ⟨x_409105, hx_409105, rx_409105, tx_409105⟩ := ex_add (y := 1) 1 7 r_409097 rc_1 (by decide) (by decide) (by decide) (by decide)
        refine g_iinc C dX2_countIn_22 (k := 2) (v := x_409105) rfl hx_409105 (by decide) (lo2 := [(2, .int x_409105), (0, .ref x), (1, .int v_409092)]) rfl ?_
        refine g_goto C (tgt := 2) dX2_countIn_25 (by decide) ?_
        refine g_lo (is := [1, 2, 0]) (lo2 := [(0, .ref x), (1, .int v_409092), (2, .int x_409105)]) rfl ?_
        exact ih_2 I_409102 J_409088 hU_409103 hF_409104 hG_409091 v_409092 (rv_409092) x_409105 (rg_w rx_409105 (by decide) (by decide)) (ms_1 hm_409094 (ti_k tx_409105 rc_1) (by decide))
  refine g_iconst C (v := 0) dX2_countIn_0 (by decide) ?_
  refine g_istore_n C dX2_countIn_1 rfl (by decide) (lo2 := [(2, .int 0), (0, .ref x), (1, .int a0)]) rfl ?_
  refine g_lo (is := [1, 2, 0]) (lo2 := [(0, .ref x), (1, .int a0), (2, .int 0)]) rfl ?_
  exact l_2 8 I J hU hF hG a0 (ra0) 0 (rg_w rc_0 (by decide) (by decide)) (ms_s (a := 0) (b := 7) (N := 8) (rg_w rc_0 (by decide) (by decide)) (by decide))
set_option maxRecDepth 100000 in
set_option maxHeartbeats 8000000 in
theorem c_J9_abs_0f7a4 {l : Launch} {D : va_G} {cy : Nat → ClassId} {L : List Nat} {κ ln : Nat → Nat} {R : Nat → Nat → Option Nat} {I : Nat → Nat → Int32} {J : Nat → Nat → Int64} {ow : Nat → Nat × Nat} (W9 : ∀ a ∈ L, Shp L κ ln R ow a) (a0 : Int32) (hU : Uv L κ ow I) : CtI l yJ9_abs_0f7a4 cJ9_abs_0f7a4 1 (some .int) { frames := 0, cells := 0, slots := 0, locals := 0 } D cy L κ ln R I J [.int a0] (fun r I2 J2 => I = I2 ∧ J = J2 ∧ Rg (-2147483648) 2147483647 r) := by
  refine CtI.of (by decide +kernel) (Nat.le_of_ble_eq_true rfl) ?_
  intro p e s m below meth c B K
  have C := B.1
  refine g_lo (is := [0]) (lo2 := [(0, .int a0)]) rfl ?_
  refine g_iload_n C 0 dJ9_abs_0f7a4_0 rfl rfl ?_
  refine g_if_ge C (tgt := 9) dJ9_abs_0f7a4_1 (by decide) (fun h_409114 => ?_) (fun h_409114 => ?_)
  · skip
    have r_409115 := le_r (h_409114) rc_0 (rg_all a0)
    refine g_iload_n C 0 dJ9_abs_0f7a4_9 rfl rfl ?_
    exact g_zret (ty := .int) (r := a0) B K rfl (rfl) ⟨rfl, rfl, rg_all _⟩ dJ9_abs_0f7a4_10
  · skip
    have r_409116 := lt_l (hi := (-1)) (nle h_409114) (rg_all a0) rc_0 (by decide)
    refine g_iload_n C 0 dJ9_abs_0f7a4_4 rfl rfl ?_
    obtain ⟨x_409117, hx_409117, rx_409117⟩ := ex_any (z0 := -a0)
    refine g_ineg C (v := x_409117) dJ9_abs_0f7a4_5 hx_409117 ?_
    refine g_goto C (tgt := 10) dJ9_abs_0f7a4_6 (by decide) ?_
    exact g_zret (ty := .int) (r := x_409117) B K rfl (rfl) ⟨rfl, rfl, rx_409117⟩ dJ9_abs_0f7a4_10
set_option maxRecDepth 100000 in
set_option maxHeartbeats 8000000 in
theorem c_X2_nearestToHalf {l : Launch} {D : va_G} {cy : Nat → ClassId} {L : List Nat} {κ ln : Nat → Nat} {R : Nat → Nat → Option Nat} {I : Nat → Nat → Int32} {J : Nat → Nat → Int64} {ow : Nat → Nat × Nat} (W9 : ∀ a ∈ L, Shp L κ ln R ow a) {x : Nat} (hLx : x ∈ L) (hkx : κ x = 2) (a0 : Int32) (a1 : Int32) (ra0 : Rg 0 7 a0) (ra1 : Rg 1 2147483647 a1) (hU : Uv L κ ow I) : CtI l yX2_nearestToHalf cX2_nearestToHalf 7 (some .int) { frames := 1, cells := 0, slots := 0, locals := 20 } D cy L κ ln R I J [.ref x, .int a0, .int a1] (fun r I2 J2 => I = I2 ∧ J = J2 ∧ Rg (-1) 6 r) := by
  refine CtI.of (by decide +kernel) (Nat.le_of_ble_eq_true rfl) ?_
  intro p e s m below meth c B K
  have C := B.1
  obtain ⟨b_409243, hb_409243, hb_409243L, hb_409243k, hb_409243n, hb_409243o⟩ := shp_a (W9 x hLx) hkx 0 14 7 rfl (by decide)
  refine g_lo (is := [0, 1, 2]) (lo2 := [(0, .ref x), (1, .int a0), (2, .int a1)]) rfl ?_
  have l_10 : ∀ (n_10 : Nat) (v_409244 : Int32) (rv_409244 : Rg 0 7 v_409244) (v_409245 : Int32) (rv_409245 : Rg 1 2147483647 v_409245) (v_409246 : Int32) (rv_409246 : Rg (-1) 6 v_409246) (v_409247 : Int32) (rv_409247 : Rg (-2147483648) 1000 v_409247) (v_409248 : Int32) (rv_409248 : Rg 0 7 v_409248) (hm_409249 : 7 < (v_409248 : Int32).toInt + (n_10 : Int)), WG p l e { frames := 1, cells := 0, slots := 0, locals := 20 } s m ([.ref x, .int a0, .int a1] : List Value).toArray below meth c 7 0 0 (MQ below (Qi_ D cy L κ ln R (fun r I2 J2 => I = I2 ∧ J = J2 ∧ Rg (-1) 6 r)) ([.ref x, .int a0, .int a1] : List Value).toArray s 0 0 (Al_ L)) D cy (Al_ L) s.heap L κ ln R I J 10 [(0, .ref x), (1, .int v_409244), (2, .int v_409245), (3, .int v_409246), (4, .int v_409247), (5, .int v_409248)] [] := by
    intro n_10
    induction n_10 with
    | zero =>
      intro v_409244 rv_409244 v_409245 rv_409245 v_409246 rv_409246 v_409247 rv_409247 v_409248 rv_409248 hm_409249
      exact ms_0 rv_409248 hm_409249
    | succ n_10 ih_10 =>
      intro v_409244 rv_409244 v_409245 rv_409245 v_409246 rv_409246 v_409247 rv_409247 v_409248 rv_409248 hm_409249
      have j_46 : ∀ (v_409250 : Int32) (rv_409250 : Rg 1 7 v_409250) (v_409251 : Int32) (rv_409251 : Rg 1 2147483647 v_409251) (v_409252 : Int32) (rv_409252 : Rg (-1) 6 v_409252) (v_409253 : Int32) (rv_409253 : Rg (-2147483648) 1000 v_409253) (v_409254 : Int32) (rv_409254 : Rg 0 6 v_409254) (v_409255 : Int32) (hm_409256 : 7 < (v_409254 : Int32).toInt + ((n_10 + 1 : Nat) : Int)), WG p l e { frames := 1, cells := 0, slots := 0, locals := 20 } s m ([.ref x, .int a0, .int a1] : List Value).toArray below meth c 7 0 0 (MQ below (Qi_ D cy L κ ln R (fun r I2 J2 => I = I2 ∧ J = J2 ∧ Rg (-1) 6 r)) ([.ref x, .int a0, .int a1] : List Value).toArray s 0 0 (Al_ L)) D cy (Al_ L) s.heap L κ ln R I J 46 [(0, .ref x), (1, .int v_409250), (2, .int v_409251), (3, .int v_409252), (4, .int v_409253), (5, .int v_409254), (6, .int v_409255)] [] := by
        intro v_409250 rv_409250 v_409251 rv_409251 v_409252 rv_409252 v_409253 rv_409253 v_409254 rv_409254 v_409255 hm_409256
        obtain ⟨x_409257, hx_409257, rx_409257, tx_409257⟩ := ex_add (y := 1) 1 7 rv_409254 rc_1 (by decide) (by decide) (by decide) (by decide)
        refine g_iinc C dX2_nearestToHalf_46 (k := 5) (v := x_409257) rfl hx_409257 (by decide) (lo2 := [(5, .int x_409257), (0, .ref x), (1, .int v_409250), (2, .int v_409251), (3, .int v_409252), (4, .int v_409253), (6, .int v_409255)]) rfl ?_
        refine g_goto C (tgt := 10) dX2_nearestToHalf_49 (by decide) ?_
        refine g_lo (is := [1, 2, 3, 4, 5, 0]) (lo2 := [(0, .ref x), (1, .int v_409250), (2, .int v_409251), (3, .int v_409252), (4, .int v_409253), (5, .int x_409257)]) rfl ?_
        exact ih_10 v_409250 (rg_w rv_409250 (by decide) (by decide)) v_409251 (rv_409251) v_409252 (rv_409252) v_409253 (rv_409253) x_409257 (rg_w rx_409257 (by decide) (by decide)) (ms_1 hm_409256 (ti_k tx_409257 rc_1) (by decide))
      refine g_iload C 5 dX2_nearestToHalf_10 rfl ?_
      refine g_iload_n C 1 dX2_nearestToHalf_12 rfl rfl ?_
      refine g_icmp_ge C (tgt := 52) dX2_nearestToHalf_13 (by decide) (fun h_409258 => ?_) (fun h_409258 => ?_)
      · skip
        refine g_iload_n C 3 dX2_nearestToHalf_52 rfl rfl ?_
        exact g_zret (ty := .int) (r := v_409246) B K rfl (rfl) ⟨rfl, rfl, rv_409246⟩ dX2_nearestToHalf_53
      · skip
        have r_409259 := lt_l (hi := 6) (nle h_409258) rv_409248 rv_409244 (by decide)
        have r_409260 := lt_r (lo := 1) (nle h_409258) rv_409248 rv_409244 (by decide)
        refine g_iconst C (v := 2) dX2_nearestToHalf_16 (by decide) ?_
        refine g_aload_n C 0 dX2_nearestToHalf_17 rfl rfl ?_
        refine g_getR C K hLx hkx f_2_9 hb_409243 dX2_nearestToHalf_18 ?_
        refine g_iload C 5 dX2_nearestToHalf_21 rfl ?_
        obtain ⟨x_409261, hx_409261, rx_409261⟩ := ex_get (I := I) (a := b_409243) (j := v_409248.toNatClampNeg) (lo := (-2147483648)) (hi := 2147483647) hU hb_409243L (ro_a hb_409243k (by decide) hb_409243o hkx rfl) (rfl)
        refine h_iald C K hb_409243L hb_409243k (v := x_409261) (v_409248.toNatClampNeg) (rfl) (ix_0 r_409259 (by decide)) (ix_lt r_409259 (by decide) hb_409243n (by decide)) hx_409261 dX2_nearestToHalf_23 ?_
        obtain ⟨x_409262, hx_409262, rx_409262⟩ := ex_any (z0 := 2 * x_409261)
        refine g_imul C (v := x_409262) dX2_nearestToHalf_24 hx_409262 ?_
        refine g_iload_n C 2 dX2_nearestToHalf_25 rfl rfl ?_
        obtain ⟨x_409263, hx_409263, rx_409263⟩ := ex_any (z0 := x_409262 - v_409245)
        refine g_isub C (v := x_409263) dX2_nearestToHalf_26 hx_409263 ?_
        refine g_callSI C K (c_J9_abs_0f7a4 W9 x_409263  hU) s_2_48 rfl ⟨rfl, rfl⟩ ⟨Nat.le_of_ble_eq_true rfl, Nat.le_of_ble_eq_true rfl⟩ (Nat.le_of_ble_eq_true rfl) ⟨Nat.le_of_ble_eq_true rfl, Nat.le_of_ble_eq_true rfl⟩ dX2_nearestToHalf_27 rfl (st := []) (fun x_409264 I_409265 J_409266 h_409267 => ?_)
        obtain ⟨rfl, rfl, rx_409264⟩ := h_409267
        refine g_istore C dX2_nearestToHalf_30 (by decide) (lo2 := [(6, .int x_409264), (0, .ref x), (1, .int v_409244), (2, .int v_409245), (3, .int v_409246), (4, .int v_409247), (5, .int v_409248)]) rfl ?_
        refine g_iload C 0 dX2_nearestToHalf_32 rfl ?_
        refine g_iload C 5 dX2_nearestToHalf_34 rfl ?_
        refine g_icmp_ge C (tgt := 46) dX2_nearestToHalf_36 (by decide) (fun h_409268 => ?_) (fun h_409268 => ?_)
        · skip
          refine g_lo (is := [1, 2, 3, 4, 5, 6, 0]) (lo2 := [(0, .ref x), (1, .int v_409244), (2, .int v_409245), (3, .int v_409246), (4, .int v_409247), (5, .int v_409248), (6, .int x_409264)]) rfl ?_
          exact j_46 v_409244 (r_409260) v_409245 (rv_409245) v_409246 (rv_409246) v_409247 (rv_409247) v_409248 (r_409259) x_409264 hm_409249
        · skip
          have r_409269 := lt_l (hi := 999) (nle h_409268) rx_409264 rv_409247 (by decide)
          have r_409270 := lt_r (lo := (-2147483647)) (nle h_409268) rx_409264 rv_409247 (by decide)
          refine g_iload C 0 dX2_nearestToHalf_39 rfl ?_
          refine g_istore C dX2_nearestToHalf_41 (by decide) (lo2 := [(4, .int x_409264), (6, .int x_409264), (0, .ref x), (1, .int v_409244), (2, .int v_409245), (3, .int v_409246), (5, .int v_409248)]) rfl ?_
          refine g_iload C 6 dX2_nearestToHalf_43 rfl ?_
          refine g_istore_n C dX2_nearestToHalf_45 rfl (by decide) (lo2 := [(3, .int v_409248), (4, .int x_409264), (6, .int x_409264), (0, .ref x), (1, .int v_409244), (2, .int v_409245), (5, .int v_409248)]) rfl ?_
          refine g_lo (is := [3, 4, 5, 0, 1, 6, 2]) (lo2 := [(0, .ref x), (1, .int v_409244), (2, .int v_409245), (3, .int v_409248), (4, .int x_409264), (5, .int v_409248), (6, .int x_409264)]) rfl ?_
          exact j_46 v_409244 (r_409260) v_409245 (rv_409245) v_409248 (rg_w r_409259 (by decide) (by decide)) x_409264 (rg_w r_409269 (by decide) (by decide)) v_409248 (r_409259) x_409264 hm_409249
  refine g_iconst C (v := (-1)) dX2_nearestToHalf_0 (by decide) ?_
  refine g_istore_n C dX2_nearestToHalf_1 rfl (by decide) (lo2 := [(3, .int (-1)), (0, .ref x), (1, .int a0), (2, .int a1)]) rfl ?_
  refine g_sipush C (v := 1000) dX2_nearestToHalf_2 (by decide) ?_
  refine g_istore C dX2_nearestToHalf_5 (by decide) (lo2 := [(4, .int 1000), (3, .int (-1)), (0, .ref x), (1, .int a0), (2, .int a1)]) rfl ?_
  refine g_iconst C (v := 0) dX2_nearestToHalf_7 (by decide) ?_
  refine g_istore C dX2_nearestToHalf_8 (by decide) (lo2 := [(5, .int 0), (4, .int 1000), (3, .int (-1)), (0, .ref x), (1, .int a0), (2, .int a1)]) rfl ?_
  refine g_lo (is := [3, 4, 5, 2, 1, 0]) (lo2 := [(0, .ref x), (1, .int a0), (2, .int a1), (3, .int (-1)), (4, .int 1000), (5, .int 0)]) rfl ?_
  exact l_10 8 a0 (ra0) a1 (ra1) (-1) (rg_w rc_m1 (by decide) (by decide)) 1000 (rg_w rc_1000 (by decide) (by decide)) 0 (rg_w rc_0 (by decide) (by decide)) (ms_s (a := 0) (b := 7) (N := 8) (rg_w rc_0 (by decide) (by decide)) (by decide))
set_option maxRecDepth 100000 in
set_option maxHeartbeats 8000000 in
theorem c_X11_surely {l : Launch} {D : va_G} {cy : Nat → ClassId} {L : List Nat} {κ ln : Nat → Nat} {R : Nat → Nat → Option Nat} {I : Nat → Nat → Int32} {J : Nat → Nat → Int64} {ow : Nat → Nat × Nat} (W9 : ∀ a ∈ L, Shp L κ ln R ow a) {x : Nat} (hLx : x ∈ L) (hkx : κ x = 11) (hU : Uv L κ ow I) : CtI l yX11_surely cX11_surely 1 (some .int) { frames := 0, cells := 0, slots := 0, locals := 0 } D cy L κ ln R I J [.ref x] (fun r I2 J2 => I = I2 ∧ J = J2 ∧ Rg (-2147483648) 2147483647 r) := by
  refine CtI.of (by decide +kernel) (Nat.le_of_ble_eq_true rfl) ?_
  intro p e s m below meth c B K
  have C := B.1
  obtain ⟨b_409275, hb_409275, hb_409275L, hb_409275k⟩ := shp_o (W9 x hLx) hkx 11 2 rfl (by decide)
  refine g_lo (is := [0]) (lo2 := [(0, .ref x)]) rfl ?_
  refine g_aload_n C 0 dX11_surely_0 rfl rfl ?_
  refine g_getR C K hLx hkx f_11_83 hb_409275 dX11_surely_1 ?_
  obtain ⟨x_409276, hx_409276, rx_409276⟩ := ex_get (I := I) (a := b_409275) (j := 1) (lo := (-2147483648)) (hi := 2147483647) hU hb_409275L (ro_o hb_409275k (by decide)) rfl
  refine g_getI C K hb_409275L hb_409275k f_11_282 (v := x_409276) hx_409276 dX11_surely_4 ?_
  exact g_zret (ty := .int) (r := x_409276) B K rfl (rfl) ⟨rfl, rfl, rx_409276⟩ dX11_surely_7
set_option maxRecDepth 100000 in
set_option maxHeartbeats 8000000 in
theorem c_X11_ask {l : Launch} {D : va_G} {cy : Nat → ClassId} {L : List Nat} {κ ln : Nat → Nat} {R : Nat → Nat → Option Nat} {I : Nat → Nat → Int32} {J : Nat → Nat → Int64} {ow : Nat → Nat × Nat} (W9 : ∀ a ∈ L, Shp L κ ln R ow a) {x : Nat} (hLx : x ∈ L) (hkx : κ x = 11) (hU : Uv L κ ow I) : CtI l yX11_ask cX11_ask 1 (some .int) { frames := 0, cells := 0, slots := 0, locals := 0 } D cy L κ ln R I J [.ref x] (fun r I2 J2 => I = I2 ∧ J = J2 ∧ Rg (-2147483648) 2147483647 r) := by
  refine CtI.of (by decide +kernel) (Nat.le_of_ble_eq_true rfl) ?_
  intro p e s m below meth c B K
  have C := B.1
  obtain ⟨b_409281, hb_409281, hb_409281L, hb_409281k⟩ := shp_o (W9 x hLx) hkx 11 2 rfl (by decide)
  refine g_lo (is := [0]) (lo2 := [(0, .ref x)]) rfl ?_
  refine g_aload_n C 0 dX11_ask_0 rfl rfl ?_
  refine g_getR C K hLx hkx f_11_83 hb_409281 dX11_ask_1 ?_
  obtain ⟨x_409282, hx_409282, rx_409282⟩ := ex_get (I := I) (a := b_409281) (j := 2) (lo := (-2147483648)) (hi := 2147483647) hU hb_409281L (ro_o hb_409281k (by decide)) rfl
  refine g_getI C K hb_409281L hb_409281k f_11_285 (v := x_409282) hx_409282 dX11_ask_4 ?_
  exact g_zret (ty := .int) (r := x_409282) B K rfl (rfl) ⟨rfl, rfl, rx_409282⟩ dX11_ask_7
set_option maxRecDepth 100000 in
set_option maxHeartbeats 8000000 in
theorem c_X8_shareOf {l : Launch} {D : va_G} {cy : Nat → ClassId} {L : List Nat} {κ ln : Nat → Nat} {R : Nat → Nat → Option Nat} {I : Nat → Nat → Int32} {J : Nat → Nat → Int64} {ow : Nat → Nat × Nat} (W9 : ∀ a ∈ L, Shp L κ ln R ow a) {x : Nat} (hLx : x ∈ L) (hkx : κ x = 8) (a0 : Int32) (a1 : Int32) (a2 : Int32) (ra2 : Rg 0 6 a2) (hU : Uv L κ ow I) : CtI l yX8_shareOf cX8_shareOf 10 (some .int) { frames := 0, cells := 0, slots := 0, locals := 0 } D cy L κ ln R I J [.ref x, .int a0, .int a1, .int a2] (fun r I2 J2 => I = I2 ∧ J = J2 ∧ Rg (-2147483648) 2147483647 r) := by
  refine CtI.of (by decide +kernel) (Nat.le_of_ble_eq_true rfl) ?_
  intro p e s m below meth c B K
  have C := B.1
  obtain ⟨b_411102, hb_411102, hb_411102L, hb_411102k, hb_411102n, hb_411102o⟩ := shp_a (W9 x hLx) hkx 1 14 7 rfl (by decide)
  refine g_lo (is := [0, 1, 2, 3]) (lo2 := [(0, .ref x), (1, .int a0), (2, .int a1), (3, .int a2)]) rfl ?_
  have l_69 : ∀ (n_69 : Nat) (v_411103 : Int32) (v_411104 : Int32) (v_411105 : Int32) (rv_411105 : Rg 0 6 v_411105) (v_411106 : Int32) (rv_411106 : Rg 1 2147483647 v_411106) (v_411107 : Int32) (v_411108 : Int32) (v_411109 : Int32) (v_411110 : Int32) (rv_411110 : Rg 0 7 v_411110) (v_411111 : Int32) (rv_411111 : Rg 0 7 v_411111) (q_411112 : I x 5 = v_411111) (hm_411113 : 7 < (v_411110 : Int32).toInt + (n_69 : Int)), WG p l e { frames := 0, cells := 0, slots := 0, locals := 0 } s m ([.ref x, .int a0, .int a1, .int a2] : List Value).toArray below meth c 10 0 0 (MQ below (Qi_ D cy L κ ln R (fun r I2 J2 => I = I2 ∧ J = J2 ∧ Rg (-2147483648) 2147483647 r)) ([.ref x, .int a0, .int a1, .int a2] : List Value).toArray s 0 0 (Al_ L)) D cy (Al_ L) s.heap L κ ln R I J 69 [(0, .ref x), (1, .int v_411103), (2, .int v_411104), (3, .int v_411105), (4, .int v_411106), (5, .int v_411107), (6, .int v_411108), (7, .int v_411109), (8, .int v_411110)] [] := by
    intro n_69
    induction n_69 with
    | zero =>
      intro v_411103 v_411104 v_411105 rv_411105 v_411106 rv_411106 v_411107 v_411108 v_411109 v_411110 rv_411110 v_411111 rv_411111 q_411112 hm_411113
      exact ms_0 rv_411110 hm_411113
    | succ n_69 ih_69 =>
      intro v_411103 v_411104 v_411105 rv_411105 v_411106 rv_411106 v_411107 v_411108 v_411109 v_411110 rv_411110 v_411111 rv_411111 q_411112 hm_411113
      have j_141 : ∀ (v_411114 : Int32) (v_411115 : Int32) (v_411116 : Int32) (rv_411116 : Rg 0 6 v_411116) (v_411117 : Int32) (rv_411117 : Rg 1 2147483647 v_411117) (v_411118 : Int32) (v_411119 : Int32) (v_411120 : Int32) (v_411121 : Int32) (rv_411121 : Rg 0 6 v_411121) (v_411122 : Int32) (rv_411122 : Rg 1 7 v_411122) (q_411123 : I x 5 = v_411122) (hm_411124 : 7 < (v_411121 : Int32).toInt + ((n_69 + 1 : Nat) : Int)), WG p l e { frames := 0, cells := 0, slots := 0, locals := 0 } s m ([.ref x, .int a0, .int a1, .int a2] : List Value).toArray below meth c 10 0 0 (MQ below (Qi_ D cy L κ ln R (fun r I2 J2 => I = I2 ∧ J = J2 ∧ Rg (-2147483648) 2147483647 r)) ([.ref x, .int a0, .int a1, .int a2] : List Value).toArray s 0 0 (Al_ L)) D cy (Al_ L) s.heap L κ ln R I J 141 [(0, .ref x), (1, .int v_411114), (2, .int v_411115), (3, .int v_411116), (4, .int v_411117), (5, .int v_411118), (6, .int v_411119), (7, .int v_411120), (8, .int v_411121)] [] := by
        intro v_411114 v_411115 v_411116 rv_411116 v_411117 rv_411117 v_411118 v_411119 v_411120 v_411121 rv_411121 v_411122 rv_411122 q_411123 hm_411124
        obtain ⟨x_411125, hx_411125, rx_411125, tx_411125⟩ := ex_add (y := 1) 1 7 rv_411121 rc_1 (by decide) (by decide) (by decide) (by decide)
        refine g_iinc C dX8_shareOf_141 (k := 8) (v := x_411125) rfl hx_411125 (by decide) (lo2 := [(8, .int x_411125), (0, .ref x), (1, .int v_411114), (2, .int v_411115), (3, .int v_411116), (4, .int v_411117), (5, .int v_411118), (6, .int v_411119), (7, .int v_411120)]) rfl ?_
        refine g_goto C (tgt := 69) dX8_shareOf_144 (by decide) ?_
        refine g_lo (is := [1, 2, 3, 4, 5, 6, 7, 8, 0]) (lo2 := [(0, .ref x), (1, .int v_411114), (2, .int v_411115), (3, .int v_411116), (4, .int v_411117), (5, .int v_411118), (6, .int v_411119), (7, .int v_411120), (8, .int x_411125)]) rfl ?_
        exact ih_69 v_411114 v_411115 v_411116 (rv_411116) v_411117 (rv_411117) v_411118 v_411119 v_411120 x_411125 (rg_w rx_411125 (by decide) (by decide)) v_411122 (rg_w rv_411122 (by decide) (by decide)) q_411123 (ms_1 hm_411124 (ti_k tx_411125 rc_1) (by decide))
      have j_138 : ∀ (v_411126 : Int32) (v_411127 : Int32) (v_411128 : Int32) (rv_411128 : Rg 0 6 v_411128) (v_411129 : Int32) (rv_411129 : Rg 1 2147483647 v_411129) (v_411130 : Int32) (v_411131 : Int32) (v_411132 : Int32) (v_411133 : Int32) (rv_411133 : Rg 0 6 v_411133) (v_411134 : Int32) (v_411135 : Int32) (rv_411135 : Rg 1 7 v_411135) (q_411136 : I x 5 = v_411135) (hm_411137 : 7 < (v_411133 : Int32).toInt + ((n_69 + 1 : Nat) : Int)), WG p l e { frames := 0, cells := 0, slots := 0, locals := 0 } s m ([.ref x, .int a0, .int a1, .int a2] : List Value).toArray below meth c 10 0 0 (MQ below (Qi_ D cy L κ ln R (fun r I2 J2 => I = I2 ∧ J = J2 ∧ Rg (-2147483648) 2147483647 r)) ([.ref x, .int a0, .int a1, .int a2] : List Value).toArray s 0 0 (Al_ L)) D cy (Al_ L) s.heap L κ ln R I J 138 [(0, .ref x), (1, .int v_411126), (2, .int v_411127), (3, .int v_411128), (4, .int v_411129), (5, .int v_411130), (6, .int v_411131), (7, .int v_411132), (8, .int v_411133), (9, .int v_411134)] [] := by
        intro v_411126 v_411127 v_411128 rv_411128 v_411129 rv_411129 v_411130 v_411131 v_411132 v_411133 rv_411133 v_411134 v_411135 rv_411135 q_411136 hm_411137
        obtain ⟨x_411138, hx_411138, rx_411138⟩ := ex_any (z0 := v_411131 + 1)
        refine g_iinc C dX8_shareOf_138 (k := 6) (v := x_411138) rfl hx_411138 (by decide) (lo2 := [(6, .int x_411138), (0, .ref x), (1, .int v_411126), (2, .int v_411127), (3, .int v_411128), (4, .int v_411129), (5, .int v_411130), (7, .int v_411132), (8, .int v_411133), (9, .int v_411134)]) rfl ?_
        refine g_lo (is := [1, 2, 3, 4, 5, 6, 0, 7, 8]) (lo2 := [(0, .ref x), (1, .int v_411126), (2, .int v_411127), (3, .int v_411128), (4, .int v_411129), (5, .int v_411130), (6, .int x_411138), (7, .int v_411132), (8, .int v_411133)]) rfl ?_
        exact j_141 v_411126 v_411127 v_411128 (rv_411128) v_411129 (rv_411129) v_411130 x_411138 v_411132 v_411133 (rv_411133) v_411135 (rv_411135) q_411136 hm_411137
      refine g_iload C 8 dX8_shareOf_69 rfl ?_
      refine g_aload_n C 0 dX8_shareOf_71 rfl rfl ?_
      refine g_getI C K hLx hkx f_8_28 (v := v_411111) q_411112 dX8_shareOf_72 ?_
      refine g_icmp_ge C (tgt := 147) dX8_shareOf_75 (by decide) (fun h_411139 => ?_) (fun h_411139 => ?_)
      · skip
        refine g_iload_n C 1 dX8_shareOf_147 rfl rfl ?_
        refine g_aload_n C 0 dX8_shareOf_148 rfl rfl ?_
        refine g_getR C K hLx hkx f_8_15 hb_411102 dX8_shareOf_149 ?_
        refine g_iload_n C 3 dX8_shareOf_152 rfl rfl ?_
        obtain ⟨x_411140, hx_411140, rx_411140⟩ := ex_get (I := I) (a := b_411102) (j := v_411105.toNatClampNeg) (lo := (-2147483648)) (hi := 2147483647) hU hb_411102L (ro_a hb_411102k (by decide) hb_411102o hkx rfl) (rfl)
        refine h_iald C K hb_411102L hb_411102k (v := x_411140) (v_411105.toNatClampNeg) (rfl) (ix_0 rv_411105 (by decide)) (ix_lt rv_411105 (by decide) hb_411102n (by decide)) hx_411140 dX8_shareOf_153 ?_
        obtain ⟨x_411141, hx_411141, rx_411141⟩ := ex_any (z0 := v_411103 * x_411140)
        refine g_imul C (v := x_411141) dX8_shareOf_154 hx_411141 ?_
        refine g_iload C 4 dX8_shareOf_155 rfl ?_
        obtain ⟨x_411142, hx_411142, rx_411142⟩ := ex_any (z0 := x_411141 / v_411106)
        refine g_idiv C (v := x_411142) dX8_shareOf_157 (rg_ne0 rv_411106 (by decide)) hx_411142 ?_
        refine g_iload C 6 dX8_shareOf_158 rfl ?_
        refine g_iload C 5 dX8_shareOf_160 rfl ?_
        refine g_icmp_ge C (tgt := 169) dX8_shareOf_162 (by decide) (fun h_411143 => ?_) (fun h_411143 => ?_)
        · skip
          refine g_iconst C (v := 0) dX8_shareOf_169 (by decide) ?_
          obtain ⟨x_411144, hx_411144, rx_411144, tx_411144⟩ := ex_add (-2147483648) 2147483647 rx_411142 rc_0 (by decide) (by decide) (by decide) (by decide)
          refine g_iadd C (v := x_411144) dX8_shareOf_170 hx_411144 ?_
          exact g_zret (ty := .int) (r := x_411144) B K rfl (rfl) ⟨rfl, rfl, rx_411144⟩ dX8_shareOf_171
        · skip
          have r_411145 := lt_l (hi := 2147483646) (nle h_411143) (rg_all v_411108) (rg_all v_411107) (by decide)
          have r_411146 := lt_r (lo := (-2147483647)) (nle h_411143) (rg_all v_411108) (rg_all v_411107) (by decide)
          refine g_iconst C (v := 1) dX8_shareOf_165 (by decide) ?_
          refine g_goto C (tgt := 170) dX8_shareOf_166 (by decide) ?_
          obtain ⟨x_411147, hx_411147, rx_411147⟩ := ex_any (z0 := x_411142 + 1)
          refine g_iadd C (v := x_411147) dX8_shareOf_170 hx_411147 ?_
          exact g_zret (ty := .int) (r := x_411147) B K rfl (rfl) ⟨rfl, rfl, rx_411147⟩ dX8_shareOf_171
      · skip
        have r_411148 := lt_l (hi := 6) (nle h_411139) rv_411110 rv_411111 (by decide)
        have r_411149 := lt_r (lo := 1) (nle h_411139) rv_411110 rv_411111 (by decide)
        refine g_iload_n C 2 dX8_shareOf_78 rfl rfl ?_
        refine g_iload C 8 dX8_shareOf_79 rfl ?_
        obtain ⟨x_411150, hx_411150, rx_411150⟩ := ex_any (z0 := v_411104 >>> (v_411110 &&& 31))
        refine g_ishr C (v := x_411150) dX8_shareOf_81 hx_411150 ?_
        refine g_iconst C (v := 1) dX8_shareOf_82 (by decide) ?_
        obtain ⟨x_411151, hx_411151, rx_411151⟩ := ex_andr (x := x_411150) (y := 1) (b := 1) (rg_w rc_1 (by decide) (by decide))
        refine g_iand C (v := x_411151) dX8_shareOf_83 hx_411151 ?_
        refine g_if_eq C (tgt := 141) dX8_shareOf_84 (by decide) (fun h_411152 => ?_) (fun h_411152 => ?_)
        · skip
          have r_411153 := (⟨(rx_411151).1, (eq_rg (h_411152) rc_0).2⟩ : Rg 0 0 x_411151)
          refine g_lo (is := [0, 1, 2, 3, 4, 5, 6, 7, 8]) (lo2 := [(0, .ref x), (1, .int v_411103), (2, .int v_411104), (3, .int v_411105), (4, .int v_411106), (5, .int v_411107), (6, .int v_411108), (7, .int v_411109), (8, .int v_411110)]) rfl ?_
          exact j_141 v_411103 v_411104 v_411105 (rv_411105) v_411106 (rv_411106) v_411107 v_411108 v_411109 v_411110 (r_411148) v_411111 (r_411149) q_411112 hm_411113
        · skip
          have n_411154 : ¬ x_411151 = 0 := h_411152
          have r_411155 := ne_lo (lo := 1) n_411154 rx_411151 rc_0 rfl (by decide)
          refine g_iload_n C 1 dX8_shareOf_87 rfl rfl ?_
          refine g_aload_n C 0 dX8_shareOf_88 rfl rfl ?_
          refine g_getR C K hLx hkx f_8_15 hb_411102 dX8_shareOf_89 ?_
          refine g_iload C 8 dX8_shareOf_92 rfl ?_
          obtain ⟨x_411156, hx_411156, rx_411156⟩ := ex_get (I := I) (a := b_411102) (j := v_411110.toNatClampNeg) (lo := (-2147483648)) (hi := 2147483647) hU hb_411102L (ro_a hb_411102k (by decide) hb_411102o hkx rfl) (rfl)
          refine h_iald C K hb_411102L hb_411102k (v := x_411156) (v_411110.toNatClampNeg) (rfl) (ix_0 r_411148 (by decide)) (ix_lt r_411148 (by decide) hb_411102n (by decide)) hx_411156 dX8_shareOf_94 ?_
          obtain ⟨x_411157, hx_411157, rx_411157⟩ := ex_any (z0 := v_411103 * x_411156)
          refine g_imul C (v := x_411157) dX8_shareOf_95 hx_411157 ?_
          refine g_iload C 4 dX8_shareOf_96 rfl ?_
          obtain ⟨x_411158, hx_411158, rx_411158⟩ := ex_any (z0 := x_411157 - x_411157 / v_411106 * v_411106)
          refine g_irem C (v := x_411158) dX8_shareOf_98 (rg_ne0 rv_411106 (by decide)) hx_411158 ?_
          refine g_istore C dX8_shareOf_99 (by decide) (lo2 := [(9, .int x_411158), (0, .ref x), (1, .int v_411103), (2, .int v_411104), (3, .int v_411105), (4, .int v_411106), (5, .int v_411107), (6, .int v_411108), (7, .int v_411109), (8, .int v_411110)]) rfl ?_
          refine g_iload C 6 dX8_shareOf_101 rfl ?_
          refine g_iload_n C 2 dX8_shareOf_103 rfl rfl ?_
          refine g_aload_n C 1 dX8_shareOf_104 rfl rfl ?_
          refine g_getR C K hLx hkx f_8_15 hb_411102 dX8_shareOf_105 ?_
          refine g_iload C 9 dX8_shareOf_108 rfl ?_
          obtain ⟨x_411159, hx_411159, rx_411159⟩ := ex_get (I := I) (a := b_411102) (j := v_411110.toNatClampNeg) (lo := (-2147483648)) (hi := 2147483647) hU hb_411102L (ro_a hb_411102k (by decide) hb_411102o hkx rfl) (rfl)
          refine h_iald C K hb_411102L hb_411102k (v := x_411159) (v_411110.toNatClampNeg) (rfl) (ix_0 r_411148 (by decide)) (ix_lt r_411148 (by decide) hb_411102n (by decide)) hx_411159 dX8_shareOf_110 ?_
          obtain ⟨x_411160, hx_411160, rx_411160⟩ := ex_any (z0 := v_411103 * x_411159)
          refine g_imul C (v := x_411160) dX8_shareOf_111 hx_411160 ?_
          refine g_iload C 5 dX8_shareOf_112 rfl ?_
          obtain ⟨x_411161, hx_411161, rx_411161⟩ := ex_any (z0 := x_411160 / v_411106)
          refine g_idiv C (v := x_411161) dX8_shareOf_114 (rg_ne0 rv_411106 (by decide)) hx_411161 ?_
          obtain ⟨x_411162, hx_411162, rx_411162⟩ := ex_any (z0 := v_411107 - x_411161)
          refine g_isub C (v := x_411162) dX8_shareOf_115 hx_411162 ?_
          refine g_istore C dX8_shareOf_116 (by decide) (lo2 := [(5, .int x_411162), (9, .int x_411158), (0, .ref x), (1, .int v_411103), (2, .int v_411104), (3, .int v_411105), (4, .int v_411106), (6, .int v_411108), (7, .int v_411109), (8, .int v_411110)]) rfl ?_
          refine g_iload C 1 dX8_shareOf_118 rfl ?_
          refine g_iload C 8 dX8_shareOf_120 rfl ?_
          refine g_icmp_gt C (tgt := 138) dX8_shareOf_122 (by decide) (fun h_411163 => ?_) (fun h_411163 => ?_)
          · skip
            have r_411164 := lt_l (hi := 2147483646) (h_411163) (rg_all v_411109) rx_411158 (by decide)
            have r_411165 := lt_r (lo := (-2147483647)) (h_411163) (rg_all v_411109) rx_411158 (by decide)
            refine g_lo (is := [2, 3, 4, 5, 6, 0, 7, 8, 9, 1]) (lo2 := [(0, .ref x), (1, .int v_411103), (2, .int v_411104), (3, .int v_411105), (4, .int v_411106), (5, .int x_411162), (6, .int v_411108), (7, .int v_411109), (8, .int v_411110), (9, .int x_411158)]) rfl ?_
            exact j_138 v_411103 v_411104 v_411105 (rv_411105) v_411106 (rv_411106) x_411162 v_411108 v_411109 v_411110 (r_411148) x_411158 v_411111 (r_411149) q_411112 hm_411113
          · skip
            refine g_iload C 1 dX8_shareOf_125 rfl ?_
            refine g_iload C 8 dX8_shareOf_127 rfl ?_
            refine g_icmp_ne C (tgt := 141) dX8_shareOf_129 (by decide) (fun h_411166 => ?_) (fun h_411166 => ?_)
            · skip
              refine g_lo (is := [2, 3, 4, 5, 6, 0, 7, 8, 9]) (lo2 := [(0, .ref x), (1, .int v_411103), (2, .int v_411104), (3, .int v_411105), (4, .int v_411106), (5, .int x_411162), (6, .int v_411108), (7, .int v_411109), (8, .int v_411110)]) rfl ?_
              exact j_141 v_411103 v_411104 v_411105 (rv_411105) v_411106 (rv_411106) x_411162 v_411108 v_411109 v_411110 (r_411148) v_411111 (r_411149) q_411112 hm_411113
            · skip
              refine g_iload C 9 dX8_shareOf_132 rfl ?_
              refine g_iload_n C 5 dX8_shareOf_134 rfl rfl ?_
              refine g_icmp_ge C (tgt := 141) dX8_shareOf_135 (by decide) (fun h_411167 => ?_) (fun h_411167 => ?_)
              · skip
                refine g_lo (is := [2, 3, 4, 5, 6, 0, 7, 8, 9]) (lo2 := [(0, .ref x), (1, .int v_411103), (2, .int v_411104), (3, .int v_411105), (4, .int v_411106), (5, .int x_411162), (6, .int v_411108), (7, .int v_411109), (8, .int v_411110)]) rfl ?_
                exact j_141 v_411103 v_411104 v_411105 (rv_411105) v_411106 (rv_411106) x_411162 v_411108 v_411109 v_411110 (r_411148) v_411111 (r_411149) q_411112 hm_411113
              · skip
                have r_411168 := lt_l (hi := 5) (nle h_411167) r_411148 rv_411105 (by decide)
                have r_411169 := lt_r (lo := 1) (nle h_411167) r_411148 rv_411105 (by decide)
                refine g_lo (is := [2, 3, 4, 5, 6, 0, 7, 8, 9, 1]) (lo2 := [(0, .ref x), (1, .int v_411103), (2, .int v_411104), (3, .int v_411105), (4, .int v_411106), (5, .int x_411162), (6, .int v_411108), (7, .int v_411109), (8, .int v_411110), (9, .int x_411158)]) rfl ?_
                exact j_138 v_411103 v_411104 v_411105 (rg_w r_411169 (by decide) (by decide)) v_411106 (rv_411106) x_411162 v_411108 v_411109 v_411110 (rg_w r_411168 (by decide) (by decide)) x_411158 v_411111 (r_411149) q_411112 hm_411113
  have l_6 : ∀ (n_6 : Nat) (v_411170 : Int32) (v_411171 : Int32) (v_411172 : Int32) (rv_411172 : Rg 0 6 v_411172) (v_411173 : Int32) (v_411174 : Int32) (rv_411174 : Rg 0 7 v_411174) (hm_411175 : 7 < (v_411174 : Int32).toInt + (n_6 : Int)), WG p l e { frames := 0, cells := 0, slots := 0, locals := 0 } s m ([.ref x, .int a0, .int a1, .int a2] : List Value).toArray below meth c 10 0 0 (MQ below (Qi_ D cy L κ ln R (fun r I2 J2 => I = I2 ∧ J = J2 ∧ Rg (-2147483648) 2147483647 r)) ([.ref x, .int a0, .int a1, .int a2] : List Value).toArray s 0 0 (Al_ L)) D cy (Al_ L) s.heap L κ ln R I J 6 [(0, .ref x), (1, .int v_411170), (2, .int v_411171), (3, .int v_411172), (4, .int v_411173), (5, .int v_411174)] [] := by
    intro n_6
    induction n_6 with
    | zero =>
      intro v_411170 v_411171 v_411172 rv_411172 v_411173 v_411174 rv_411174 hm_411175
      exact ms_0 rv_411174 hm_411175
    | succ n_6 ih_6 =>
      intro v_411170 v_411171 v_411172 rv_411172 v_411173 v_411174 rv_411174 hm_411175
      refine g_iload C 5 dX8_shareOf_6 rfl ?_
      refine g_aload_n C 0 dX8_shareOf_8 rfl rfl ?_
      obtain ⟨x_411176, hx_411176, rx_411176⟩ := ex_get (I := I) (a := x) (j := 5) (lo := 0) (hi := 7) hU hLx (ro_o hkx (by decide)) rfl
      refine g_getI C K hLx hkx f_8_28 (v := x_411176) hx_411176 dX8_shareOf_9 ?_
      refine g_icmp_ge C (tgt := 40) dX8_shareOf_12 (by decide) (fun h_411177 => ?_) (fun h_411177 => ?_)
      · skip
        refine g_iload C 4 dX8_shareOf_40 rfl ?_
        refine g_if_gt C (tgt := 47) dX8_shareOf_42 (by decide) (fun h_411178 => ?_) (fun h_411178 => ?_)
        · skip
          have r_411179 := lt_r (lo := 1) (h_411178) rc_0 (rg_all v_411173) (by decide)
          refine g_iload_n C 1 dX8_shareOf_47 rfl rfl ?_
          refine g_istore C dX8_shareOf_48 (by decide) (lo2 := [(5, .int v_411170), (0, .ref x), (1, .int v_411170), (2, .int v_411171), (3, .int v_411172), (4, .int v_411173)]) rfl ?_
          refine g_iconst C (v := 0) dX8_shareOf_50 (by decide) ?_
          refine g_istore C dX8_shareOf_51 (by decide) (lo2 := [(6, .int 0), (5, .int v_411170), (0, .ref x), (1, .int v_411170), (2, .int v_411171), (3, .int v_411172), (4, .int v_411173)]) rfl ?_
          refine g_iload_n C 3 dX8_shareOf_53 rfl rfl ?_
          refine g_aload_n C 2 dX8_shareOf_54 rfl rfl ?_
          refine g_getR C K hLx hkx f_8_15 hb_411102 dX8_shareOf_55 ?_
          refine g_iload_n C 5 dX8_shareOf_58 rfl rfl ?_
          obtain ⟨x_411180, hx_411180, rx_411180⟩ := ex_get (I := I) (a := b_411102) (j := v_411172.toNatClampNeg) (lo := (-2147483648)) (hi := 2147483647) hU hb_411102L (ro_a hb_411102k (by decide) hb_411102o hkx rfl) (rfl)
          refine h_iald C K hb_411102L hb_411102k (v := x_411180) (v_411172.toNatClampNeg) (rfl) (ix_0 rv_411172 (by decide)) (ix_lt rv_411172 (by decide) hb_411102n (by decide)) hx_411180 dX8_shareOf_59 ?_
          obtain ⟨x_411181, hx_411181, rx_411181⟩ := ex_any (z0 := v_411170 * x_411180)
          refine g_imul C (v := x_411181) dX8_shareOf_60 hx_411181 ?_
          refine g_iload C 6 dX8_shareOf_61 rfl ?_
          obtain ⟨x_411182, hx_411182, rx_411182⟩ := ex_any (z0 := x_411181 - x_411181 / v_411173 * v_411173)
          refine g_irem C (v := x_411182) dX8_shareOf_63 (rg_ne0 r_411179 (by decide)) hx_411182 ?_
          refine g_istore C dX8_shareOf_64 (by decide) (lo2 := [(7, .int x_411182), (6, .int 0), (5, .int v_411170), (0, .ref x), (1, .int v_411170), (2, .int v_411171), (3, .int v_411172), (4, .int v_411173)]) rfl ?_
          refine g_iconst C (v := 0) dX8_shareOf_66 (by decide) ?_
          refine g_istore C dX8_shareOf_67 (by decide) (lo2 := [(8, .int 0), (7, .int x_411182), (6, .int 0), (5, .int v_411170), (0, .ref x), (1, .int v_411170), (2, .int v_411171), (3, .int v_411172), (4, .int v_411173)]) rfl ?_
          refine g_lo (is := [4, 5, 6, 7, 8, 3, 2, 1, 0]) (lo2 := [(0, .ref x), (1, .int v_411170), (2, .int v_411171), (3, .int v_411172), (4, .int v_411173), (5, .int v_411170), (6, .int 0), (7, .int x_411182), (8, .int 0)]) rfl ?_
          exact l_69 8 v_411170 v_411171 v_411172 (rv_411172) v_411173 (r_411179) v_411170 0 x_411182 0 (rg_w rc_0 (by decide) (by decide)) x_411176 (rx_411176) hx_411176 (ms_s (a := 0) (b := 7) (N := 8) (rg_w rc_0 (by decide) (by decide)) (by decide))
        · skip
          have r_411183 := le_l (nlt h_411178) (rg_all v_411173) rc_0
          refine g_iconst C (v := 0) dX8_shareOf_45 (by decide) ?_
          exact g_zret (ty := .int) (r := 0) B K rfl (rfl) ⟨rfl, rfl, rg_all _⟩ dX8_shareOf_46
      · skip
        have r_411184 := lt_l (hi := 6) (nle h_411177) rv_411174 rx_411176 (by decide)
        have r_411185 := lt_r (lo := 1) (nle h_411177) rv_411174 rx_411176 (by decide)
        refine g_iload C 4 dX8_shareOf_15 rfl ?_
        refine g_iload_n C 2 dX8_shareOf_17 rfl rfl ?_
        refine g_iload C 5 dX8_shareOf_18 rfl ?_
        obtain ⟨x_411186, hx_411186, rx_411186⟩ := ex_any (z0 := v_411171 >>> (v_411174 &&& 31))
        refine g_ishr C (v := x_411186) dX8_shareOf_20 hx_411186 ?_
        refine g_iconst C (v := 1) dX8_shareOf_21 (by decide) ?_
        obtain ⟨x_411187, hx_411187, rx_411187⟩ := ex_andr (x := x_411186) (y := 1) (b := 1) (rg_w rc_1 (by decide) (by decide))
        refine g_iand C (v := x_411187) dX8_shareOf_22 hx_411187 ?_
        refine g_aload_n C 0 dX8_shareOf_23 rfl rfl ?_
        refine g_getR C K hLx hkx f_8_15 hb_411102 dX8_shareOf_24 ?_
        refine g_iload C 5 dX8_shareOf_27 rfl ?_
        obtain ⟨x_411188, hx_411188, rx_411188⟩ := ex_get (I := I) (a := b_411102) (j := v_411174.toNatClampNeg) (lo := (-2147483648)) (hi := 2147483647) hU hb_411102L (ro_a hb_411102k (by decide) hb_411102o hkx rfl) (rfl)
        refine h_iald C K hb_411102L hb_411102k (v := x_411188) (v_411174.toNatClampNeg) (rfl) (ix_0 r_411184 (by decide)) (ix_lt r_411184 (by decide) hb_411102n (by decide)) hx_411188 dX8_shareOf_29 ?_
        obtain ⟨x_411189, hx_411189, rx_411189⟩ := ex_any (z0 := x_411187 * x_411188)
        refine g_imul C (v := x_411189) dX8_shareOf_30 hx_411189 ?_
        obtain ⟨x_411190, hx_411190, rx_411190⟩ := ex_any (z0 := v_411173 + x_411189)
        refine g_iadd C (v := x_411190) dX8_shareOf_31 hx_411190 ?_
        refine g_istore C dX8_shareOf_32 (by decide) (lo2 := [(4, .int x_411190), (0, .ref x), (1, .int v_411170), (2, .int v_411171), (3, .int v_411172), (5, .int v_411174)]) rfl ?_
        obtain ⟨x_411191, hx_411191, rx_411191, tx_411191⟩ := ex_add (y := 1) 1 7 r_411184 rc_1 (by decide) (by decide) (by decide) (by decide)
        refine g_iinc C dX8_shareOf_34 (k := 5) (v := x_411191) rfl hx_411191 (by decide) (lo2 := [(5, .int x_411191), (4, .int x_411190), (0, .ref x), (1, .int v_411170), (2, .int v_411171), (3, .int v_411172)]) rfl ?_
        refine g_goto C (tgt := 6) dX8_shareOf_37 (by decide) ?_
        refine g_lo (is := [2, 3, 4, 5, 1, 0]) (lo2 := [(0, .ref x), (1, .int v_411170), (2, .int v_411171), (3, .int v_411172), (4, .int x_411190), (5, .int x_411191)]) rfl ?_
        exact ih_6 v_411170 v_411171 v_411172 (rv_411172) x_411190 x_411191 (rg_w rx_411191 (by decide) (by decide)) (ms_1 hm_411175 (ti_k tx_411191 rc_1) (by decide))
  refine g_iconst C (v := 0) dX8_shareOf_0 (by decide) ?_
  refine g_istore C dX8_shareOf_1 (by decide) (lo2 := [(4, .int 0), (0, .ref x), (1, .int a0), (2, .int a1), (3, .int a2)]) rfl ?_
  refine g_iconst C (v := 0) dX8_shareOf_3 (by decide) ?_
  refine g_istore C dX8_shareOf_4 (by decide) (lo2 := [(5, .int 0), (4, .int 0), (0, .ref x), (1, .int a0), (2, .int a1), (3, .int a2)]) rfl ?_
  refine g_lo (is := [2, 3, 4, 5, 1, 0]) (lo2 := [(0, .ref x), (1, .int a0), (2, .int a1), (3, .int a2), (4, .int 0), (5, .int 0)]) rfl ?_
  exact l_6 8 a0 a1 a2 (ra2) 0 0 (rg_w rc_0 (by decide) (by decide)) (ms_s (a := 0) (b := 7) (N := 8) (rg_w rc_0 (by decide) (by decide)) (by decide))
set_option maxRecDepth 100000 in
set_option maxHeartbeats 8000000 in
theorem c_X11_share {l : Launch} {D : va_G} {cy : Nat → ClassId} {L : List Nat} {κ ln : Nat → Nat} {R : Nat → Nat → Option Nat} {I : Nat → Nat → Int32} {J : Nat → Nat → Int64} {ow : Nat → Nat × Nat} (W9 : ∀ a ∈ L, Shp L κ ln R ow a) {x : Nat} (hLx : x ∈ L) (hkx : κ x = 11) (a0 : Int32) (a1 : Int32) (a2 : Int32) (hU : Uv L κ ow I) : CtI l yX11_share cX11_share 5 (some .int) { frames := 1, cells := 0, slots := 0, locals := 29 } D cy L κ ln R I J [.ref x, .int a0, .int a1, .int a2] (fun r I2 J2 => I = I2 ∧ J = J2 ∧ Rg (-2147483648) 2147483647 r) := by
  refine CtI.of (by decide +kernel) (Nat.le_of_ble_eq_true rfl) ?_
  intro p e s m below meth c B K
  have C := B.1
  obtain ⟨b_411278, hb_411278, hb_411278L, hb_411278k⟩ := shp_o (W9 x hLx) hkx 1 8 rfl (by decide)
  obtain ⟨b_411279, hb_411279, hb_411279L, hb_411279k⟩ := shp_o (W9 x hLx) hkx 2 1 rfl (by decide)
  obtain ⟨b_411280, hb_411280, hb_411280L, hb_411280k, hb_411280n, hb_411280o⟩ := shp_a (W9 b_411279 hb_411279L) hb_411279k 1 14 6 rfl (by decide)
  refine g_lo (is := [0, 1, 2, 3]) (lo2 := [(0, .ref x), (1, .int a0), (2, .int a1), (3, .int a2)]) rfl ?_
  have j_40 : ∀ (v_411281 : Int32) (v_411282 : Int32) (v_411283 : Int32), WG p l e { frames := 1, cells := 0, slots := 0, locals := 29 } s m ([.ref x, .int a0, .int a1, .int a2] : List Value).toArray below meth c 5 0 0 (MQ below (Qi_ D cy L κ ln R (fun r I2 J2 => I = I2 ∧ J = J2 ∧ Rg (-2147483648) 2147483647 r)) ([.ref x, .int a0, .int a1, .int a2] : List Value).toArray s 0 0 (Al_ L)) D cy (Al_ L) s.heap L κ ln R I J 40 [(0, .ref x), (1, .int v_411281), (2, .int v_411282), (3, .int v_411283)] [] := by
    intro v_411281 v_411282 v_411283
    refine g_iconst C (v := 0) dX11_share_40 (by decide) ?_
    refine g_istore C dX11_share_41 (by decide) (lo2 := [(4, .int 0), (0, .ref x), (1, .int v_411281), (2, .int v_411282), (3, .int v_411283)]) rfl ?_
    refine g_iload C 0 dX11_share_43 rfl ?_
    refine g_if_eq C (tgt := 56) dX11_share_45 (by decide) (fun h_411284 => ?_) (fun h_411284 => ?_)
    · skip
      refine g_iconst C (v := (-1)) dX11_share_56 (by decide) ?_
      exact g_zret (ty := .int) (r := (-1)) B K rfl (rfl) ⟨rfl, rfl, rg_all _⟩ dX11_share_57
    · skip
      exact absurd h_411284 (by decide)
  refine g_aload_n C 0 dX11_share_0 rfl rfl ?_
  refine g_getR C K hLx hkx f_11_19 hb_411278 dX11_share_1 ?_
  refine g_iload_n C 1 dX11_share_4 rfl rfl ?_
  refine g_callVI C K (c_X8_hasDish W9 hb_411278L hb_411278k a0  hU) hb_411278L hb_411278k (by decide) rfl v_11_175 rfl ⟨rfl, rfl⟩ ⟨Nat.le_of_ble_eq_true rfl, Nat.le_of_ble_eq_true rfl⟩ (Nat.le_of_ble_eq_true rfl) ⟨Nat.le_of_ble_eq_true rfl, Nat.le_of_ble_eq_true rfl⟩ dX11_share_5 rfl (st := []) (fun x_411285 I_411286 J_411287 h_411288 => ?_)
  obtain ⟨rfl, rfl, rx_411285, ex_411285⟩ := h_411288
  refine g_if_eq C (tgt := 40) dX11_share_8 (by decide) (fun h_411289 => ?_) (fun h_411289 => ?_)
  · skip
    have r_411290 := (⟨(rx_411285).1, (eq_rg (h_411289) rc_0).2⟩ : Rg 0 0 x_411285)
    refine g_lo (is := [0, 1, 2, 3]) (lo2 := [(0, .ref x), (1, .int a0), (2, .int a1), (3, .int a2)]) rfl ?_
    exact j_40 a0 a1 a2
  · skip
    have n_411291 : ¬ x_411285 = 0 := h_411289
    have r_411292 := ne_lo (lo := 1) n_411291 rx_411285 rc_0 rfl (by decide)
    have r_411293 := rg_i (rg_all a0) ((ex_411285) (rg_nz r_411292 (by decide))) (lo := 0) (hi := 5) (by decide) (by decide)
    refine g_aload_n C 0 dX11_share_11 rfl rfl ?_
    refine g_getR C K hLx hkx f_11_19 hb_411278 dX11_share_12 ?_
    refine g_iload_n C 3 dX11_share_15 rfl rfl ?_
    refine g_callVI C K (c_X8_hasPerson W9 hb_411278L hb_411278k a2  hU) hb_411278L hb_411278k (by decide) rfl v_11_133 rfl ⟨rfl, rfl⟩ ⟨Nat.le_of_ble_eq_true rfl, Nat.le_of_ble_eq_true rfl⟩ (Nat.le_of_ble_eq_true rfl) ⟨Nat.le_of_ble_eq_true rfl, Nat.le_of_ble_eq_true rfl⟩ dX11_share_16 rfl (st := []) (fun x_411294 I_411295 J_411296 h_411297 => ?_)
    obtain ⟨rfl, rfl, rx_411294, ex_411294⟩ := h_411297
    refine g_if_eq C (tgt := 40) dX11_share_19 (by decide) (fun h_411298 => ?_) (fun h_411298 => ?_)
    · skip
      have r_411299 := (⟨(rx_411294).1, (eq_rg (h_411298) rc_0).2⟩ : Rg 0 0 x_411294)
      refine g_lo (is := [0, 1, 2, 3]) (lo2 := [(0, .ref x), (1, .int a0), (2, .int a1), (3, .int a2)]) rfl ?_
      exact j_40 a0 a1 a2
    · skip
      have n_411300 : ¬ x_411294 = 0 := h_411298
      have r_411301 := ne_lo (lo := 1) n_411300 rx_411294 rc_0 rfl (by decide)
      have r_411302 := rg_i (rg_all a2) ((ex_411294) (rg_nz r_411301 (by decide))) (lo := 0) (hi := 6) (by decide) (by decide)
      refine g_iload_n C 2 dX11_share_22 rfl rfl ?_
      refine g_aload_n C 0 dX11_share_23 rfl rfl ?_
      refine g_getR C K hLx hkx f_11_19 hb_411278 dX11_share_24 ?_
      refine g_callVI C K (c_X8_everybody W9 hb_411278L hb_411278k   hU) hb_411278L hb_411278k (by decide) rfl v_11_188 rfl ⟨rfl, rfl⟩ ⟨Nat.le_of_ble_eq_true rfl, Nat.le_of_ble_eq_true rfl⟩ (Nat.le_of_ble_eq_true rfl) ⟨Nat.le_of_ble_eq_true rfl, Nat.le_of_ble_eq_true rfl⟩ dX11_share_27 rfl (st := [.int a1]) (fun x_411303 I_411304 J_411305 h_411306 => ?_)
      obtain ⟨rfl, rfl, rx_411303⟩ := h_411306
      refine g_iconst C (v := (-1)) dX11_share_30 (by decide) ?_
      obtain ⟨x_411307, hx_411307, rx_411307⟩ := ex_any (z0 := x_411303 ^^^ (-1))
      refine g_ixor C (v := x_411307) dX11_share_31 hx_411307 ?_
      obtain ⟨x_411308, hx_411308, rx_411308⟩ := ex_any (z0 := a1 &&& x_411307)
      refine g_iand C (v := x_411308) dX11_share_32 hx_411308 ?_
      refine g_if_ne C (tgt := 40) dX11_share_33 (by decide) (fun h_411309 => ?_) (fun h_411309 => ?_)
      · skip
        have n_411310 : ¬ x_411308 = 0 := h_411309
        refine g_lo (is := [0, 1, 2, 3]) (lo2 := [(0, .ref x), (1, .int a0), (2, .int a1), (3, .int a2)]) rfl ?_
        exact j_40 a0 a1 a2
      · skip
        have r_411311 := (⟨(eq_rg (h_411309) rc_0).1, (eq_rg (h_411309) rc_0).2⟩ : Rg 0 0 x_411308)
        refine g_iconst C (v := 1) dX11_share_36 (by decide) ?_
        refine g_goto C (tgt := 41) dX11_share_37 (by decide) ?_
        refine g_istore C dX11_share_41 (by decide) (lo2 := [(4, .int 1), (0, .ref x), (1, .int a0), (2, .int a1), (3, .int a2)]) rfl ?_
        refine g_iload C 0 dX11_share_43 rfl ?_
        refine g_if_eq C (tgt := 56) dX11_share_45 (by decide) (fun h_411312 => ?_) (fun h_411312 => ?_)
        · skip
          exact absurd h_411312 (by decide)
        · skip
          refine g_iload_n C 3 dX11_share_48 rfl rfl ?_
          refine g_iload_n C 4 dX11_share_49 rfl rfl ?_
          obtain ⟨x_411313, hx_411313, rx_411313⟩ := ex_any (z0 := a1 >>> (a2 &&& 31))
          refine g_ishr C (v := x_411313) dX11_share_50 hx_411313 ?_
          refine g_iconst C (v := 1) dX11_share_51 (by decide) ?_
          obtain ⟨x_411314, hx_411314, rx_411314⟩ := ex_andr (x := x_411313) (y := 1) (b := 1) (rg_w rc_1 (by decide) (by decide))
          refine g_iand C (v := x_411314) dX11_share_52 hx_411314 ?_
          refine g_if_ne C (tgt := 58) dX11_share_53 (by decide) (fun h_411315 => ?_) (fun h_411315 => ?_)
          · skip
            have n_411316 : ¬ x_411314 = 0 := h_411315
            have r_411317 := ne_lo (lo := 1) n_411316 rx_411314 rc_0 rfl (by decide)
            refine g_aload_n C 1 dX11_share_58 rfl rfl ?_
            refine g_getR C K hLx hkx f_11_19 hb_411278 dX11_share_59 ?_
            refine g_aload_n C 1 dX11_share_62 rfl rfl ?_
            refine g_getR C K hLx hkx f_11_28 hb_411279 dX11_share_63 ?_
            refine g_getR C K hb_411279L hb_411279k f_11_182 hb_411280 dX11_share_66 ?_
            refine g_iload_n C 2 dX11_share_69 rfl rfl ?_
            obtain ⟨x_411318, hx_411318, rx_411318⟩ := ex_get (I := I) (a := b_411280) (j := a0.toNatClampNeg) (lo := (-2147483648)) (hi := 2147483647) hU hb_411280L (ro_a hb_411280k (by decide) hb_411280o hb_411279k rfl) (rfl)
            refine h_iald C K hb_411280L hb_411280k (v := x_411318) (a0.toNatClampNeg) (rfl) (ix_0 r_411293 (by decide)) (ix_lt r_411293 (by decide) hb_411280n (by decide)) hx_411318 dX11_share_70 ?_
            refine g_iload_n C 3 dX11_share_71 rfl rfl ?_
            refine g_iload_n C 4 dX11_share_72 rfl rfl ?_
            refine g_callVI C K (c_X8_shareOf W9 hb_411278L hb_411278k x_411318 a1 a2 (r_411302) hU) hb_411278L hb_411278k (by decide) rfl v_11_288 rfl ⟨rfl, rfl⟩ ⟨Nat.le_of_ble_eq_true rfl, Nat.le_of_ble_eq_true rfl⟩ (Nat.le_of_ble_eq_true rfl) ⟨Nat.le_of_ble_eq_true rfl, Nat.le_of_ble_eq_true rfl⟩ dX11_share_73 rfl (st := []) (fun x_411319 I_411320 J_411321 h_411322 => ?_)
            obtain ⟨rfl, rfl, rx_411319⟩ := h_411322
            exact g_zret (ty := .int) (r := x_411319) B K rfl (rfl) ⟨rfl, rfl, rx_411319⟩ dX11_share_76
          · skip
            have r_411323 := (⟨(rx_411314).1, (eq_rg (h_411315) rc_0).2⟩ : Rg 0 0 x_411314)
            refine g_iconst C (v := (-1)) dX11_share_56 (by decide) ?_
            exact g_zret (ty := .int) (r := (-1)) B K rfl (rfl) ⟨rfl, rfl, rg_all _⟩ dX11_share_57
set_option maxRecDepth 100000 in
set_option maxHeartbeats 8000000 in
theorem c_X11_last {l : Launch} {D : va_G} {cy : Nat → ClassId} {L : List Nat} {κ ln : Nat → Nat} {R : Nat → Nat → Option Nat} {I : Nat → Nat → Int32} {J : Nat → Nat → Int64} {ow : Nat → Nat × Nat} (W9 : ∀ a ∈ L, Shp L κ ln R ow a) {x : Nat} (hLx : x ∈ L) (hkx : κ x = 11) (a0 : Int32) (hU : Uv L κ ow I) : CtI l yX11_last cX11_last 2 (some .int) { frames := 1, cells := 0, slots := 0, locals := 21 } D cy L κ ln R I J [.ref x, .int a0] (fun r I2 J2 => I = I2 ∧ J = J2 ∧ Rg (-2147483648) 2147483647 r) := by
  refine CtI.of (by decide +kernel) (Nat.le_of_ble_eq_true rfl) ?_
  intro p e s m below meth c B K
  have C := B.1
  obtain ⟨b_411362, hb_411362, hb_411362L, hb_411362k⟩ := shp_o (W9 x hLx) hkx 1 8 rfl (by decide)
  obtain ⟨b_411363, hb_411363, hb_411363L, hb_411363k⟩ := shp_o (W9 x hLx) hkx 2 1 rfl (by decide)
  obtain ⟨b_411364, hb_411364, hb_411364L, hb_411364k, hb_411364n, hb_411364o⟩ := shp_a (W9 b_411363 hb_411363L) hb_411363k 1 14 6 rfl (by decide)
  refine g_lo (is := [0, 1]) (lo2 := [(0, .ref x), (1, .int a0)]) rfl ?_
  refine g_aload_n C 0 dX11_last_0 rfl rfl ?_
  refine g_getR C K hLx hkx f_11_19 hb_411362 dX11_last_1 ?_
  refine g_iload_n C 1 dX11_last_4 rfl rfl ?_
  refine g_callVI C K (c_X8_hasDish W9 hb_411362L hb_411362k a0  hU) hb_411362L hb_411362k (by decide) rfl v_11_175 rfl ⟨rfl, rfl⟩ ⟨Nat.le_of_ble_eq_true rfl, Nat.le_of_ble_eq_true rfl⟩ (Nat.le_of_ble_eq_true rfl) ⟨Nat.le_of_ble_eq_true rfl, Nat.le_of_ble_eq_true rfl⟩ dX11_last_5 rfl (st := []) (fun x_411365 I_411366 J_411367 h_411368 => ?_)
  obtain ⟨rfl, rfl, rx_411365, ex_411365⟩ := h_411368
  refine g_if_ne C (tgt := 13) dX11_last_8 (by decide) (fun h_411369 => ?_) (fun h_411369 => ?_)
  · skip
    have n_411370 : ¬ x_411365 = 0 := h_411369
    have r_411371 := ne_lo (lo := 1) n_411370 rx_411365 rc_0 rfl (by decide)
    have r_411372 := rg_i (rg_all a0) ((ex_411365) (rg_nz r_411371 (by decide))) (lo := 0) (hi := 5) (by decide) (by decide)
    refine g_aload_n C 0 dX11_last_13 rfl rfl ?_
    refine g_getR C K hLx hkx f_11_28 hb_411363 dX11_last_14 ?_
    refine g_getR C K hb_411363L hb_411363k f_11_182 hb_411364 dX11_last_17 ?_
    refine g_iload_n C 1 dX11_last_20 rfl rfl ?_
    obtain ⟨x_411373, hx_411373, rx_411373⟩ := ex_get (I := I) (a := b_411364) (j := a0.toNatClampNeg) (lo := (-2147483648)) (hi := 2147483647) hU hb_411364L (ro_a hb_411364k (by decide) hb_411364o hb_411363k rfl) (rfl)
    refine h_iald C K hb_411364L hb_411364k (v := x_411373) (a0.toNatClampNeg) (rfl) (ix_0 r_411372 (by decide)) (ix_lt r_411372 (by decide) hb_411364n (by decide)) hx_411373 dX11_last_21 ?_
    refine g_if_ne C (tgt := 29) dX11_last_22 (by decide) (fun h_411374 => ?_) (fun h_411374 => ?_)
    · skip
      have n_411375 : ¬ x_411373 = 0 := h_411374
      refine g_aload_n C 0 dX11_last_29 rfl rfl ?_
      refine g_getR C K hLx hkx f_11_28 hb_411363 dX11_last_30 ?_
      refine g_getR C K hb_411363L hb_411363k f_11_182 hb_411364 dX11_last_33 ?_
      refine g_iload_n C 1 dX11_last_36 rfl rfl ?_
      obtain ⟨x_411376, hx_411376, rx_411376⟩ := ex_get (I := I) (a := b_411364) (j := a0.toNatClampNeg) (lo := (-2147483648)) (hi := 2147483647) hU hb_411364L (ro_a hb_411364k (by decide) hb_411364o hb_411363k rfl) (rfl)
      refine h_iald C K hb_411364L hb_411364k (v := x_411376) (a0.toNatClampNeg) (rfl) (ix_0 r_411372 (by decide)) (ix_lt r_411372 (by decide) hb_411364n (by decide)) hx_411376 dX11_last_37 ?_
      refine g_iconst C (v := 3) dX11_last_38 (by decide) ?_
      obtain ⟨x_411377, hx_411377, rx_411377⟩ := ex_any (z0 := x_411376 + 3)
      refine g_iadd C (v := x_411377) dX11_last_39 hx_411377 ?_
      refine g_iconst C (v := 4) dX11_last_40 (by decide) ?_
      obtain ⟨x_411378, hx_411378, rx_411378⟩ := ex_any (z0 := x_411377 - x_411377 / 4 * 4)
      refine g_irem C (v := x_411378) dX11_last_41 (rg_ne0 rc_4 (by decide)) hx_411378 ?_
      exact g_zret (ty := .int) (r := x_411378) B K rfl (rfl) ⟨rfl, rfl, rx_411378⟩ dX11_last_42
    · skip
      have r_411379 := (⟨(eq_rg (h_411374) rc_0).1, (eq_rg (h_411374) rc_0).2⟩ : Rg 0 0 x_411373)
      refine g_iconst C (v := 0) dX11_last_25 (by decide) ?_
      refine g_goto C (tgt := 42) dX11_last_26 (by decide) ?_
      exact g_zret (ty := .int) (r := 0) B K rfl (rfl) ⟨rfl, rfl, rg_all _⟩ dX11_last_42
  · skip
    have r_411380 := (⟨(rx_411365).1, (eq_rg (h_411369) rc_0).2⟩ : Rg 0 0 x_411365)
    refine g_iconst C (v := (-1)) dX11_last_11 (by decide) ?_
    exact g_zret (ty := .int) (r := (-1)) B K rfl (rfl) ⟨rfl, rfl, rg_all _⟩ dX11_last_12
set_option maxRecDepth 100000 in
set_option maxHeartbeats 8000000 in
theorem c_X6_isChild {l : Launch} {D : va_G} {cy : Nat → ClassId} {L : List Nat} {κ ln : Nat → Nat} {R : Nat → Nat → Option Nat} {I : Nat → Nat → Int32} {J : Nat → Nat → Int64} {ow : Nat → Nat × Nat} (W9 : ∀ a ∈ L, Shp L κ ln R ow a) {a0 : Nat} (hLa0 : a0 ∈ L) (hka0 : κ a0 = 8) (a1 : Int32) (a2 : Int32) (ra1 : Rg 0 6 a1) (ra2 : Rg (-1) 6 a2) (hU : Uv L κ ow I) : CtI l yX6_isChild cX6_isChild 3 (some .int) { frames := 0, cells := 0, slots := 0, locals := 0 } D cy L κ ln R I J [.ref a0, .int a1, .int a2] (fun r I2 J2 => I = I2 ∧ J = J2 ∧ Rg 0 1 r) := by
  refine CtI.of (by decide +kernel) (Nat.le_of_ble_eq_true rfl) ?_
  intro p e s m below meth c B K
  have C := B.1
  obtain ⟨b_411397, hb_411397, hb_411397L, hb_411397k, hb_411397n, hb_411397o⟩ := shp_a (W9 a0 hLa0) hka0 2 14 7 rfl (by decide)
  refine g_lo (is := [0, 1, 2]) (lo2 := [(0, .ref a0), (1, .int a1), (2, .int a2)]) rfl ?_
  refine g_iload_n C 2 dX6_isChild_0 rfl rfl ?_
  refine g_iconst C (v := (-1)) dX6_isChild_1 (by decide) ?_
  refine g_icmp_eq C (tgt := 19) dX6_isChild_2 (by decide) (fun h_411398 => ?_) (fun h_411398 => ?_)
  · skip
    have r_411399 := (⟨(ra2).1, (eq_rg (h_411398) rc_m1).2⟩ : Rg (-1) (-1) a2)
    refine g_iconst C (v := 0) dX6_isChild_19 (by decide) ?_
    exact g_zret (ty := .int) (r := 0) B K rfl (rfl) ⟨rfl, rfl, rg_w rc_0 (by decide) (by decide)⟩ dX6_isChild_20
  · skip
    have n_411400 : ¬ a2 = (-1) := h_411398
    have r_411401 := ne_lo (lo := 0) n_411400 ra2 rc_m1 rfl (by decide)
    refine g_aload_n C 0 dX6_isChild_5 rfl rfl ?_
    refine g_getR C K hLa0 hka0 f_6_45 hb_411397 dX6_isChild_6 ?_
    refine g_iload_n C 1 dX6_isChild_9 rfl rfl ?_
    obtain ⟨x_411402, hx_411402, rx_411402⟩ := ex_get (I := I) (a := b_411397) (j := a1.toNatClampNeg) (lo := (-1)) (hi := 6) hU hb_411397L (ro_a hb_411397k (by decide) hb_411397o hka0 rfl) (rfl)
    refine h_iald C K hb_411397L hb_411397k (v := x_411402) (a1.toNatClampNeg) (rfl) (ix_0 ra1 (by decide)) (ix_lt ra1 (by decide) hb_411397n (by decide)) hx_411402 dX6_isChild_10 ?_
    refine g_iload_n C 2 dX6_isChild_11 rfl rfl ?_
    refine g_icmp_ne C (tgt := 19) dX6_isChild_12 (by decide) (fun h_411403 => ?_) (fun h_411403 => ?_)
    · skip
      refine g_iconst C (v := 0) dX6_isChild_19 (by decide) ?_
      exact g_zret (ty := .int) (r := 0) B K rfl (rfl) ⟨rfl, rfl, rg_w rc_0 (by decide) (by decide)⟩ dX6_isChild_20
    · skip
      have r_411404 := (⟨(eq_rg (h_411403) r_411401).1, (rx_411402).2⟩ : Rg 0 6 x_411402)
      refine g_iconst C (v := 1) dX6_isChild_15 (by decide) ?_
      refine g_goto C (tgt := 20) dX6_isChild_16 (by decide) ?_
      exact g_zret (ty := .int) (r := 1) B K rfl (rfl) ⟨rfl, rfl, rg_w rc_1 (by decide) (by decide)⟩ dX6_isChild_20
set_option maxRecDepth 100000 in
set_option maxHeartbeats 8000000 in
theorem c_X6_parentsAmong {l : Launch} {D : va_G} {cy : Nat → ClassId} {L : List Nat} {κ ln : Nat → Nat} {R : Nat → Nat → Option Nat} {I : Nat → Nat → Int32} {J : Nat → Nat → Int64} {ow : Nat → Nat × Nat} (W9 : ∀ a ∈ L, Shp L κ ln R ow a) {a0 : Nat} (hLa0 : a0 ∈ L) (hka0 : κ a0 = 8) (a1 : Int32) (a2 : Int32) (ra1 : Rg 0 127 a1) (ra2 : Rg 0 127 a2) (hU : Uv L κ ow I) : CtI l yX6_parentsAmong cX6_parentsAmong 5 (some .int) { frames := 1, cells := 0, slots := 0, locals := 23 } D cy L κ ln R I J [.ref a0, .int a1, .int a2] (fun r I2 J2 => I = I2 ∧ J = J2 ∧ Rg (-2147483648) 2147483647 r) := by
  refine CtI.of (by decide +kernel) (Nat.le_of_ble_eq_true rfl) ?_
  intro p e s m below meth c B K
  have C := B.1
  refine g_lo (is := [0, 1, 2]) (lo2 := [(0, .ref a0), (1, .int a1), (2, .int a2)]) rfl ?_
  have l_5 : ∀ (n_5 : Nat) (v_412473 : Int32) (rv_412473 : Rg 0 127 v_412473) (v_412474 : Int32) (rv_412474 : Rg 0 127 v_412474) (v_412475 : Int32) (v_412476 : Int32) (rv_412476 : Rg 0 7 v_412476) (hm_412477 : 7 < (v_412476 : Int32).toInt + (n_5 : Int)), WG p l e { frames := 1, cells := 0, slots := 0, locals := 23 } s m ([.ref a0, .int a1, .int a2] : List Value).toArray below meth c 5 0 0 (MQ below (Qi_ D cy L κ ln R (fun r I2 J2 => I = I2 ∧ J = J2 ∧ Rg (-2147483648) 2147483647 r)) ([.ref a0, .int a1, .int a2] : List Value).toArray s 0 0 (Al_ L)) D cy (Al_ L) s.heap L κ ln R I J 5 [(0, .ref a0), (1, .int v_412473), (2, .int v_412474), (3, .int v_412475), (4, .int v_412476)] [] := by
    intro n_5
    induction n_5 with
    | zero =>
      intro v_412473 rv_412473 v_412474 rv_412474 v_412475 v_412476 rv_412476 hm_412477
      exact ms_0 rv_412476 hm_412477
    | succ n_5 ih_5 =>
      intro v_412473 rv_412473 v_412474 rv_412474 v_412475 v_412476 rv_412476 hm_412477
      have j_37 : ∀ (v_412478 : Int32) (rv_412478 : Rg 0 127 v_412478) (v_412479 : Int32) (rv_412479 : Rg 0 127 v_412479) (v_412480 : Int32) (v_412481 : Int32) (rv_412481 : Rg 0 6 v_412481) (v_412482 : Int32) (rv_412482 : Rg 1 7 v_412482) (q_412483 : I a0 5 = v_412482) (hm_412484 : 7 < (v_412481 : Int32).toInt + ((n_5 + 1 : Nat) : Int)), WG p l e { frames := 1, cells := 0, slots := 0, locals := 23 } s m ([.ref a0, .int a1, .int a2] : List Value).toArray below meth c 5 0 0 (MQ below (Qi_ D cy L κ ln R (fun r I2 J2 => I = I2 ∧ J = J2 ∧ Rg (-2147483648) 2147483647 r)) ([.ref a0, .int a1, .int a2] : List Value).toArray s 0 0 (Al_ L)) D cy (Al_ L) s.heap L κ ln R I J 37 [(0, .ref a0), (1, .int v_412478), (2, .int v_412479), (3, .int v_412480), (4, .int v_412481)] [] := by
        intro v_412478 rv_412478 v_412479 rv_412479 v_412480 v_412481 rv_412481 v_412482 rv_412482 q_412483 hm_412484
        obtain ⟨x_412485, hx_412485, rx_412485, tx_412485⟩ := ex_add (y := 1) 1 7 rv_412481 rc_1 (by decide) (by decide) (by decide) (by decide)
        refine g_iinc C dX6_parentsAmong_37 (k := 4) (v := x_412485) rfl hx_412485 (by decide) (lo2 := [(4, .int x_412485), (0, .ref a0), (1, .int v_412478), (2, .int v_412479), (3, .int v_412480)]) rfl ?_
        refine g_goto C (tgt := 5) dX6_parentsAmong_40 (by decide) ?_
        refine g_lo (is := [1, 2, 3, 4, 0]) (lo2 := [(0, .ref a0), (1, .int v_412478), (2, .int v_412479), (3, .int v_412480), (4, .int x_412485)]) rfl ?_
        exact ih_5 v_412478 (rv_412478) v_412479 (rv_412479) v_412480 x_412485 (rg_w rx_412485 (by decide) (by decide)) (ms_1 hm_412484 (ti_k tx_412485 rc_1) (by decide))
      refine g_iload C 4 dX6_parentsAmong_5 rfl ?_
      refine g_aload_n C 0 dX6_parentsAmong_7 rfl rfl ?_
      obtain ⟨x_412486, hx_412486, rx_412486⟩ := ex_get (I := I) (a := a0) (j := 5) (lo := 0) (hi := 7) hU hLa0 (ro_o hka0 (by decide)) rfl
      refine g_getI C K hLa0 hka0 f_6_33 (v := x_412486) hx_412486 dX6_parentsAmong_8 ?_
      refine g_icmp_ge C (tgt := 43) dX6_parentsAmong_11 (by decide) (fun h_412487 => ?_) (fun h_412487 => ?_)
      · skip
        refine g_iload_n C 3 dX6_parentsAmong_43 rfl rfl ?_
        exact g_zret (ty := .int) (r := v_412475) B K rfl (rfl) ⟨rfl, rfl, (rg_all v_412475)⟩ dX6_parentsAmong_44
      · skip
        have r_412488 := lt_l (hi := 6) (nle h_412487) rv_412476 rx_412486 (by decide)
        have r_412489 := lt_r (lo := 1) (nle h_412487) rv_412476 rx_412486 (by decide)
        refine g_iload_n C 1 dX6_parentsAmong_14 rfl rfl ?_
        refine g_iload C 4 dX6_parentsAmong_15 rfl ?_
        obtain ⟨x_412490, hx_412490, rx_412490⟩ := ex_shr (x := v_412473) (y := v_412476) (b := 127) (rv_412473)
        refine g_ishr C (v := x_412490) dX6_parentsAmong_17 hx_412490 ?_
        refine g_iconst C (v := 1) dX6_parentsAmong_18 (by decide) ?_
        obtain ⟨x_412491, hx_412491, rx_412491⟩ := ex_andr (x := x_412490) (y := 1) (b := 1) (rg_w rc_1 (by decide) (by decide))
        refine g_iand C (v := x_412491) dX6_parentsAmong_19 hx_412491 ?_
        refine g_if_eq C (tgt := 37) dX6_parentsAmong_20 (by decide) (fun h_412492 => ?_) (fun h_412492 => ?_)
        · skip
          have r_412493 := (⟨(rx_412491).1, (eq_rg (h_412492) rc_0).2⟩ : Rg 0 0 x_412491)
          refine g_lo (is := [0, 1, 2, 3, 4]) (lo2 := [(0, .ref a0), (1, .int v_412473), (2, .int v_412474), (3, .int v_412475), (4, .int v_412476)]) rfl ?_
          exact j_37 v_412473 (rv_412473) v_412474 (rv_412474) v_412475 v_412476 (r_412488) x_412486 (r_412489) hx_412486 hm_412477
        · skip
          have n_412494 : ¬ x_412491 = 0 := h_412492
          have r_412495 := ne_lo (lo := 1) n_412494 rx_412491 rc_0 rfl (by decide)
          refine g_aload_n C 0 dX6_parentsAmong_23 rfl rfl ?_
          refine g_iload C 4 dX6_parentsAmong_24 rfl ?_
          refine g_callVI C K (c_X8_childrenOf W9 hLa0 hka0 v_412476 (r_412488) hU) hLa0 hka0 (by decide) rfl v_6_48 rfl ⟨rfl, rfl⟩ ⟨Nat.le_of_ble_eq_true rfl, Nat.le_of_ble_eq_true rfl⟩ (Nat.le_of_ble_eq_true rfl) ⟨Nat.le_of_ble_eq_true rfl, Nat.le_of_ble_eq_true rfl⟩ dX6_parentsAmong_26 rfl (st := []) (fun x_412496 I_412497 J_412498 h_412499 => ?_)
          obtain ⟨rfl, rfl, rx_412496⟩ := h_412499
          refine g_iload_n C 2 dX6_parentsAmong_29 rfl rfl ?_
          obtain ⟨x_412500, hx_412500, rx_412500⟩ := ex_andl (x := x_412496) (y := v_412474) (b := 127) (rx_412496)
          refine g_iand C (v := x_412500) dX6_parentsAmong_30 hx_412500 ?_
          refine g_if_eq C (tgt := 37) dX6_parentsAmong_31 (by decide) (fun h_412501 => ?_) (fun h_412501 => ?_)
          · skip
            have r_412502 := (⟨(rx_412500).1, (eq_rg (h_412501) rc_0).2⟩ : Rg 0 0 x_412500)
            refine g_lo (is := [0, 1, 2, 3, 4]) (lo2 := [(0, .ref a0), (1, .int v_412473), (2, .int v_412474), (3, .int v_412475), (4, .int v_412476)]) rfl ?_
            exact j_37 v_412473 (rv_412473) v_412474 (rv_412474) v_412475 v_412476 (r_412488) x_412486 (r_412489) hx_412486 hm_412477
          · skip
            have n_412503 : ¬ x_412500 = 0 := h_412501
            have r_412504 := ne_lo (lo := 1) n_412503 rx_412500 rc_0 rfl (by decide)
            obtain ⟨x_412505, hx_412505, rx_412505⟩ := ex_any (z0 := v_412475 + 1)
            refine g_iinc C dX6_parentsAmong_34 (k := 3) (v := x_412505) rfl hx_412505 (by decide) (lo2 := [(3, .int x_412505), (0, .ref a0), (1, .int v_412473), (2, .int v_412474), (4, .int v_412476)]) rfl ?_
            refine g_lo (is := [1, 2, 3, 0, 4]) (lo2 := [(0, .ref a0), (1, .int v_412473), (2, .int v_412474), (3, .int x_412505), (4, .int v_412476)]) rfl ?_
            exact j_37 v_412473 (rv_412473) v_412474 (rv_412474) x_412505 v_412476 (r_412488) x_412486 (r_412489) hx_412486 hm_412477
  refine g_iconst C (v := 0) dX6_parentsAmong_0 (by decide) ?_
  refine g_istore_n C dX6_parentsAmong_1 rfl (by decide) (lo2 := [(3, .int 0), (0, .ref a0), (1, .int a1), (2, .int a2)]) rfl ?_
  refine g_iconst C (v := 0) dX6_parentsAmong_2 (by decide) ?_
  refine g_istore C dX6_parentsAmong_3 (by decide) (lo2 := [(4, .int 0), (3, .int 0), (0, .ref a0), (1, .int a1), (2, .int a2)]) rfl ?_
  refine g_lo (is := [2, 3, 4, 1, 0]) (lo2 := [(0, .ref a0), (1, .int a1), (2, .int a2), (3, .int 0), (4, .int 0)]) rfl ?_
  exact l_5 8 a1 (ra1) a2 (ra2) 0 0 (rg_w rc_0 (by decide) (by decide)) (ms_s (a := 0) (b := 7) (N := 8) (rg_w rc_0 (by decide) (by decide)) (by decide))
set_option maxRecDepth 100000 in
set_option maxHeartbeats 8000000 in
theorem c_X6_leastFor {l : Launch} {D : va_G} {cy : Nat → ClassId} {L : List Nat} {κ ln : Nat → Nat} {R : Nat → Nat → Option Nat} {I : Nat → Nat → Int32} {J : Nat → Nat → Int64} {ow : Nat → Nat × Nat} (W9 : ∀ a ∈ L, Shp L κ ln R ow a) {a0 : Nat} (hLa0 : a0 ∈ L) (hka0 : κ a0 = 8) (a1 : Int32) (a2 : Int32) (a3 : Int32) (ra1 : Rg 1 127 a1) (ra2 : Rg (-1) 6 a2) (hU : Uv L κ ow I) : CtI l yX6_leastFor cX6_leastFor 6 (some .int) { frames := 2, cells := 0, slots := 0, locals := 47 } D cy L κ ln R I J [.ref a0, .int a1, .int a2, .int a3] (fun r I2 J2 => I = I2 ∧ J = J2 ∧ Rg (-1) 6 r) := by
  refine CtI.of (by decide +kernel) (Nat.le_of_ble_eq_true rfl) ?_
  intro p e s m below meth c B K
  have C := B.1
  refine g_lo (is := [0, 1, 2, 3]) (lo2 := [(0, .ref a0), (1, .int a1), (2, .int a2), (3, .int a3)]) rfl ?_
  have l_3 : ∀ (n_3 : Nat) (v_412682 : Int32) (rv_412682 : Rg 1 127 v_412682) (v_412683 : Int32) (rv_412683 : Rg (-1) 6 v_412683) (v_412684 : Int32) (v_412685 : Int32) (rv_412685 : Rg 0 7 v_412685) (hm_412686 : 7 < (v_412685 : Int32).toInt + (n_3 : Int)), WG p l e { frames := 2, cells := 0, slots := 0, locals := 47 } s m ([.ref a0, .int a1, .int a2, .int a3] : List Value).toArray below meth c 6 0 0 (MQ below (Qi_ D cy L κ ln R (fun r I2 J2 => I = I2 ∧ J = J2 ∧ Rg (-1) 6 r)) ([.ref a0, .int a1, .int a2, .int a3] : List Value).toArray s 0 0 (Al_ L)) D cy (Al_ L) s.heap L κ ln R I J 3 [(0, .ref a0), (1, .int v_412682), (2, .int v_412683), (3, .int v_412684), (4, .int v_412685)] [] := by
    intro n_3
    induction n_3 with
    | zero =>
      intro v_412682 rv_412682 v_412683 rv_412683 v_412684 v_412685 rv_412685 hm_412686
      exact ms_0 rv_412685 hm_412686
    | succ n_3 ih_3 =>
      intro v_412682 rv_412682 v_412683 rv_412683 v_412684 v_412685 rv_412685 hm_412686
      have j_50 : ∀ (v_412687 : Int32) (rv_412687 : Rg 1 127 v_412687) (v_412688 : Int32) (rv_412688 : Rg (-1) 6 v_412688) (v_412689 : Int32) (v_412690 : Int32) (rv_412690 : Rg 0 6 v_412690) (v_412691 : Int32) (rv_412691 : Rg 0 127 v_412691) (v_412692 : Int32) (rv_412692 : Rg 1 7 v_412692) (q_412693 : I a0 5 = v_412692) (hm_412694 : 7 < (v_412690 : Int32).toInt + ((n_3 + 1 : Nat) : Int)), WG p l e { frames := 2, cells := 0, slots := 0, locals := 47 } s m ([.ref a0, .int a1, .int a2, .int a3] : List Value).toArray below meth c 6 0 0 (MQ below (Qi_ D cy L κ ln R (fun r I2 J2 => I = I2 ∧ J = J2 ∧ Rg (-1) 6 r)) ([.ref a0, .int a1, .int a2, .int a3] : List Value).toArray s 0 0 (Al_ L)) D cy (Al_ L) s.heap L κ ln R I J 50 [(0, .ref a0), (1, .int v_412687), (2, .int v_412688), (3, .int v_412689), (4, .int v_412690), (5, .int v_412691)] [] := by
        intro v_412687 rv_412687 v_412688 rv_412688 v_412689 v_412690 rv_412690 v_412691 rv_412691 v_412692 rv_412692 q_412693 hm_412694
        obtain ⟨x_412695, hx_412695, rx_412695, tx_412695⟩ := ex_add (y := 1) 1 7 rv_412690 rc_1 (by decide) (by decide) (by decide) (by decide)
        refine g_iinc C dX6_leastFor_50 (k := 4) (v := x_412695) rfl hx_412695 (by decide) (lo2 := [(4, .int x_412695), (0, .ref a0), (1, .int v_412687), (2, .int v_412688), (3, .int v_412689), (5, .int v_412691)]) rfl ?_
        refine g_goto C (tgt := 3) dX6_leastFor_53 (by decide) ?_
        refine g_lo (is := [1, 2, 3, 4, 0]) (lo2 := [(0, .ref a0), (1, .int v_412687), (2, .int v_412688), (3, .int v_412689), (4, .int x_412695)]) rfl ?_
        exact ih_3 v_412687 (rv_412687) v_412688 (rv_412688) v_412689 x_412695 (rg_w rx_412695 (by decide) (by decide)) (ms_1 hm_412694 (ti_k tx_412695 rc_1) (by decide))
      refine g_iload C 4 dX6_leastFor_3 rfl ?_
      refine g_aload_n C 0 dX6_leastFor_5 rfl rfl ?_
      obtain ⟨x_412696, hx_412696, rx_412696⟩ := ex_get (I := I) (a := a0) (j := 5) (lo := 0) (hi := 7) hU hLa0 (ro_o hka0 (by decide)) rfl
      refine g_getI C K hLa0 hka0 f_6_33 (v := x_412696) hx_412696 dX6_leastFor_6 ?_
      refine g_icmp_ge C (tgt := 56) dX6_leastFor_9 (by decide) (fun h_412697 => ?_) (fun h_412697 => ?_)
      · skip
        refine g_iconst C (v := (-1)) dX6_leastFor_56 (by decide) ?_
        exact g_zret (ty := .int) (r := (-1)) B K rfl (rfl) ⟨rfl, rfl, rg_w rc_m1 (by decide) (by decide)⟩ dX6_leastFor_57
      · skip
        have r_412698 := lt_l (hi := 6) (nle h_412697) rv_412685 rx_412696 (by decide)
        have r_412699 := lt_r (lo := 1) (nle h_412697) rv_412685 rx_412696 (by decide)
        refine g_iload_n C 1 dX6_leastFor_12 rfl rfl ?_
        refine g_iconst C (v := 1) dX6_leastFor_13 (by decide) ?_
        refine g_iload C 4 dX6_leastFor_14 rfl ?_
        obtain ⟨x_412700, hx_412700, rx_412700⟩ := ex_shl (x := 1) (y := v_412685) 6 64 rfl (r_412698) (by decide)
        refine g_ishl C (v := x_412700) dX6_leastFor_16 hx_412700 ?_
        refine g_iconst C (v := (-1)) dX6_leastFor_17 (by decide) ?_
        obtain ⟨x_412701, hx_412701, rx_412701⟩ := ex_any (z0 := x_412700 ^^^ (-1))
        refine g_ixor C (v := x_412701) dX6_leastFor_18 hx_412701 ?_
        obtain ⟨x_412702, hx_412702, rx_412702⟩ := ex_andl (x := v_412682) (y := x_412701) (b := 127) (rg_w rv_412682 (by decide) (by decide))
        refine g_iand C (v := x_412702) dX6_leastFor_19 hx_412702 ?_
        refine g_istore C dX6_leastFor_20 (by decide) (lo2 := [(5, .int x_412702), (0, .ref a0), (1, .int v_412682), (2, .int v_412683), (3, .int v_412684), (4, .int v_412685)]) rfl ?_
        refine g_iload C 0 dX6_leastFor_22 rfl ?_
        refine g_iload_n C 2 dX6_leastFor_24 rfl rfl ?_
        refine g_icmp_eq C (tgt := 50) dX6_leastFor_25 (by decide) (fun h_412703 => ?_) (fun h_412703 => ?_)
        · skip
          have r_412704 := (⟨(eq_rg (h_412703) rv_412682).1, (rx_412702).2⟩ : Rg 1 127 x_412702)
          refine g_lo (is := [1, 2, 3, 4, 5, 0]) (lo2 := [(0, .ref a0), (1, .int v_412682), (2, .int v_412683), (3, .int v_412684), (4, .int v_412685), (5, .int x_412702)]) rfl ?_
          exact j_50 v_412682 (rv_412682) v_412683 (rv_412683) v_412684 v_412685 (r_412698) x_412702 (rg_w r_412704 (by decide) (by decide)) x_412696 (r_412699) hx_412696 hm_412686
        · skip
          refine g_aload_n C 1 dX6_leastFor_28 rfl rfl ?_
          refine g_iload C 5 dX6_leastFor_29 rfl ?_
          refine g_iload_n C 3 dX6_leastFor_31 rfl rfl ?_
          refine g_callSI C K (c_X6_isChild W9 hLa0 hka0 v_412685 v_412683 (r_412698) (rv_412683) hU) s_6_42 rfl ⟨rfl, rfl⟩ ⟨Nat.le_of_ble_eq_true rfl, Nat.le_of_ble_eq_true rfl⟩ (Nat.le_of_ble_eq_true rfl) ⟨Nat.le_of_ble_eq_true rfl, Nat.le_of_ble_eq_true rfl⟩ dX6_leastFor_32 rfl (st := []) (fun x_412705 I_412706 J_412707 h_412708 => ?_)
          obtain ⟨rfl, rfl, rx_412705⟩ := h_412708
          refine g_aload_n C 1 dX6_leastFor_35 rfl rfl ?_
          refine g_iload_n C 2 dX6_leastFor_36 rfl rfl ?_
          refine g_iload C 0 dX6_leastFor_37 rfl ?_
          refine g_callSI C K (c_X6_parentsAmong W9 hLa0 hka0 v_412682 x_412702 (rg_w rv_412682 (by decide) (by decide)) (rx_412702) hU) s_6_29 rfl ⟨rfl, rfl⟩ ⟨Nat.le_of_ble_eq_true rfl, Nat.le_of_ble_eq_true rfl⟩ (Nat.le_of_ble_eq_true rfl) ⟨Nat.le_of_ble_eq_true rfl, Nat.le_of_ble_eq_true rfl⟩ dX6_leastFor_39 rfl (st := [.int x_412705]) (fun x_412709 I_412710 J_412711 h_412712 => ?_)
          obtain ⟨rfl, rfl, rx_412709⟩ := h_412712
          obtain ⟨x_412713, hx_412713, rx_412713⟩ := ex_any (z0 := x_412705 + x_412709)
          refine g_iadd C (v := x_412713) dX6_leastFor_42 hx_412713 ?_
          refine g_iload_n C 4 dX6_leastFor_43 rfl rfl ?_
          refine g_icmp_ne C (tgt := 50) dX6_leastFor_44 (by decide) (fun h_412714 => ?_) (fun h_412714 => ?_)
          · skip
            refine g_lo (is := [1, 2, 3, 4, 5, 0]) (lo2 := [(0, .ref a0), (1, .int v_412682), (2, .int v_412683), (3, .int v_412684), (4, .int v_412685), (5, .int x_412702)]) rfl ?_
            exact j_50 v_412682 (rv_412682) v_412683 (rv_412683) v_412684 v_412685 (r_412698) x_412702 (rx_412702) x_412696 (r_412699) hx_412696 hm_412686
          · skip
            refine g_iload C 5 dX6_leastFor_47 rfl ?_
            exact g_zret (ty := .int) (r := v_412685) B K rfl (rfl) ⟨rfl, rfl, rg_w r_412698 (by decide) (by decide)⟩ dX6_leastFor_49
  refine g_iconst C (v := 0) dX6_leastFor_0 (by decide) ?_
  refine g_istore C dX6_leastFor_1 (by decide) (lo2 := [(4, .int 0), (0, .ref a0), (1, .int a1), (2, .int a2), (3, .int a3)]) rfl ?_
  refine g_lo (is := [1, 2, 3, 4, 0]) (lo2 := [(0, .ref a0), (1, .int a1), (2, .int a2), (3, .int a3), (4, .int 0)]) rfl ?_
  exact l_3 8 a1 (ra1) a2 (ra2) a3 0 (rg_w rc_0 (by decide) (by decide)) (ms_s (a := 0) (b := 7) (N := 8) (rg_w rc_0 (by decide) (by decide)) (by decide))
set_option maxRecDepth 100000 in
set_option maxHeartbeats 8000000 in
theorem c_X6_seat {l : Launch} {D : va_G} {cy : Nat → ClassId} {L : List Nat} {κ ln : Nat → Nat} {R : Nat → Nat → Option Nat} {I : Nat → Nat → Int32} {J : Nat → Nat → Int64} {ow : Nat → Nat × Nat} (W9 : ∀ a ∈ L, Shp L κ ln R ow a) {x : Nat} (hLx : x ∈ L) (hkx : κ x = 6) {a0 : Nat} (hLa0 : a0 ∈ L) (hka0 : κ a0 = 1) (hU : Uv L κ ow I) : CtI l yX6_seat cX6_seat 9 (some .int) { frames := 3, cells := 0, slots := 0, locals := 72 } D cy L κ ln R I J [.ref x, .ref a0] (fun r I2 J2 => Uv L κ ow I2 ∧ Fq L κ ow [601, 46000] I I2 ∧ Fq L κ ow [] J J2 ∧ Rg (-2147483648) 2147483647 r) := by
  refine CtI.of (by decide +kernel) (Nat.le_of_ble_eq_true rfl) ?_
  intro p e s m below meth c B K
  have C := B.1
  have hF : Fq L κ ow [601, 46000] I I := fq_rf
  have hG : Fq L κ ow [] J J := fq_rf
  obtain ⟨b_414472, hb_414472, hb_414472L, hb_414472k, hb_414472n, hb_414472o⟩ := shp_a (W9 x hLx) hkx 0 14 7 rfl (by decide)
  obtain ⟨b_414473, hb_414473, hb_414473L, hb_414473k⟩ := shp_o (W9 a0 hLa0) hka0 0 8 rfl (by decide)
  refine g_lo (is := [0, 1]) (lo2 := [(0, .ref x), (1, .ref a0)]) rfl ?_
  have l_32 : ∀ (n_32 : Nat) (I_414474 : Nat → Nat → Int32) (J_414475 : Nat → Nat → Int64) (hU_414476 : Uv L κ ow I_414474) (hF_414477 : Fq L κ ow [601, 46000] I I_414474) (hG_414478 : Fq L κ ow [] J J_414475) (v_414479 : Int32) (rv_414479 : Rg 0 127 v_414479) (v_414480 : Int32) (v_414481 : Int32) (v_414482 : Int32) (rv_414482 : Rg (-1) 6 v_414482) (v_414483 : Int32) (rv_414483 : Rg 0 7 v_414483) (q_414484 : I_414474 x 1 = v_414483) (hm_414485 : 7 < (v_414483 : Int32).toInt + (n_32 : Int)), WG p l e { frames := 3, cells := 0, slots := 0, locals := 72 } s m ([.ref x, .ref a0] : List Value).toArray below meth c 9 0 0 (MQ below (Qi_ D cy L κ ln R (fun r I2 J2 => Uv L κ ow I2 ∧ Fq L κ ow [601, 46000] I I2 ∧ Fq L κ ow [] J J2 ∧ Rg (-2147483648) 2147483647 r)) ([.ref x, .ref a0] : List Value).toArray s 0 0 (Al_ L)) D cy (Al_ L) s.heap L κ ln R I_414474 J_414475 32 [(0, .ref x), (1, .ref a0), (2, .ref b_414473), (3, .int v_414479), (4, .int v_414480), (5, .int v_414481), (6, .int v_414482), (7, .int v_414483)] [] := by
    intro n_32
    induction n_32 with
    | zero =>
      intro I_414474 J_414475 hU_414476 hF_414477 hG_414478 v_414479 rv_414479 v_414480 v_414481 v_414482 rv_414482 v_414483 rv_414483 q_414484 hm_414485
      exact ms_0 rv_414483 hm_414485
    | succ n_32 ih_32 =>
      intro I_414474 J_414475 hU_414476 hF_414477 hG_414478 v_414479 rv_414479 v_414480 v_414481 v_414482 rv_414482 v_414483 rv_414483 q_414484 hm_414485
      refine g_iload C 7 dX6_seat_32 rfl ?_
      refine g_aload_n C 2 dX6_seat_34 rfl rfl ?_
      obtain ⟨x_414486, hx_414486, rx_414486⟩ := ex_get (I := I_414474) (a := b_414473) (j := 5) (lo := 0) (hi := 7) hU_414476 hb_414473L (ro_o hb_414473k (by decide)) rfl
      refine g_getI C K hb_414473L hb_414473k f_6_33 (v := x_414486) hx_414486 dX6_seat_35 ?_
      refine g_icmp_ge C (tgt := 130) dX6_seat_38 (by decide) (fun h_414487 => ?_) (fun h_414487 => ?_)
      · skip
        refine g_iload C 5 dX6_seat_130 rfl ?_
        exact g_zret (ty := .int) (r := v_414481) B K rfl (rfl) ⟨hU_414476, hF_414477, hG_414478, (rg_all v_414481)⟩ dX6_seat_132
      · skip
        have r_414488 := lt_l (hi := 6) (nle h_414487) rv_414483 rx_414486 (by decide)
        have r_414489 := lt_r (lo := 1) (nle h_414487) rv_414483 rx_414486 (by decide)
        refine g_iload_n C 3 dX6_seat_41 rfl rfl ?_
        refine g_if_eq C (tgt := 130) dX6_seat_42 (by decide) (fun h_414490 => ?_) (fun h_414490 => ?_)
        · skip
          have r_414491 := (⟨(rv_414479).1, (eq_rg (h_414490) rc_0).2⟩ : Rg 0 0 v_414479)
          refine g_iload C 5 dX6_seat_130 rfl ?_
          exact g_zret (ty := .int) (r := v_414481) B K rfl (rfl) ⟨hU_414476, hF_414477, hG_414478, (rg_all v_414481)⟩ dX6_seat_132
        · skip
          have n_414492 : ¬ v_414479 = 0 := h_414490
          have r_414493 := ne_lo (lo := 1) n_414492 rv_414479 rc_0 rfl (by decide)
          refine g_aload_n C 2 dX6_seat_45 rfl rfl ?_
          refine g_iload_n C 3 dX6_seat_46 rfl rfl ?_
          refine g_iload C 6 dX6_seat_47 rfl ?_
          refine g_iload C 4 dX6_seat_49 rfl ?_
          refine g_iload C 5 dX6_seat_51 rfl ?_
          obtain ⟨x_414494, hx_414494, rx_414494⟩ := ex_any (z0 := v_414480 - v_414481)
          refine g_isub C (v := x_414494) dX6_seat_53 hx_414494 ?_
          refine g_callSI C K (c_X6_leastFor W9 hb_414473L hb_414473k v_414479 v_414482 x_414494 (r_414493) (rv_414482) hU_414476) s_6_38 rfl ⟨rfl, rfl⟩ ⟨Nat.le_of_ble_eq_true rfl, Nat.le_of_ble_eq_true rfl⟩ (Nat.le_of_ble_eq_true rfl) ⟨Nat.le_of_ble_eq_true rfl, Nat.le_of_ble_eq_true rfl⟩ dX6_seat_54 rfl (st := []) (fun x_414495 I_414496 J_414497 h_414498 => ?_)
          obtain ⟨rfl, rfl, rx_414495⟩ := h_414498
          refine g_istore C dX6_seat_57 (by decide) (lo2 := [(8, .int x_414495), (0, .ref x), (1, .ref a0), (2, .ref b_414473), (3, .int v_414479), (4, .int v_414480), (5, .int v_414481), (6, .int v_414482), (7, .int v_414483)]) rfl ?_
          refine g_iload C 0 dX6_seat_59 rfl ?_
          refine g_iconst C (v := (-1)) dX6_seat_61 (by decide) ?_
          refine g_icmp_eq C (tgt := 74) dX6_seat_62 (by decide) (fun h_414499 => ?_) (fun h_414499 => ?_)
          · skip
            have r_414500 := (⟨(rx_414495).1, (eq_rg (h_414499) rc_m1).2⟩ : Rg (-1) (-1) x_414495)
            refine g_iload C 6 dX6_seat_74 rfl ?_
            exact g_zret (ty := .int) (r := v_414481) B K rfl (rfl) ⟨hU_414476, hF_414477, hG_414478, (rg_all v_414481)⟩ dX6_seat_76
          · skip
            have n_414501 : ¬ x_414495 = (-1) := h_414499
            have r_414502 := ne_lo (lo := 0) n_414501 rx_414495 rc_m1 rfl (by decide)
            refine g_aload_n C 1 dX6_seat_65 rfl rfl ?_
            refine g_getI C K hLx hkx f_6_15 (v := v_414483) q_414484 dX6_seat_66 ?_
            refine g_bipush C (v := 7) dX6_seat_69 (by decide) ?_
            refine g_icmp_lt C (tgt := 77) dX6_seat_71 (by decide) (fun h_414503 => ?_) (fun h_414503 => ?_)
            · skip
              refine g_iload C 6 dX6_seat_77 rfl ?_
              refine g_aload_n C 3 dX6_seat_79 rfl rfl ?_
              refine g_iload C 0 dX6_seat_80 rfl ?_
              refine g_iload C 7 dX6_seat_82 rfl ?_
              refine g_callSI C K (c_X6_isChild W9 hb_414473L hb_414473k x_414495 v_414482 (r_414502) (rv_414482) hU_414476) s_6_42 rfl ⟨rfl, rfl⟩ ⟨Nat.le_of_ble_eq_true rfl, Nat.le_of_ble_eq_true rfl⟩ (Nat.le_of_ble_eq_true rfl) ⟨Nat.le_of_ble_eq_true rfl, Nat.le_of_ble_eq_true rfl⟩ dX6_seat_84 rfl (st := [.int v_414481]) (fun x_414504 I_414505 J_414506 h_414507 => ?_)
              obtain ⟨rfl, rfl, rx_414504⟩ := h_414507
              obtain ⟨x_414508, hx_414508, rx_414508⟩ := ex_any (z0 := v_414481 + x_414504)
              refine g_iadd C (v := x_414508) dX6_seat_87 hx_414508 ?_
              refine g_istore C dX6_seat_88 (by decide) (lo2 := [(5, .int x_414508), (8, .int x_414495), (0, .ref x), (1, .ref a0), (2, .ref b_414473), (3, .int v_414479), (4, .int v_414480), (6, .int v_414482), (7, .int v_414483)]) rfl ?_
              refine g_aload_n C 2 dX6_seat_90 rfl rfl ?_
              refine g_getR C K hLx hkx f_6_9 hb_414472 dX6_seat_91 ?_
              refine g_aload_n C 2 dX6_seat_94 rfl rfl ?_
              refine g_getI C K hLx hkx f_6_15 (v := v_414483) q_414484 dX6_seat_95 ?_
              refine g_iload C 1 dX6_seat_98 rfl ?_
              refine h_iast C K hb_414472L hb_414472k (v_414483.toNatClampNeg) (rfl) (ix_0 r_414488 (by decide)) (ix_lt r_414488 (by decide) hb_414472n (by decide)) dX6_seat_100 (fun I_414509 hI_414509 => ?_)
              have hU_414510 := uv_put hU_414476 hI_414509 (ro_a hb_414472k (by decide) hb_414472o hkx rfl) (lo := (-2147483648)) (hi := 2147483647) (rfl) (rg_all _)
              have hF_414511 := fq_puta hF_414477 hI_414509 (ro_a hb_414472k (by decide) hb_414472o hkx rfl) (by decide) (by decide)
              refine g_aload_n C 2 dX6_seat_101 rfl rfl ?_
              refine g_dup C dX6_seat_102 rfl ?_
              refine g_getI C K hLx hkx f_6_15 (v := v_414483) (kp_k (κ := κ) hI_414509 (by rw [hkx, hb_414472k]; decide) q_414484) dX6_seat_103 ?_
              refine g_iconst C (v := 1) dX6_seat_106 (by decide) ?_
              obtain ⟨x_414512, hx_414512, rx_414512, tx_414512⟩ := ex_add 1 7 r_414488 rc_1 (by decide) (by decide) (by decide) (by decide)
              refine g_iadd C (v := x_414512) dX6_seat_107 hx_414512 ?_
              refine h_putI C K hLx hkx f_6_15 p_6_1 dX6_seat_108 (fun I_414513 hI_414513 => ?_)
              have hU_414514 := uv_put hU_414510 hI_414513 (ro_o hkx (by decide)) (lo := 0) (hi := 7) rfl (rg_w rx_414512 (by decide) (by decide))
              have hF_414515 := fq_puto hF_414511 hI_414513 hkx (by decide) (by decide)
              refine g_iload_n C 5 dX6_seat_111 rfl rfl ?_
              refine g_iconst C (v := 1) dX6_seat_112 (by decide) ?_
              refine g_iload C 1 dX6_seat_113 rfl ?_
              obtain ⟨x_414516, hx_414516, rx_414516⟩ := ex_shl (x := 1) (y := x_414495) 6 64 rfl (r_414502) (by decide)
              refine g_ishl C (v := x_414516) dX6_seat_115 hx_414516 ?_
              refine g_iconst C (v := (-1)) dX6_seat_116 (by decide) ?_
              obtain ⟨x_414517, hx_414517, rx_414517⟩ := ex_any (z0 := x_414516 ^^^ (-1))
              refine g_ixor C (v := x_414517) dX6_seat_117 hx_414517 ?_
              obtain ⟨x_414518, hx_414518, rx_414518⟩ := ex_andl (x := v_414479) (y := x_414517) (b := 127) (rg_w r_414493 (by decide) (by decide))
              refine g_iand C (v := x_414518) dX6_seat_118 hx_414518 ?_
              refine g_istore_n C dX6_seat_119 rfl (by decide) (lo2 := [(3, .int x_414518), (5, .int x_414508), (8, .int x_414495), (0, .ref x), (1, .ref a0), (2, .ref b_414473), (4, .int v_414480), (6, .int v_414482), (7, .int v_414483)]) rfl ?_
              refine g_iload C 2 dX6_seat_120 rfl ?_
              refine g_istore C dX6_seat_122 (by decide) (lo2 := [(6, .int x_414495), (3, .int x_414518), (5, .int x_414508), (8, .int x_414495), (0, .ref x), (1, .ref a0), (2, .ref b_414473), (4, .int v_414480), (7, .int v_414483)]) rfl ?_
              refine g_iinc C dX6_seat_124 (k := 8) (v := x_414512) rfl hx_414512 (by decide) (lo2 := [(7, .int x_414512), (6, .int x_414495), (3, .int x_414518), (5, .int x_414508), (8, .int x_414495), (0, .ref x), (1, .ref a0), (2, .ref b_414473), (4, .int v_414480)]) rfl ?_
              refine g_goto C (tgt := 32) dX6_seat_127 (by decide) ?_
              refine g_lo (is := [5, 6, 7, 2, 8, 3, 1, 0]) (lo2 := [(0, .ref x), (1, .ref a0), (2, .ref b_414473), (3, .int x_414518), (4, .int v_414480), (5, .int x_414508), (6, .int x_414495), (7, .int x_414512)]) rfl ?_
              exact ih_32 I_414513 J_414475 hU_414514 hF_414515 hG_414478 x_414518 (rx_414518) v_414480 x_414508 x_414495 (rg_w r_414502 (by decide) (by decide)) x_414512 (rg_w rx_414512 (by decide) (by decide)) (kp_s hI_414513) (ms_1 hm_414485 (ti_k tx_414512 rc_1) (by decide))
            · skip
              have r_414519 := le_r (nlt h_414503) rc_7 r_414488
              exact rg_no r_414519 (by decide)
  refine g_aload_n C 1 dX6_seat_0 rfl rfl ?_
  refine g_getR C K hLa0 hka0 f_6_19 hb_414473 dX6_seat_1 ?_
  refine g_astore_n C dX6_seat_4 rfl (by decide) (lo2 := [(2, .ref b_414473), (0, .ref x), (1, .ref a0)]) rfl ?_
  refine g_aload_n C 2 dX6_seat_5 rfl rfl ?_
  refine g_callVI C K (c_X1_living W9 hLa0 hka0   hU) hLa0 hka0 (by decide) rfl v_6_25 rfl ⟨rfl, rfl⟩ ⟨Nat.le_of_ble_eq_true rfl, Nat.le_of_ble_eq_true rfl⟩ (Nat.le_of_ble_eq_true rfl) ⟨Nat.le_of_ble_eq_true rfl, Nat.le_of_ble_eq_true rfl⟩ dX6_seat_6 rfl (st := []) (fun x_414520 I_414521 J_414522 h_414523 => ?_)
  obtain ⟨rfl, rfl, rx_414520⟩ := h_414523
  refine g_istore_n C dX6_seat_9 rfl (by decide) (lo2 := [(3, .int x_414520), (2, .ref b_414473), (0, .ref x), (1, .ref a0)]) rfl ?_
  refine g_aload_n C 1 dX6_seat_10 rfl rfl ?_
  refine g_iload_n C 0 dX6_seat_11 rfl rfl ?_
  refine g_iload_n C 0 dX6_seat_12 rfl rfl ?_
  refine g_callSI C K (c_X6_parentsAmong W9 hb_414473L hb_414473k x_414520 x_414520 (rx_414520) (rx_414520) hU) s_6_29 rfl ⟨rfl, rfl⟩ ⟨Nat.le_of_ble_eq_true rfl, Nat.le_of_ble_eq_true rfl⟩ (Nat.le_of_ble_eq_true rfl) ⟨Nat.le_of_ble_eq_true rfl, Nat.le_of_ble_eq_true rfl⟩ dX6_seat_13 rfl (st := []) (fun x_414524 I_414525 J_414526 h_414527 => ?_)
  obtain ⟨rfl, rfl, rx_414524⟩ := h_414527
  refine g_istore C dX6_seat_16 (by decide) (lo2 := [(4, .int x_414524), (3, .int x_414520), (2, .ref b_414473), (0, .ref x), (1, .ref a0)]) rfl ?_
  refine g_iconst C (v := 0) dX6_seat_18 (by decide) ?_
  refine g_istore C dX6_seat_19 (by decide) (lo2 := [(5, .int 0), (4, .int x_414524), (3, .int x_414520), (2, .ref b_414473), (0, .ref x), (1, .ref a0)]) rfl ?_
  refine g_iconst C (v := (-1)) dX6_seat_21 (by decide) ?_
  refine g_istore C dX6_seat_22 (by decide) (lo2 := [(6, .int (-1)), (5, .int 0), (4, .int x_414524), (3, .int x_414520), (2, .ref b_414473), (0, .ref x), (1, .ref a0)]) rfl ?_
  refine g_aload_n C 5 dX6_seat_24 rfl rfl ?_
  refine g_iconst C (v := 0) dX6_seat_25 (by decide) ?_
  refine h_putI C K hLx hkx f_6_15 p_6_1 dX6_seat_26 (fun I_414528 hI_414528 => ?_)
  have hU_414529 := uv_put hU hI_414528 (ro_o hkx (by decide)) (lo := 0) (hi := 7) rfl (rg_w rc_0 (by decide) (by decide))
  have hF_414530 := fq_puto hF hI_414528 hkx (by decide) (by decide)
  refine g_iconst C (v := 0) dX6_seat_29 (by decide) ?_
  refine g_istore C dX6_seat_30 (by decide) (lo2 := [(7, .int 0), (6, .int (-1)), (5, .int 0), (4, .int x_414524), (3, .int x_414520), (2, .ref b_414473), (0, .ref x), (1, .ref a0)]) rfl ?_
  refine g_lo (is := [6, 7, 5, 4, 3, 2, 1, 0]) (lo2 := [(0, .ref x), (1, .ref a0), (2, .ref b_414473), (3, .int x_414520), (4, .int x_414524), (5, .int 0), (6, .int (-1)), (7, .int 0)]) rfl ?_
  exact l_32 8 I_414528 J hU_414529 hF_414530 hG x_414520 (rx_414520) x_414524 0 (-1) (rg_w rc_m1 (by decide) (by decide)) 0 (rg_w rc_0 (by decide) (by decide)) (kp_s hI_414528) (ms_s (a := 0) (b := 7) (N := 8) (rg_w rc_0 (by decide) (by decide)) (by decide))
set_option maxRecDepth 100000 in
set_option maxHeartbeats 8000000 in
theorem c_X11_seats {l : Launch} {D : va_G} {cy : Nat → ClassId} {L : List Nat} {κ ln : Nat → Nat} {R : Nat → Nat → Option Nat} {I : Nat → Nat → Int32} {J : Nat → Nat → Int64} {ow : Nat → Nat × Nat} (W9 : ∀ a ∈ L, Shp L κ ln R ow a) {x : Nat} (hLx : x ∈ L) (hkx : κ x = 11) (hU : Uv L κ ow I) : CtI l yX11_seats cX11_seats 1 (some .int) { frames := 4, cells := 0, slots := 0, locals := 100 } D cy L κ ln R I J [.ref x] (fun r I2 J2 => Uv L κ ow I2 ∧ Fq L κ ow [601, 46000] I I2 ∧ Fq L κ ow [] J J2 ∧ Rg (-2147483648) 2147483647 r) := by
  refine CtI.of (by decide +kernel) (Nat.le_of_ble_eq_true rfl) ?_
  intro p e s m below meth c B K
  have C := B.1
  have hF : Fq L κ ow [601, 46000] I I := fq_rf
  have hG : Fq L κ ow [] J J := fq_rf
  obtain ⟨b_414547, hb_414547, hb_414547L, hb_414547k⟩ := shp_o (W9 x hLx) hkx 10 6 rfl (by decide)
  obtain ⟨b_414548, hb_414548, hb_414548L, hb_414548k⟩ := shp_o (W9 x hLx) hkx 2 1 rfl (by decide)
  refine g_lo (is := [0]) (lo2 := [(0, .ref x)]) rfl ?_
  refine g_aload_n C 0 dX11_seats_0 rfl rfl ?_
  refine g_getR C K hLx hkx f_11_76 hb_414547 dX11_seats_1 ?_
  refine g_aload_n C 0 dX11_seats_4 rfl rfl ?_
  refine g_getR C K hLx hkx f_11_28 hb_414548 dX11_seats_5 ?_
  refine g_callVI C K (c_X6_seat W9 hb_414547L hb_414547k hb_414548L hb_414548k  hU) hb_414547L hb_414547k (by decide) rfl v_11_291 rfl ⟨rfl, rfl⟩ ⟨Nat.le_of_ble_eq_true rfl, Nat.le_of_ble_eq_true rfl⟩ (Nat.le_of_ble_eq_true rfl) ⟨Nat.le_of_ble_eq_true rfl, Nat.le_of_ble_eq_true rfl⟩ dX11_seats_8 rfl (st := []) (fun x_414549 I_414550 J_414551 h_414552 => ?_)
  obtain ⟨hUI_414550, hFI_414550, hGJ_414551, rx_414549⟩ := h_414552
  have hF_414553 := fq_tr hF hFI_414550 (by decide)
  have hG_414554 := fq_tr hG hGJ_414551 (by decide)
  exact g_zret (ty := .int) (r := x_414549) B K rfl (rfl) ⟨hUI_414550, hF_414553, hG_414554, rx_414549⟩ dX11_seats_11
