theorem dJ9_abs_0f7a4_0 : decode cJ9_abs_0f7a4 0 = .ok (.iload_n 0, 1) := by decide +kernel
theorem dJ9_abs_0f7a4_1 : decode cJ9_abs_0f7a4 1 = .ok (.ifCond .ge 8, 3) := by decide +kernel
theorem dJ9_abs_0f7a4_4 : decode cJ9_abs_0f7a4 4 = .ok (.iload_n 0, 1) := by decide +kernel
theorem dJ9_abs_0f7a4_5 : decode cJ9_abs_0f7a4 5 = .ok (.ineg, 1) := by decide +kernel
theorem dJ9_abs_0f7a4_6 : decode cJ9_abs_0f7a4 6 = .ok (.goto 4, 3) := by decide +kernel
theorem dJ9_abs_0f7a4_9 : decode cJ9_abs_0f7a4 9 = .ok (.iload_n 0, 1) := by decide +kernel
theorem dJ9_abs_0f7a4_10 : decode cJ9_abs_0f7a4 10 = .ok (.ireturn, 1) := by decide +kernel
theorem dX10_byteOf_0 : decode cX10_byteOf 0 = .ok (.iload_n 1, 1) := by decide +kernel
theorem dX10_byteOf_1 : decode cX10_byteOf 1 = .ok (.ifCond .lt 33, 3) := by decide +kernel
theorem dX10_byteOf_4 : decode cX10_byteOf 4 = .ok (.iload_n 1, 1) := by decide +kernel
theorem dX10_byteOf_5 : decode cX10_byteOf 5 = .ok (.aload_n 0, 1) := by decide +kernel
theorem dX10_byteOf_6 : decode cX10_byteOf 6 = .ok (.getfield 29, 3) := by decide +kernel
theorem dX10_byteOf_9 : decode cX10_byteOf 9 = .ok (.if_icmp .ge 25, 3) := by decide +kernel
theorem dX10_byteOf_12 : decode cX10_byteOf 12 = .ok (.iload_n 1, 1) := by decide +kernel
theorem dX10_byteOf_13 : decode cX10_byteOf 13 = .ok (.aload_n 0, 1) := by decide +kernel
theorem dX10_byteOf_14 : decode cX10_byteOf 14 = .ok (.getfield 9, 3) := by decide +kernel
theorem dX10_byteOf_17 : decode cX10_byteOf 17 = .ok (.arraylength, 1) := by decide +kernel
theorem dX10_byteOf_18 : decode cX10_byteOf 18 = .ok (.if_icmp .ge 16, 3) := by decide +kernel
theorem dX10_byteOf_21 : decode cX10_byteOf 21 = .ok (.aload_n 0, 1) := by decide +kernel
theorem dX10_byteOf_22 : decode cX10_byteOf 22 = .ok (.getfield 9, 3) := by decide +kernel
theorem dX10_byteOf_25 : decode cX10_byteOf 25 = .ok (.iload_n 1, 1) := by decide +kernel
theorem dX10_byteOf_26 : decode cX10_byteOf 26 = .ok (.baload, 1) := by decide +kernel
theorem dX10_byteOf_27 : decode cX10_byteOf 27 = .ok (.sipush 255, 3) := by decide +kernel
theorem dX10_byteOf_30 : decode cX10_byteOf 30 = .ok (.iand, 1) := by decide +kernel
theorem dX10_byteOf_31 : decode cX10_byteOf 31 = .ok (.goto 4, 3) := by decide +kernel
theorem dX10_byteOf_34 : decode cX10_byteOf 34 = .ok (.iconst (-1), 1) := by decide +kernel
theorem dX10_byteOf_35 : decode cX10_byteOf 35 = .ok (.ireturn, 1) := by decide +kernel
theorem dX11_ask_0 : decode cX11_ask 0 = .ok (.aload_n 0, 1) := by decide +kernel
theorem dX11_ask_1 : decode cX11_ask 1 = .ok (.getfield 83, 3) := by decide +kernel
theorem dX11_ask_4 : decode cX11_ask 4 = .ok (.getfield 285, 3) := by decide +kernel
theorem dX11_ask_7 : decode cX11_ask 7 = .ok (.ireturn, 1) := by decide +kernel
theorem dX11_last_0 : decode cX11_last 0 = .ok (.aload_n 0, 1) := by decide +kernel
theorem dX11_last_1 : decode cX11_last 1 = .ok (.getfield 19, 3) := by decide +kernel
theorem dX11_last_4 : decode cX11_last 4 = .ok (.iload_n 1, 1) := by decide +kernel
theorem dX11_last_5 : decode cX11_last 5 = .ok (.invokevirtual 175, 3) := by decide +kernel
theorem dX11_last_8 : decode cX11_last 8 = .ok (.ifCond .ne 5, 3) := by decide +kernel
theorem dX11_last_11 : decode cX11_last 11 = .ok (.iconst (-1), 1) := by decide +kernel
theorem dX11_last_12 : decode cX11_last 12 = .ok (.ireturn, 1) := by decide +kernel
theorem dX11_last_13 : decode cX11_last 13 = .ok (.aload_n 0, 1) := by decide +kernel
theorem dX11_last_14 : decode cX11_last 14 = .ok (.getfield 28, 3) := by decide +kernel
theorem dX11_last_17 : decode cX11_last 17 = .ok (.getfield 182, 3) := by decide +kernel
theorem dX11_last_20 : decode cX11_last 20 = .ok (.iload_n 1, 1) := by decide +kernel
theorem dX11_last_21 : decode cX11_last 21 = .ok (.iaload, 1) := by decide +kernel
theorem dX11_last_22 : decode cX11_last 22 = .ok (.ifCond .ne 7, 3) := by decide +kernel
theorem dX11_last_25 : decode cX11_last 25 = .ok (.iconst 0, 1) := by decide +kernel
theorem dX11_last_26 : decode cX11_last 26 = .ok (.goto 16, 3) := by decide +kernel
theorem dX11_last_29 : decode cX11_last 29 = .ok (.aload_n 0, 1) := by decide +kernel
theorem dX11_last_30 : decode cX11_last 30 = .ok (.getfield 28, 3) := by decide +kernel
theorem dX11_last_33 : decode cX11_last 33 = .ok (.getfield 182, 3) := by decide +kernel
theorem dX11_last_36 : decode cX11_last 36 = .ok (.iload_n 1, 1) := by decide +kernel
theorem dX11_last_37 : decode cX11_last 37 = .ok (.iaload, 1) := by decide +kernel
theorem dX11_last_38 : decode cX11_last 38 = .ok (.iconst 3, 1) := by decide +kernel
theorem dX11_last_39 : decode cX11_last 39 = .ok (.iadd, 1) := by decide +kernel
theorem dX11_last_40 : decode cX11_last 40 = .ok (.iconst 4, 1) := by decide +kernel
theorem dX11_last_41 : decode cX11_last 41 = .ok (.irem, 1) := by decide +kernel
theorem dX11_last_42 : decode cX11_last 42 = .ok (.ireturn, 1) := by decide +kernel
theorem dX11_seats_0 : decode cX11_seats 0 = .ok (.aload_n 0, 1) := by decide +kernel
theorem dX11_seats_1 : decode cX11_seats 1 = .ok (.getfield 76, 3) := by decide +kernel
theorem dX11_seats_4 : decode cX11_seats 4 = .ok (.aload_n 0, 1) := by decide +kernel
theorem dX11_seats_5 : decode cX11_seats 5 = .ok (.getfield 28, 3) := by decide +kernel
theorem dX11_seats_8 : decode cX11_seats 8 = .ok (.invokevirtual 291, 3) := by decide +kernel
theorem dX11_seats_11 : decode cX11_seats 11 = .ok (.ireturn, 1) := by decide +kernel
theorem dX11_share_0 : decode cX11_share 0 = .ok (.aload_n 0, 1) := by decide +kernel
theorem dX11_share_1 : decode cX11_share 1 = .ok (.getfield 19, 3) := by decide +kernel
theorem dX11_share_4 : decode cX11_share 4 = .ok (.iload_n 1, 1) := by decide +kernel
theorem dX11_share_5 : decode cX11_share 5 = .ok (.invokevirtual 175, 3) := by decide +kernel
theorem dX11_share_8 : decode cX11_share 8 = .ok (.ifCond .eq 32, 3) := by decide +kernel
theorem dX11_share_11 : decode cX11_share 11 = .ok (.aload_n 0, 1) := by decide +kernel
theorem dX11_share_12 : decode cX11_share 12 = .ok (.getfield 19, 3) := by decide +kernel
theorem dX11_share_15 : decode cX11_share 15 = .ok (.iload_n 3, 1) := by decide +kernel
theorem dX11_share_16 : decode cX11_share 16 = .ok (.invokevirtual 133, 3) := by decide +kernel
theorem dX11_share_19 : decode cX11_share 19 = .ok (.ifCond .eq 21, 3) := by decide +kernel
theorem dX11_share_22 : decode cX11_share 22 = .ok (.iload_n 2, 1) := by decide +kernel
theorem dX11_share_23 : decode cX11_share 23 = .ok (.aload_n 0, 1) := by decide +kernel
theorem dX11_share_24 : decode cX11_share 24 = .ok (.getfield 19, 3) := by decide +kernel
theorem dX11_share_27 : decode cX11_share 27 = .ok (.invokevirtual 188, 3) := by decide +kernel
theorem dX11_share_30 : decode cX11_share 30 = .ok (.iconst (-1), 1) := by decide +kernel
theorem dX11_share_31 : decode cX11_share 31 = .ok (.ixor, 1) := by decide +kernel
theorem dX11_share_32 : decode cX11_share 32 = .ok (.iand, 1) := by decide +kernel
theorem dX11_share_33 : decode cX11_share 33 = .ok (.ifCond .ne 7, 3) := by decide +kernel
theorem dX11_share_36 : decode cX11_share 36 = .ok (.iconst 1, 1) := by decide +kernel
theorem dX11_share_37 : decode cX11_share 37 = .ok (.goto 4, 3) := by decide +kernel
theorem dX11_share_40 : decode cX11_share 40 = .ok (.iconst 0, 1) := by decide +kernel
theorem dX11_share_41 : decode cX11_share 41 = .ok (.istore 4, 2) := by decide +kernel
theorem dX11_share_43 : decode cX11_share 43 = .ok (.iload 4, 2) := by decide +kernel
theorem dX11_share_45 : decode cX11_share 45 = .ok (.ifCond .eq 11, 3) := by decide +kernel
theorem dX11_share_48 : decode cX11_share 48 = .ok (.iload_n 2, 1) := by decide +kernel
theorem dX11_share_49 : decode cX11_share 49 = .ok (.iload_n 3, 1) := by decide +kernel
theorem dX11_share_50 : decode cX11_share 50 = .ok (.ishr, 1) := by decide +kernel
theorem dX11_share_51 : decode cX11_share 51 = .ok (.iconst 1, 1) := by decide +kernel
theorem dX11_share_52 : decode cX11_share 52 = .ok (.iand, 1) := by decide +kernel
theorem dX11_share_53 : decode cX11_share 53 = .ok (.ifCond .ne 5, 3) := by decide +kernel
theorem dX11_share_56 : decode cX11_share 56 = .ok (.iconst (-1), 1) := by decide +kernel
theorem dX11_share_57 : decode cX11_share 57 = .ok (.ireturn, 1) := by decide +kernel
theorem dX11_share_58 : decode cX11_share 58 = .ok (.aload_n 0, 1) := by decide +kernel
theorem dX11_share_59 : decode cX11_share 59 = .ok (.getfield 19, 3) := by decide +kernel
theorem dX11_share_62 : decode cX11_share 62 = .ok (.aload_n 0, 1) := by decide +kernel
theorem dX11_share_63 : decode cX11_share 63 = .ok (.getfield 28, 3) := by decide +kernel
theorem dX11_share_66 : decode cX11_share 66 = .ok (.getfield 182, 3) := by decide +kernel
theorem dX11_share_69 : decode cX11_share 69 = .ok (.iload_n 1, 1) := by decide +kernel
theorem dX11_share_70 : decode cX11_share 70 = .ok (.iaload, 1) := by decide +kernel
theorem dX11_share_71 : decode cX11_share 71 = .ok (.iload_n 2, 1) := by decide +kernel
theorem dX11_share_72 : decode cX11_share 72 = .ok (.iload_n 3, 1) := by decide +kernel
theorem dX11_share_73 : decode cX11_share 73 = .ok (.invokevirtual 288, 3) := by decide +kernel
theorem dX11_share_76 : decode cX11_share 76 = .ok (.ireturn, 1) := by decide +kernel
theorem dX11_surely_0 : decode cX11_surely 0 = .ok (.aload_n 0, 1) := by decide +kernel
theorem dX11_surely_1 : decode cX11_surely 1 = .ok (.getfield 83, 3) := by decide +kernel
theorem dX11_surely_4 : decode cX11_surely 4 = .ok (.getfield 282, 3) := by decide +kernel
theorem dX11_surely_7 : decode cX11_surely 7 = .ok (.ireturn, 1) := by decide +kernel
theorem dX2_countIn_0 : decode cX2_countIn 0 = .ok (.iconst 0, 1) := by decide +kernel
theorem dX2_countIn_1 : decode cX2_countIn 1 = .ok (.istore_n 2, 1) := by decide +kernel
theorem dX2_countIn_2 : decode cX2_countIn 2 = .ok (.iload_n 2, 1) := by decide +kernel
theorem dX2_countIn_3 : decode cX2_countIn 3 = .ok (.bipush 7, 2) := by decide +kernel
theorem dX2_countIn_5 : decode cX2_countIn 5 = .ok (.if_icmp .ge 23, 3) := by decide +kernel
theorem dX2_countIn_8 : decode cX2_countIn 8 = .ok (.aload_n 0, 1) := by decide +kernel
theorem dX2_countIn_9 : decode cX2_countIn 9 = .ok (.getfield 9, 3) := by decide +kernel
theorem dX2_countIn_12 : decode cX2_countIn 12 = .ok (.iload_n 2, 1) := by decide +kernel
theorem dX2_countIn_13 : decode cX2_countIn 13 = .ok (.dup2, 1) := by decide +kernel
theorem dX2_countIn_14 : decode cX2_countIn 14 = .ok (.iaload, 1) := by decide +kernel
theorem dX2_countIn_15 : decode cX2_countIn 15 = .ok (.iload_n 1, 1) := by decide +kernel
theorem dX2_countIn_16 : decode cX2_countIn 16 = .ok (.iload_n 2, 1) := by decide +kernel
theorem dX2_countIn_17 : decode cX2_countIn 17 = .ok (.ishr, 1) := by decide +kernel
theorem dX2_countIn_18 : decode cX2_countIn 18 = .ok (.iconst 1, 1) := by decide +kernel
theorem dX2_countIn_19 : decode cX2_countIn 19 = .ok (.iand, 1) := by decide +kernel
theorem dX2_countIn_20 : decode cX2_countIn 20 = .ok (.iadd, 1) := by decide +kernel
theorem dX2_countIn_21 : decode cX2_countIn 21 = .ok (.iastore, 1) := by decide +kernel
theorem dX2_countIn_22 : decode cX2_countIn 22 = .ok (.iinc 2 1, 3) := by decide +kernel
theorem dX2_countIn_25 : decode cX2_countIn 25 = .ok (.goto (-23), 3) := by decide +kernel
theorem dX2_countIn_28 : decode cX2_countIn 28 = .ok (.return_, 1) := by decide +kernel
theorem dX2_nearestToHalf_0 : decode cX2_nearestToHalf 0 = .ok (.iconst (-1), 1) := by decide +kernel
theorem dX2_nearestToHalf_1 : decode cX2_nearestToHalf 1 = .ok (.istore_n 3, 1) := by decide +kernel
theorem dX2_nearestToHalf_2 : decode cX2_nearestToHalf 2 = .ok (.sipush 1000, 3) := by decide +kernel
theorem dX2_nearestToHalf_5 : decode cX2_nearestToHalf 5 = .ok (.istore 4, 2) := by decide +kernel
theorem dX2_nearestToHalf_7 : decode cX2_nearestToHalf 7 = .ok (.iconst 0, 1) := by decide +kernel
theorem dX2_nearestToHalf_8 : decode cX2_nearestToHalf 8 = .ok (.istore 5, 2) := by decide +kernel
theorem dX2_nearestToHalf_10 : decode cX2_nearestToHalf 10 = .ok (.iload 5, 2) := by decide +kernel
theorem dX2_nearestToHalf_12 : decode cX2_nearestToHalf 12 = .ok (.iload_n 1, 1) := by decide +kernel
theorem dX2_nearestToHalf_13 : decode cX2_nearestToHalf 13 = .ok (.if_icmp .ge 39, 3) := by decide +kernel
theorem dX2_nearestToHalf_16 : decode cX2_nearestToHalf 16 = .ok (.iconst 2, 1) := by decide +kernel
theorem dX2_nearestToHalf_17 : decode cX2_nearestToHalf 17 = .ok (.aload_n 0, 1) := by decide +kernel
theorem dX2_nearestToHalf_18 : decode cX2_nearestToHalf 18 = .ok (.getfield 9, 3) := by decide +kernel
theorem dX2_nearestToHalf_21 : decode cX2_nearestToHalf 21 = .ok (.iload 5, 2) := by decide +kernel
theorem dX2_nearestToHalf_23 : decode cX2_nearestToHalf 23 = .ok (.iaload, 1) := by decide +kernel
theorem dX2_nearestToHalf_24 : decode cX2_nearestToHalf 24 = .ok (.imul, 1) := by decide +kernel
theorem dX2_nearestToHalf_25 : decode cX2_nearestToHalf 25 = .ok (.iload_n 2, 1) := by decide +kernel
theorem dX2_nearestToHalf_26 : decode cX2_nearestToHalf 26 = .ok (.isub, 1) := by decide +kernel
theorem dX2_nearestToHalf_27 : decode cX2_nearestToHalf 27 = .ok (.invokestatic 48, 3) := by decide +kernel
theorem dX2_nearestToHalf_30 : decode cX2_nearestToHalf 30 = .ok (.istore 6, 2) := by decide +kernel
theorem dX2_nearestToHalf_32 : decode cX2_nearestToHalf 32 = .ok (.iload 6, 2) := by decide +kernel
theorem dX2_nearestToHalf_34 : decode cX2_nearestToHalf 34 = .ok (.iload 4, 2) := by decide +kernel
theorem dX2_nearestToHalf_36 : decode cX2_nearestToHalf 36 = .ok (.if_icmp .ge 10, 3) := by decide +kernel
theorem dX2_nearestToHalf_39 : decode cX2_nearestToHalf 39 = .ok (.iload 6, 2) := by decide +kernel
theorem dX2_nearestToHalf_41 : decode cX2_nearestToHalf 41 = .ok (.istore 4, 2) := by decide +kernel
theorem dX2_nearestToHalf_43 : decode cX2_nearestToHalf 43 = .ok (.iload 5, 2) := by decide +kernel
theorem dX2_nearestToHalf_45 : decode cX2_nearestToHalf 45 = .ok (.istore_n 3, 1) := by decide +kernel
theorem dX2_nearestToHalf_46 : decode cX2_nearestToHalf 46 = .ok (.iinc 5 1, 3) := by decide +kernel
theorem dX2_nearestToHalf_49 : decode cX2_nearestToHalf 49 = .ok (.goto (-39), 3) := by decide +kernel
theorem dX2_nearestToHalf_52 : decode cX2_nearestToHalf 52 = .ok (.iload_n 3, 1) := by decide +kernel
theorem dX2_nearestToHalf_53 : decode cX2_nearestToHalf 53 = .ok (.ireturn, 1) := by decide +kernel
theorem dX6_isChild_0 : decode cX6_isChild 0 = .ok (.iload_n 2, 1) := by decide +kernel
theorem dX6_isChild_1 : decode cX6_isChild 1 = .ok (.iconst (-1), 1) := by decide +kernel
theorem dX6_isChild_2 : decode cX6_isChild 2 = .ok (.if_icmp .eq 17, 3) := by decide +kernel
theorem dX6_isChild_5 : decode cX6_isChild 5 = .ok (.aload_n 0, 1) := by decide +kernel
theorem dX6_isChild_6 : decode cX6_isChild 6 = .ok (.getfield 45, 3) := by decide +kernel
theorem dX6_isChild_9 : decode cX6_isChild 9 = .ok (.iload_n 1, 1) := by decide +kernel
theorem dX6_isChild_10 : decode cX6_isChild 10 = .ok (.iaload, 1) := by decide +kernel
theorem dX6_isChild_11 : decode cX6_isChild 11 = .ok (.iload_n 2, 1) := by decide +kernel
theorem dX6_isChild_12 : decode cX6_isChild 12 = .ok (.if_icmp .ne 7, 3) := by decide +kernel
theorem dX6_isChild_15 : decode cX6_isChild 15 = .ok (.iconst 1, 1) := by decide +kernel
theorem dX6_isChild_16 : decode cX6_isChild 16 = .ok (.goto 4, 3) := by decide +kernel
theorem dX6_isChild_19 : decode cX6_isChild 19 = .ok (.iconst 0, 1) := by decide +kernel
theorem dX6_isChild_20 : decode cX6_isChild 20 = .ok (.ireturn, 1) := by decide +kernel
theorem dX6_leastFor_0 : decode cX6_leastFor 0 = .ok (.iconst 0, 1) := by decide +kernel
theorem dX6_leastFor_1 : decode cX6_leastFor 1 = .ok (.istore 4, 2) := by decide +kernel
theorem dX6_leastFor_3 : decode cX6_leastFor 3 = .ok (.iload 4, 2) := by decide +kernel
theorem dX6_leastFor_5 : decode cX6_leastFor 5 = .ok (.aload_n 0, 1) := by decide +kernel
theorem dX6_leastFor_6 : decode cX6_leastFor 6 = .ok (.getfield 33, 3) := by decide +kernel
theorem dX6_leastFor_9 : decode cX6_leastFor 9 = .ok (.if_icmp .ge 47, 3) := by decide +kernel
theorem dX6_leastFor_12 : decode cX6_leastFor 12 = .ok (.iload_n 1, 1) := by decide +kernel
theorem dX6_leastFor_13 : decode cX6_leastFor 13 = .ok (.iconst 1, 1) := by decide +kernel
theorem dX6_leastFor_14 : decode cX6_leastFor 14 = .ok (.iload 4, 2) := by decide +kernel
theorem dX6_leastFor_16 : decode cX6_leastFor 16 = .ok (.ishl, 1) := by decide +kernel
theorem dX6_leastFor_17 : decode cX6_leastFor 17 = .ok (.iconst (-1), 1) := by decide +kernel
theorem dX6_leastFor_18 : decode cX6_leastFor 18 = .ok (.ixor, 1) := by decide +kernel
theorem dX6_leastFor_19 : decode cX6_leastFor 19 = .ok (.iand, 1) := by decide +kernel
theorem dX6_leastFor_20 : decode cX6_leastFor 20 = .ok (.istore 5, 2) := by decide +kernel
theorem dX6_leastFor_22 : decode cX6_leastFor 22 = .ok (.iload 5, 2) := by decide +kernel
theorem dX6_leastFor_24 : decode cX6_leastFor 24 = .ok (.iload_n 1, 1) := by decide +kernel
theorem dX6_leastFor_25 : decode cX6_leastFor 25 = .ok (.if_icmp .eq 25, 3) := by decide +kernel
theorem dX6_leastFor_28 : decode cX6_leastFor 28 = .ok (.aload_n 0, 1) := by decide +kernel
theorem dX6_leastFor_29 : decode cX6_leastFor 29 = .ok (.iload 4, 2) := by decide +kernel
theorem dX6_leastFor_31 : decode cX6_leastFor 31 = .ok (.iload_n 2, 1) := by decide +kernel
theorem dX6_leastFor_32 : decode cX6_leastFor 32 = .ok (.invokestatic 42, 3) := by decide +kernel
theorem dX6_leastFor_35 : decode cX6_leastFor 35 = .ok (.aload_n 0, 1) := by decide +kernel
theorem dX6_leastFor_36 : decode cX6_leastFor 36 = .ok (.iload_n 1, 1) := by decide +kernel
theorem dX6_leastFor_37 : decode cX6_leastFor 37 = .ok (.iload 5, 2) := by decide +kernel
theorem dX6_leastFor_39 : decode cX6_leastFor 39 = .ok (.invokestatic 29, 3) := by decide +kernel
theorem dX6_leastFor_42 : decode cX6_leastFor 42 = .ok (.iadd, 1) := by decide +kernel
theorem dX6_leastFor_43 : decode cX6_leastFor 43 = .ok (.iload_n 3, 1) := by decide +kernel
theorem dX6_leastFor_44 : decode cX6_leastFor 44 = .ok (.if_icmp .ne 6, 3) := by decide +kernel
theorem dX6_leastFor_47 : decode cX6_leastFor 47 = .ok (.iload 4, 2) := by decide +kernel
theorem dX6_leastFor_49 : decode cX6_leastFor 49 = .ok (.ireturn, 1) := by decide +kernel
theorem dX6_leastFor_50 : decode cX6_leastFor 50 = .ok (.iinc 4 1, 3) := by decide +kernel
theorem dX6_leastFor_53 : decode cX6_leastFor 53 = .ok (.goto (-50), 3) := by decide +kernel
theorem dX6_leastFor_56 : decode cX6_leastFor 56 = .ok (.iconst (-1), 1) := by decide +kernel
theorem dX6_leastFor_57 : decode cX6_leastFor 57 = .ok (.ireturn, 1) := by decide +kernel
theorem dX6_parentsAmong_0 : decode cX6_parentsAmong 0 = .ok (.iconst 0, 1) := by decide +kernel
theorem dX6_parentsAmong_1 : decode cX6_parentsAmong 1 = .ok (.istore_n 3, 1) := by decide +kernel
theorem dX6_parentsAmong_2 : decode cX6_parentsAmong 2 = .ok (.iconst 0, 1) := by decide +kernel
theorem dX6_parentsAmong_3 : decode cX6_parentsAmong 3 = .ok (.istore 4, 2) := by decide +kernel
theorem dX6_parentsAmong_5 : decode cX6_parentsAmong 5 = .ok (.iload 4, 2) := by decide +kernel
theorem dX6_parentsAmong_7 : decode cX6_parentsAmong 7 = .ok (.aload_n 0, 1) := by decide +kernel
theorem dX6_parentsAmong_8 : decode cX6_parentsAmong 8 = .ok (.getfield 33, 3) := by decide +kernel
theorem dX6_parentsAmong_11 : decode cX6_parentsAmong 11 = .ok (.if_icmp .ge 32, 3) := by decide +kernel
theorem dX6_parentsAmong_14 : decode cX6_parentsAmong 14 = .ok (.iload_n 1, 1) := by decide +kernel
theorem dX6_parentsAmong_15 : decode cX6_parentsAmong 15 = .ok (.iload 4, 2) := by decide +kernel
theorem dX6_parentsAmong_17 : decode cX6_parentsAmong 17 = .ok (.ishr, 1) := by decide +kernel
theorem dX6_parentsAmong_18 : decode cX6_parentsAmong 18 = .ok (.iconst 1, 1) := by decide +kernel
theorem dX6_parentsAmong_19 : decode cX6_parentsAmong 19 = .ok (.iand, 1) := by decide +kernel
theorem dX6_parentsAmong_20 : decode cX6_parentsAmong 20 = .ok (.ifCond .eq 17, 3) := by decide +kernel
theorem dX6_parentsAmong_23 : decode cX6_parentsAmong 23 = .ok (.aload_n 0, 1) := by decide +kernel
theorem dX6_parentsAmong_24 : decode cX6_parentsAmong 24 = .ok (.iload 4, 2) := by decide +kernel
theorem dX6_parentsAmong_26 : decode cX6_parentsAmong 26 = .ok (.invokevirtual 48, 3) := by decide +kernel
theorem dX6_parentsAmong_29 : decode cX6_parentsAmong 29 = .ok (.iload_n 2, 1) := by decide +kernel
theorem dX6_parentsAmong_30 : decode cX6_parentsAmong 30 = .ok (.iand, 1) := by decide +kernel
theorem dX6_parentsAmong_31 : decode cX6_parentsAmong 31 = .ok (.ifCond .eq 6, 3) := by decide +kernel
theorem dX6_parentsAmong_34 : decode cX6_parentsAmong 34 = .ok (.iinc 3 1, 3) := by decide +kernel
theorem dX6_parentsAmong_37 : decode cX6_parentsAmong 37 = .ok (.iinc 4 1, 3) := by decide +kernel
theorem dX6_parentsAmong_40 : decode cX6_parentsAmong 40 = .ok (.goto (-35), 3) := by decide +kernel
theorem dX6_parentsAmong_43 : decode cX6_parentsAmong 43 = .ok (.iload_n 3, 1) := by decide +kernel
theorem dX6_parentsAmong_44 : decode cX6_parentsAmong 44 = .ok (.ireturn, 1) := by decide +kernel
theorem dX6_seat_0 : decode cX6_seat 0 = .ok (.aload_n 1, 1) := by decide +kernel
theorem dX6_seat_1 : decode cX6_seat 1 = .ok (.getfield 19, 3) := by decide +kernel
theorem dX6_seat_4 : decode cX6_seat 4 = .ok (.astore_n 2, 1) := by decide +kernel
theorem dX6_seat_5 : decode cX6_seat 5 = .ok (.aload_n 1, 1) := by decide +kernel
theorem dX6_seat_6 : decode cX6_seat 6 = .ok (.invokevirtual 25, 3) := by decide +kernel
theorem dX6_seat_9 : decode cX6_seat 9 = .ok (.istore_n 3, 1) := by decide +kernel
theorem dX6_seat_10 : decode cX6_seat 10 = .ok (.aload_n 2, 1) := by decide +kernel
theorem dX6_seat_11 : decode cX6_seat 11 = .ok (.iload_n 3, 1) := by decide +kernel
theorem dX6_seat_12 : decode cX6_seat 12 = .ok (.iload_n 3, 1) := by decide +kernel
theorem dX6_seat_13 : decode cX6_seat 13 = .ok (.invokestatic 29, 3) := by decide +kernel
theorem dX6_seat_16 : decode cX6_seat 16 = .ok (.istore 4, 2) := by decide +kernel
theorem dX6_seat_18 : decode cX6_seat 18 = .ok (.iconst 0, 1) := by decide +kernel
theorem dX6_seat_19 : decode cX6_seat 19 = .ok (.istore 5, 2) := by decide +kernel
theorem dX6_seat_21 : decode cX6_seat 21 = .ok (.iconst (-1), 1) := by decide +kernel
theorem dX6_seat_22 : decode cX6_seat 22 = .ok (.istore 6, 2) := by decide +kernel
theorem dX6_seat_24 : decode cX6_seat 24 = .ok (.aload_n 0, 1) := by decide +kernel
theorem dX6_seat_25 : decode cX6_seat 25 = .ok (.iconst 0, 1) := by decide +kernel
theorem dX6_seat_26 : decode cX6_seat 26 = .ok (.putfield 15, 3) := by decide +kernel
theorem dX6_seat_29 : decode cX6_seat 29 = .ok (.iconst 0, 1) := by decide +kernel
theorem dX6_seat_30 : decode cX6_seat 30 = .ok (.istore 7, 2) := by decide +kernel
theorem dX6_seat_32 : decode cX6_seat 32 = .ok (.iload 7, 2) := by decide +kernel
theorem dX6_seat_34 : decode cX6_seat 34 = .ok (.aload_n 2, 1) := by decide +kernel
theorem dX6_seat_35 : decode cX6_seat 35 = .ok (.getfield 33, 3) := by decide +kernel
theorem dX6_seat_38 : decode cX6_seat 38 = .ok (.if_icmp .ge 92, 3) := by decide +kernel
theorem dX6_seat_41 : decode cX6_seat 41 = .ok (.iload_n 3, 1) := by decide +kernel
theorem dX6_seat_42 : decode cX6_seat 42 = .ok (.ifCond .eq 88, 3) := by decide +kernel
theorem dX6_seat_45 : decode cX6_seat 45 = .ok (.aload_n 2, 1) := by decide +kernel
theorem dX6_seat_46 : decode cX6_seat 46 = .ok (.iload_n 3, 1) := by decide +kernel
theorem dX6_seat_47 : decode cX6_seat 47 = .ok (.iload 6, 2) := by decide +kernel
theorem dX6_seat_49 : decode cX6_seat 49 = .ok (.iload 4, 2) := by decide +kernel
theorem dX6_seat_51 : decode cX6_seat 51 = .ok (.iload 5, 2) := by decide +kernel
theorem dX6_seat_53 : decode cX6_seat 53 = .ok (.isub, 1) := by decide +kernel
theorem dX6_seat_54 : decode cX6_seat 54 = .ok (.invokestatic 38, 3) := by decide +kernel
theorem dX6_seat_57 : decode cX6_seat 57 = .ok (.istore 8, 2) := by decide +kernel
theorem dX6_seat_59 : decode cX6_seat 59 = .ok (.iload 8, 2) := by decide +kernel
theorem dX6_seat_61 : decode cX6_seat 61 = .ok (.iconst (-1), 1) := by decide +kernel
theorem dX6_seat_62 : decode cX6_seat 62 = .ok (.if_icmp .eq 12, 3) := by decide +kernel
theorem dX6_seat_65 : decode cX6_seat 65 = .ok (.aload_n 0, 1) := by decide +kernel
theorem dX6_seat_66 : decode cX6_seat 66 = .ok (.getfield 15, 3) := by decide +kernel
theorem dX6_seat_69 : decode cX6_seat 69 = .ok (.bipush 7, 2) := by decide +kernel
theorem dX6_seat_71 : decode cX6_seat 71 = .ok (.if_icmp .lt 6, 3) := by decide +kernel
theorem dX6_seat_74 : decode cX6_seat 74 = .ok (.iload 5, 2) := by decide +kernel
theorem dX6_seat_76 : decode cX6_seat 76 = .ok (.ireturn, 1) := by decide +kernel
theorem dX6_seat_77 : decode cX6_seat 77 = .ok (.iload 5, 2) := by decide +kernel
theorem dX6_seat_79 : decode cX6_seat 79 = .ok (.aload_n 2, 1) := by decide +kernel
theorem dX6_seat_80 : decode cX6_seat 80 = .ok (.iload 8, 2) := by decide +kernel
theorem dX6_seat_82 : decode cX6_seat 82 = .ok (.iload 6, 2) := by decide +kernel
theorem dX6_seat_84 : decode cX6_seat 84 = .ok (.invokestatic 42, 3) := by decide +kernel
theorem dX6_seat_87 : decode cX6_seat 87 = .ok (.iadd, 1) := by decide +kernel
theorem dX6_seat_88 : decode cX6_seat 88 = .ok (.istore 5, 2) := by decide +kernel
theorem dX6_seat_90 : decode cX6_seat 90 = .ok (.aload_n 0, 1) := by decide +kernel
theorem dX6_seat_91 : decode cX6_seat 91 = .ok (.getfield 9, 3) := by decide +kernel
theorem dX6_seat_94 : decode cX6_seat 94 = .ok (.aload_n 0, 1) := by decide +kernel
theorem dX6_seat_95 : decode cX6_seat 95 = .ok (.getfield 15, 3) := by decide +kernel
theorem dX6_seat_98 : decode cX6_seat 98 = .ok (.iload 8, 2) := by decide +kernel
theorem dX6_seat_100 : decode cX6_seat 100 = .ok (.iastore, 1) := by decide +kernel
theorem dX6_seat_101 : decode cX6_seat 101 = .ok (.aload_n 0, 1) := by decide +kernel
theorem dX6_seat_102 : decode cX6_seat 102 = .ok (.dup, 1) := by decide +kernel
theorem dX6_seat_103 : decode cX6_seat 103 = .ok (.getfield 15, 3) := by decide +kernel
theorem dX6_seat_106 : decode cX6_seat 106 = .ok (.iconst 1, 1) := by decide +kernel
theorem dX6_seat_107 : decode cX6_seat 107 = .ok (.iadd, 1) := by decide +kernel
theorem dX6_seat_108 : decode cX6_seat 108 = .ok (.putfield 15, 3) := by decide +kernel
theorem dX6_seat_111 : decode cX6_seat 111 = .ok (.iload_n 3, 1) := by decide +kernel
theorem dX6_seat_112 : decode cX6_seat 112 = .ok (.iconst 1, 1) := by decide +kernel
theorem dX6_seat_113 : decode cX6_seat 113 = .ok (.iload 8, 2) := by decide +kernel
theorem dX6_seat_115 : decode cX6_seat 115 = .ok (.ishl, 1) := by decide +kernel
theorem dX6_seat_116 : decode cX6_seat 116 = .ok (.iconst (-1), 1) := by decide +kernel
theorem dX6_seat_117 : decode cX6_seat 117 = .ok (.ixor, 1) := by decide +kernel
theorem dX6_seat_118 : decode cX6_seat 118 = .ok (.iand, 1) := by decide +kernel
theorem dX6_seat_119 : decode cX6_seat 119 = .ok (.istore_n 3, 1) := by decide +kernel
theorem dX6_seat_120 : decode cX6_seat 120 = .ok (.iload 8, 2) := by decide +kernel
theorem dX6_seat_122 : decode cX6_seat 122 = .ok (.istore 6, 2) := by decide +kernel
theorem dX6_seat_124 : decode cX6_seat 124 = .ok (.iinc 7 1, 3) := by decide +kernel
theorem dX6_seat_127 : decode cX6_seat 127 = .ok (.goto (-95), 3) := by decide +kernel
theorem dX6_seat_130 : decode cX6_seat 130 = .ok (.iload 5, 2) := by decide +kernel
theorem dX6_seat_132 : decode cX6_seat 132 = .ok (.ireturn, 1) := by decide +kernel
theorem dX8_shareOf_0 : decode cX8_shareOf 0 = .ok (.iconst 0, 1) := by decide +kernel
theorem dX8_shareOf_1 : decode cX8_shareOf 1 = .ok (.istore 4, 2) := by decide +kernel
theorem dX8_shareOf_3 : decode cX8_shareOf 3 = .ok (.iconst 0, 1) := by decide +kernel
theorem dX8_shareOf_4 : decode cX8_shareOf 4 = .ok (.istore 5, 2) := by decide +kernel
theorem dX8_shareOf_6 : decode cX8_shareOf 6 = .ok (.iload 5, 2) := by decide +kernel
theorem dX8_shareOf_8 : decode cX8_shareOf 8 = .ok (.aload_n 0, 1) := by decide +kernel
theorem dX8_shareOf_9 : decode cX8_shareOf 9 = .ok (.getfield 28, 3) := by decide +kernel
theorem dX8_shareOf_12 : decode cX8_shareOf 12 = .ok (.if_icmp .ge 28, 3) := by decide +kernel
theorem dX8_shareOf_15 : decode cX8_shareOf 15 = .ok (.iload 4, 2) := by decide +kernel
theorem dX8_shareOf_17 : decode cX8_shareOf 17 = .ok (.iload_n 2, 1) := by decide +kernel
theorem dX8_shareOf_18 : decode cX8_shareOf 18 = .ok (.iload 5, 2) := by decide +kernel
theorem dX8_shareOf_20 : decode cX8_shareOf 20 = .ok (.ishr, 1) := by decide +kernel
theorem dX8_shareOf_21 : decode cX8_shareOf 21 = .ok (.iconst 1, 1) := by decide +kernel
theorem dX8_shareOf_22 : decode cX8_shareOf 22 = .ok (.iand, 1) := by decide +kernel
theorem dX8_shareOf_23 : decode cX8_shareOf 23 = .ok (.aload_n 0, 1) := by decide +kernel
theorem dX8_shareOf_24 : decode cX8_shareOf 24 = .ok (.getfield 15, 3) := by decide +kernel
theorem dX8_shareOf_27 : decode cX8_shareOf 27 = .ok (.iload 5, 2) := by decide +kernel
theorem dX8_shareOf_29 : decode cX8_shareOf 29 = .ok (.iaload, 1) := by decide +kernel
theorem dX8_shareOf_30 : decode cX8_shareOf 30 = .ok (.imul, 1) := by decide +kernel
theorem dX8_shareOf_31 : decode cX8_shareOf 31 = .ok (.iadd, 1) := by decide +kernel
theorem dX8_shareOf_32 : decode cX8_shareOf 32 = .ok (.istore 4, 2) := by decide +kernel
theorem dX8_shareOf_34 : decode cX8_shareOf 34 = .ok (.iinc 5 1, 3) := by decide +kernel
theorem dX8_shareOf_37 : decode cX8_shareOf 37 = .ok (.goto (-31), 3) := by decide +kernel
theorem dX8_shareOf_40 : decode cX8_shareOf 40 = .ok (.iload 4, 2) := by decide +kernel
theorem dX8_shareOf_42 : decode cX8_shareOf 42 = .ok (.ifCond .gt 5, 3) := by decide +kernel
theorem dX8_shareOf_45 : decode cX8_shareOf 45 = .ok (.iconst 0, 1) := by decide +kernel
theorem dX8_shareOf_46 : decode cX8_shareOf 46 = .ok (.ireturn, 1) := by decide +kernel
theorem dX8_shareOf_47 : decode cX8_shareOf 47 = .ok (.iload_n 1, 1) := by decide +kernel
theorem dX8_shareOf_48 : decode cX8_shareOf 48 = .ok (.istore 5, 2) := by decide +kernel
theorem dX8_shareOf_50 : decode cX8_shareOf 50 = .ok (.iconst 0, 1) := by decide +kernel
theorem dX8_shareOf_51 : decode cX8_shareOf 51 = .ok (.istore 6, 2) := by decide +kernel
theorem dX8_shareOf_53 : decode cX8_shareOf 53 = .ok (.iload_n 1, 1) := by decide +kernel
theorem dX8_shareOf_54 : decode cX8_shareOf 54 = .ok (.aload_n 0, 1) := by decide +kernel
theorem dX8_shareOf_55 : decode cX8_shareOf 55 = .ok (.getfield 15, 3) := by decide +kernel
theorem dX8_shareOf_58 : decode cX8_shareOf 58 = .ok (.iload_n 3, 1) := by decide +kernel
theorem dX8_shareOf_59 : decode cX8_shareOf 59 = .ok (.iaload, 1) := by decide +kernel
theorem dX8_shareOf_60 : decode cX8_shareOf 60 = .ok (.imul, 1) := by decide +kernel
theorem dX8_shareOf_61 : decode cX8_shareOf 61 = .ok (.iload 4, 2) := by decide +kernel
theorem dX8_shareOf_63 : decode cX8_shareOf 63 = .ok (.irem, 1) := by decide +kernel
theorem dX8_shareOf_64 : decode cX8_shareOf 64 = .ok (.istore 7, 2) := by decide +kernel
theorem dX8_shareOf_66 : decode cX8_shareOf 66 = .ok (.iconst 0, 1) := by decide +kernel
theorem dX8_shareOf_67 : decode cX8_shareOf 67 = .ok (.istore 8, 2) := by decide +kernel
theorem dX8_shareOf_69 : decode cX8_shareOf 69 = .ok (.iload 8, 2) := by decide +kernel
theorem dX8_shareOf_71 : decode cX8_shareOf 71 = .ok (.aload_n 0, 1) := by decide +kernel
theorem dX8_shareOf_72 : decode cX8_shareOf 72 = .ok (.getfield 28, 3) := by decide +kernel
theorem dX8_shareOf_75 : decode cX8_shareOf 75 = .ok (.if_icmp .ge 72, 3) := by decide +kernel
theorem dX8_shareOf_78 : decode cX8_shareOf 78 = .ok (.iload_n 2, 1) := by decide +kernel
theorem dX8_shareOf_79 : decode cX8_shareOf 79 = .ok (.iload 8, 2) := by decide +kernel
theorem dX8_shareOf_81 : decode cX8_shareOf 81 = .ok (.ishr, 1) := by decide +kernel
theorem dX8_shareOf_82 : decode cX8_shareOf 82 = .ok (.iconst 1, 1) := by decide +kernel
theorem dX8_shareOf_83 : decode cX8_shareOf 83 = .ok (.iand, 1) := by decide +kernel
theorem dX8_shareOf_84 : decode cX8_shareOf 84 = .ok (.ifCond .eq 57, 3) := by decide +kernel
theorem dX8_shareOf_87 : decode cX8_shareOf 87 = .ok (.iload_n 1, 1) := by decide +kernel
theorem dX8_shareOf_88 : decode cX8_shareOf 88 = .ok (.aload_n 0, 1) := by decide +kernel
theorem dX8_shareOf_89 : decode cX8_shareOf 89 = .ok (.getfield 15, 3) := by decide +kernel
theorem dX8_shareOf_92 : decode cX8_shareOf 92 = .ok (.iload 8, 2) := by decide +kernel
theorem dX8_shareOf_94 : decode cX8_shareOf 94 = .ok (.iaload, 1) := by decide +kernel
theorem dX8_shareOf_95 : decode cX8_shareOf 95 = .ok (.imul, 1) := by decide +kernel
theorem dX8_shareOf_96 : decode cX8_shareOf 96 = .ok (.iload 4, 2) := by decide +kernel
theorem dX8_shareOf_98 : decode cX8_shareOf 98 = .ok (.irem, 1) := by decide +kernel
theorem dX8_shareOf_99 : decode cX8_shareOf 99 = .ok (.istore 9, 2) := by decide +kernel
theorem dX8_shareOf_101 : decode cX8_shareOf 101 = .ok (.iload 5, 2) := by decide +kernel
theorem dX8_shareOf_103 : decode cX8_shareOf 103 = .ok (.iload_n 1, 1) := by decide +kernel
theorem dX8_shareOf_104 : decode cX8_shareOf 104 = .ok (.aload_n 0, 1) := by decide +kernel
theorem dX8_shareOf_105 : decode cX8_shareOf 105 = .ok (.getfield 15, 3) := by decide +kernel
theorem dX8_shareOf_108 : decode cX8_shareOf 108 = .ok (.iload 8, 2) := by decide +kernel
theorem dX8_shareOf_110 : decode cX8_shareOf 110 = .ok (.iaload, 1) := by decide +kernel
theorem dX8_shareOf_111 : decode cX8_shareOf 111 = .ok (.imul, 1) := by decide +kernel
theorem dX8_shareOf_112 : decode cX8_shareOf 112 = .ok (.iload 4, 2) := by decide +kernel
theorem dX8_shareOf_114 : decode cX8_shareOf 114 = .ok (.idiv, 1) := by decide +kernel
theorem dX8_shareOf_115 : decode cX8_shareOf 115 = .ok (.isub, 1) := by decide +kernel
theorem dX8_shareOf_116 : decode cX8_shareOf 116 = .ok (.istore 5, 2) := by decide +kernel
theorem dX8_shareOf_118 : decode cX8_shareOf 118 = .ok (.iload 9, 2) := by decide +kernel
theorem dX8_shareOf_120 : decode cX8_shareOf 120 = .ok (.iload 7, 2) := by decide +kernel
theorem dX8_shareOf_122 : decode cX8_shareOf 122 = .ok (.if_icmp .gt 16, 3) := by decide +kernel
theorem dX8_shareOf_125 : decode cX8_shareOf 125 = .ok (.iload 9, 2) := by decide +kernel
theorem dX8_shareOf_127 : decode cX8_shareOf 127 = .ok (.iload 7, 2) := by decide +kernel
theorem dX8_shareOf_129 : decode cX8_shareOf 129 = .ok (.if_icmp .ne 12, 3) := by decide +kernel
theorem dX8_shareOf_132 : decode cX8_shareOf 132 = .ok (.iload 8, 2) := by decide +kernel
theorem dX8_shareOf_134 : decode cX8_shareOf 134 = .ok (.iload_n 3, 1) := by decide +kernel
theorem dX8_shareOf_135 : decode cX8_shareOf 135 = .ok (.if_icmp .ge 6, 3) := by decide +kernel
theorem dX8_shareOf_138 : decode cX8_shareOf 138 = .ok (.iinc 6 1, 3) := by decide +kernel
theorem dX8_shareOf_141 : decode cX8_shareOf 141 = .ok (.iinc 8 1, 3) := by decide +kernel
theorem dX8_shareOf_144 : decode cX8_shareOf 144 = .ok (.goto (-75), 3) := by decide +kernel
theorem dX8_shareOf_147 : decode cX8_shareOf 147 = .ok (.iload_n 1, 1) := by decide +kernel
theorem dX8_shareOf_148 : decode cX8_shareOf 148 = .ok (.aload_n 0, 1) := by decide +kernel
theorem dX8_shareOf_149 : decode cX8_shareOf 149 = .ok (.getfield 15, 3) := by decide +kernel
theorem dX8_shareOf_152 : decode cX8_shareOf 152 = .ok (.iload_n 3, 1) := by decide +kernel
theorem dX8_shareOf_153 : decode cX8_shareOf 153 = .ok (.iaload, 1) := by decide +kernel
theorem dX8_shareOf_154 : decode cX8_shareOf 154 = .ok (.imul, 1) := by decide +kernel
theorem dX8_shareOf_155 : decode cX8_shareOf 155 = .ok (.iload 4, 2) := by decide +kernel
theorem dX8_shareOf_157 : decode cX8_shareOf 157 = .ok (.idiv, 1) := by decide +kernel
theorem dX8_shareOf_158 : decode cX8_shareOf 158 = .ok (.iload 6, 2) := by decide +kernel
theorem dX8_shareOf_160 : decode cX8_shareOf 160 = .ok (.iload 5, 2) := by decide +kernel
theorem dX8_shareOf_162 : decode cX8_shareOf 162 = .ok (.if_icmp .ge 7, 3) := by decide +kernel
theorem dX8_shareOf_165 : decode cX8_shareOf 165 = .ok (.iconst 1, 1) := by decide +kernel
theorem dX8_shareOf_166 : decode cX8_shareOf 166 = .ok (.goto 4, 3) := by decide +kernel
theorem dX8_shareOf_169 : decode cX8_shareOf 169 = .ok (.iconst 0, 1) := by decide +kernel
theorem dX8_shareOf_170 : decode cX8_shareOf 170 = .ok (.iadd, 1) := by decide +kernel
theorem dX8_shareOf_171 : decode cX8_shareOf 171 = .ok (.ireturn, 1) := by decide +kernel
theorem rc_255 : Rg 255 255 255 := ⟨by decide, by decide⟩
theorem rc_1000 : Rg 1000 1000 1000 := ⟨by decide, by decide⟩
set_option maxRecDepth 100000 in
set_option maxHeartbeats 8000000 in
theorem c_X10_byteOf {l : Launch} {D : va_G} {cy : Nat → ClassId} {L : List Nat} {κ ln : Nat → Nat} {R : Nat → Nat → Option Nat} {I : Nat → Nat → Int32} {J : Nat → Nat → Int64} {ow : Nat → Nat × Nat} (W9 : ∀ a ∈ L, Shp L κ ln R ow a) {x : Nat} (hLx : x ∈ L) (hkx : κ x = 10) (a0 : Int32) (ra0 : Rg 0 1 a0) (hU : Uv L κ ow I) : CtI l yX10_byteOf cX10_byteOf 2 (some .int) { frames := 0, cells := 0, slots := 0, locals := 0 } D cy L κ ln R I J [.ref x, .int a0] (fun r I2 J2 => I = I2 ∧ J = J2 ∧ Rg (-1) 255 r) := by
  refine CtI.of (by decide +kernel) (Nat.le_of_ble_eq_true rfl) ?_
  intro p e s m below meth c B K
  have C := B.1
  obtain ⟨b_408887, hb_408887, hb_408887L, hb_408887k, hb_408887n, hb_408887o⟩ := shp_a (W9 x hLx) hkx 0 13 940 rfl (by decide)
  refine g_lo (is := [0, 1]) (lo2 := [(0, .ref x), (1, .int a0)]) rfl ?_
  refine g_iload_n C 1 dX10_byteOf_0 rfl rfl ?_
  refine g_if_lt C (tgt := 34) dX10_byteOf_1 (by decide) (fun h_408888 => ?_) (fun h_408888 => ?_)
  · skip
    have r_408889 := lt_l (hi := (-1)) (h_408888) ra0 rc_0 (by decide)
    exact rg_no r_408889 (by decide)
  · skip
    refine g_iload_n C 1 dX10_byteOf_4 rfl rfl ?_
    refine g_aload_n C 0 dX10_byteOf_5 rfl rfl ?_
    obtain ⟨x_408890, hx_408890, rx_408890⟩ := ex_get (I := I) (a := x) (j := 5) (lo := 0) (hi := 940) hU hLx (ro_o hkx (by decide)) rfl
    refine g_getI C K hLx hkx f_10_29 (v := x_408890) hx_408890 dX10_byteOf_6 ?_
    refine g_icmp_ge C (tgt := 34) dX10_byteOf_9 (by decide) (fun h_408891 => ?_) (fun h_408891 => ?_)
    · skip
      have r_408892 := le_l (h_408891) rx_408890 ra0
      refine g_iconst C (v := (-1)) dX10_byteOf_34 (by decide) ?_
      exact g_zret (ty := .int) (r := (-1)) B K rfl (rfl) ⟨rfl, rfl, rg_w rc_m1 (by decide) (by decide)⟩ dX10_byteOf_35
    · skip
      have r_408893 := lt_r (lo := 1) (nle h_408891) ra0 rx_408890 (by decide)
      refine g_iload_n C 1 dX10_byteOf_12 rfl rfl ?_
      refine g_aload_n C 0 dX10_byteOf_13 rfl rfl ?_
      refine g_getR C K hLx hkx f_10_9 hb_408887 dX10_byteOf_14 ?_
      refine g_alenB C K hb_408887L hb_408887k (v := 940) (by rw [hb_408887n]; rfl) dX10_byteOf_17 ?_
      refine g_icmp_ge C (tgt := 34) dX10_byteOf_18 (by decide) (fun h_408894 => ?_) (fun h_408894 => ?_)
      · skip
        have r_408895 := le_r (h_408894) rc_940 ra0
        exact rg_no r_408895 (by decide)
      · skip
        refine g_aload_n C 0 dX10_byteOf_21 rfl rfl ?_
        refine g_getR C K hLx hkx f_10_9 hb_408887 dX10_byteOf_22 ?_
        refine g_iload_n C 1 dX10_byteOf_25 rfl rfl ?_
        obtain ⟨x_408896, hx_408896, rx_408896⟩ := ex_get (I := I) (a := b_408887) (j := a0.toNatClampNeg) (lo := (-128)) (hi := 127) hU hb_408887L (ro_a hb_408887k (by decide) hb_408887o hkx rfl) (rfl)
        refine h_bald C K hb_408887L hb_408887k (v := x_408896) (a0.toNatClampNeg) (rfl) (ix_0 ra0 (by decide)) (ix_lt ra0 (by decide) hb_408887n (by decide)) hx_408896 dX10_byteOf_26 ?_
        refine g_sipush C (v := 255) dX10_byteOf_27 (by decide) ?_
        obtain ⟨x_408897, hx_408897, rx_408897⟩ := ex_andr (x := x_408896) (y := 255) (b := 255) (rg_w rc_255 (by decide) (by decide))
        refine g_iand C (v := x_408897) dX10_byteOf_30 hx_408897 ?_
        refine g_goto C (tgt := 35) dX10_byteOf_31 (by decide) ?_
        exact g_zret (ty := .int) (r := x_408897) B K rfl (rfl) ⟨rfl, rfl, rg_w rx_408897 (by decide) (by decide)⟩ dX10_byteOf_35
set_option maxRecDepth 100000 in
set_option maxHeartbeats 8000000 in
theorem c_X2_countIn {l : Launch} {D : va_G} {cy : Nat → ClassId} {L : List Nat} {κ ln : Nat → Nat} {R : Nat → Nat → Option Nat} {I : Nat → Nat → Int32} {J : Nat → Nat → Int64} {ow : Nat → Nat × Nat} (W9 : ∀ a ∈ L, Shp L κ ln R ow a) {x : Nat} (hLx : x ∈ L) (hkx : κ x = 2) (a0 : Int32) (ra0 : Rg 0 127 a0) (hU : Uv L κ ow I) : CtV l yX2_countIn cX2_countIn 3 none { frames := 0, cells := 0, slots := 0, locals := 0 } D cy L κ ln R I J [.ref x, .int a0] (fun I2 J2 => Uv L κ ow I2 ∧ Fq L κ ow [22000] I I2 ∧ Fq L κ ow [] J J2) := by
  refine CtV.of (by decide +kernel) (Nat.le_of_ble_eq_true rfl) ?_
  intro p e s m below meth c B K
  have C := B.1
  have hF : Fq L κ ow [22000] I I := fq_rf
  have hG : Fq L κ ow [] J J := fq_rf
  obtain ⟨b_408989, hb_408989, hb_408989L, hb_408989k, hb_408989n, hb_408989o⟩ := shp_a (W9 x hLx) hkx 0 14 7 rfl (by decide)
  refine g_lo (is := [0, 1]) (lo2 := [(0, .ref x), (1, .int a0)]) rfl ?_
  have l_2 : ∀ (n_2 : Nat) (I_408990 : Nat → Nat → Int32) (J_408991 : Nat → Nat → Int64) (hU_408992 : Uv L κ ow I_408990) (hF_408993 : Fq L κ ow [22000] I I_408990) (hG_408994 : Fq L κ ow [] J J_408991) (v_408995 : Int32) (rv_408995 : Rg 0 127 v_408995) (v_408996 : Int32) (rv_408996 : Rg 0 7 v_408996) (hm_408997 : 7 < (v_408996 : Int32).toInt + (n_2 : Int)), WG p l e { frames := 0, cells := 0, slots := 0, locals := 0 } s m ([.ref x, .int a0] : List Value).toArray below meth c 3 0 0 (MQ below (Qv_ D cy L κ ln R (fun I2 J2 => Uv L κ ow I2 ∧ Fq L κ ow [22000] I I2 ∧ Fq L κ ow [] J J2)) ([.ref x, .int a0] : List Value).toArray s 0 0 (Al_ L)) D cy (Al_ L) s.heap L κ ln R I_408990 J_408991 2 [(0, .ref x), (1, .int v_408995), (2, .int v_408996)] [] := by
    intro n_2
    induction n_2 with
    | zero =>
      intro I_408990 J_408991 hU_408992 hF_408993 hG_408994 v_408995 rv_408995 v_408996 rv_408996 hm_408997
      exact ms_0 rv_408996 hm_408997
    | succ n_2 ih_2 =>
      intro I_408990 J_408991 hU_408992 hF_408993 hG_408994 v_408995 rv_408995 v_408996 rv_408996 hm_408997
      refine g_iload_n C 2 dX2_countIn_2 rfl rfl ?_
      refine g_bipush C (v := 7) dX2_countIn_3 (by decide) ?_
      refine g_icmp_ge C (tgt := 28) dX2_countIn_5 (by decide) (fun h_408998 => ?_) (fun h_408998 => ?_)
      · skip
        have r_408999 := le_r (h_408998) rc_7 rv_408996
        exact g_vret B K rfl ⟨hU_408992, hF_408993, hG_408994⟩ dX2_countIn_28
      · skip
        have r_409000 := lt_l (hi := 6) (nle h_408998) rv_408996 rc_7 (by decide)
        refine g_aload_n C 0 dX2_countIn_8 rfl rfl ?_
        refine g_getR C K hLx hkx f_2_9 hb_408989 dX2_countIn_9 ?_
        refine g_iload_n C 2 dX2_countIn_12 rfl rfl ?_
        refine g_dup2 C dX2_countIn_13 rfl rfl ?_
        obtain ⟨x_409001, hx_409001, rx_409001⟩ := ex_get (I := I_408990) (a := b_408989) (j := v_408996.toNatClampNeg) (lo := (-2147483648)) (hi := 2147483647) hU_408992 hb_408989L (ro_a hb_408989k (by decide) hb_408989o hkx rfl) (rfl)
        refine h_iald C K hb_408989L hb_408989k (v := x_409001) (v_408996.toNatClampNeg) (rfl) (ix_0 r_409000 (by decide)) (ix_lt r_409000 (by decide) hb_408989n (by decide)) hx_409001 dX2_countIn_14 ?_
        refine g_iload_n C 1 dX2_countIn_15 rfl rfl ?_
        refine g_iload_n C 2 dX2_countIn_16 rfl rfl ?_
        obtain ⟨x_409002, hx_409002, rx_409002⟩ := ex_shr (x := v_408995) (y := v_408996) (b := 127) (rv_408995)
        refine g_ishr C (v := x_409002) dX2_countIn_17 hx_409002 ?_
        refine g_iconst C (v := 1) dX2_countIn_18 (by decide) ?_
        obtain ⟨x_409003, hx_409003, rx_409003⟩ := ex_andr (x := x_409002) (y := 1) (b := 1) (rg_w rc_1 (by decide) (by decide))
        refine g_iand C (v := x_409003) dX2_countIn_19 hx_409003 ?_
        obtain ⟨x_409004, hx_409004, rx_409004⟩ := ex_any (z0 := x_409001 + x_409003)
        refine g_iadd C (v := x_409004) dX2_countIn_20 hx_409004 ?_
        refine h_iast C K hb_408989L hb_408989k (v_408996.toNatClampNeg) (rfl) (ix_0 r_409000 (by decide)) (ix_lt r_409000 (by decide) hb_408989n (by decide)) dX2_countIn_21 (fun I_409005 hI_409005 => ?_)
        have hU_409006 := uv_put hU_408992 hI_409005 (ro_a hb_408989k (by decide) hb_408989o hkx rfl) (lo := (-2147483648)) (hi := 2147483647) (rfl) (rx_409004)
        have hF_409007 := fq_puta hF_408993 hI_409005 (ro_a hb_408989k (by decide) hb_408989o hkx rfl) (by decide) (by decide)
        obtain ⟨x_409008, hx_409008, rx_409008, tx_409008⟩ := ex_add (y := 1) 1 7 r_409000 rc_1 (by decide) (by decide) (by decide) (by decide)
        refine g_iinc C dX2_countIn_22 (k := 2) (v := x_409008) rfl hx_409008 (by decide) (lo2 := [(2, .int x_409008), (0, .ref x), (1, .int v_408995)]) rfl ?_
        refine g_goto C (tgt := 2) dX2_countIn_25 (by decide) ?_
        refine g_lo (is := [1, 2, 0]) (lo2 := [(0, .ref x), (1, .int v_408995), (2, .int x_409008)]) rfl ?_
        exact ih_2 I_409005 J_408991 hU_409006 hF_409007 hG_408994 v_408995 (rv_408995) x_409008 (rg_w rx_409008 (by decide) (by decide)) (ms_1 hm_408997 (ti_k tx_409008 rc_1) (by decide))
  refine g_iconst C (v := 0) dX2_countIn_0 (by decide) ?_
  refine g_istore_n C dX2_countIn_1 rfl (by decide) (lo2 := [(2, .int 0), (0, .ref x), (1, .int a0)]) rfl ?_
  refine g_lo (is := [1, 2, 0]) (lo2 := [(0, .ref x), (1, .int a0), (2, .int 0)]) rfl ?_
  exact l_2 8 I J hU hF hG a0 (ra0) 0 (rg_w rc_0 (by decide) (by decide)) (ms_s (N := 8) (rg_w rc_0 (by decide) (by decide)) (by decide))
set_option maxRecDepth 100000 in
set_option maxHeartbeats 8000000 in
theorem c_J9_abs_0f7a4 {l : Launch} {D : va_G} {cy : Nat → ClassId} {L : List Nat} {κ ln : Nat → Nat} {R : Nat → Nat → Option Nat} {I : Nat → Nat → Int32} {J : Nat → Nat → Int64} {ow : Nat → Nat × Nat} (W9 : ∀ a ∈ L, Shp L κ ln R ow a) (a0 : Int32) (hU : Uv L κ ow I) : CtI l yJ9_abs_0f7a4 cJ9_abs_0f7a4 1 (some .int) { frames := 0, cells := 0, slots := 0, locals := 0 } D cy L κ ln R I J [.int a0] (fun r I2 J2 => I = I2 ∧ J = J2 ∧ Rg (-2147483648) 2147483647 r) := by
  refine CtI.of (by decide +kernel) (Nat.le_of_ble_eq_true rfl) ?_
  intro p e s m below meth c B K
  have C := B.1
  refine g_lo (is := [0]) (lo2 := [(0, .int a0)]) rfl ?_
  refine g_iload_n C 0 dJ9_abs_0f7a4_0 rfl rfl ?_
  refine g_if_ge C (tgt := 9) dJ9_abs_0f7a4_1 (by decide) (fun h_409017 => ?_) (fun h_409017 => ?_)
  · skip
    have r_409018 := le_r (h_409017) rc_0 (rg_all a0)
    refine g_iload_n C 0 dJ9_abs_0f7a4_9 rfl rfl ?_
    exact g_zret (ty := .int) (r := a0) B K rfl (rfl) ⟨rfl, rfl, rg_all _⟩ dJ9_abs_0f7a4_10
  · skip
    have r_409019 := lt_l (hi := (-1)) (nle h_409017) (rg_all a0) rc_0 (by decide)
    refine g_iload_n C 0 dJ9_abs_0f7a4_4 rfl rfl ?_
    obtain ⟨x_409020, hx_409020, rx_409020⟩ := ex_any (z0 := -a0)
    refine g_ineg C (v := x_409020) dJ9_abs_0f7a4_5 hx_409020 ?_
    refine g_goto C (tgt := 10) dJ9_abs_0f7a4_6 (by decide) ?_
    exact g_zret (ty := .int) (r := x_409020) B K rfl (rfl) ⟨rfl, rfl, rx_409020⟩ dJ9_abs_0f7a4_10
set_option maxRecDepth 100000 in
set_option maxHeartbeats 8000000 in
theorem c_X2_nearestToHalf {l : Launch} {D : va_G} {cy : Nat → ClassId} {L : List Nat} {κ ln : Nat → Nat} {R : Nat → Nat → Option Nat} {I : Nat → Nat → Int32} {J : Nat → Nat → Int64} {ow : Nat → Nat × Nat} (W9 : ∀ a ∈ L, Shp L κ ln R ow a) {x : Nat} (hLx : x ∈ L) (hkx : κ x = 2) (a0 : Int32) (a1 : Int32) (ra0 : Rg 0 7 a0) (ra1 : Rg 1 2147483647 a1) (hU : Uv L κ ow I) : CtI l yX2_nearestToHalf cX2_nearestToHalf 7 (some .int) { frames := 1, cells := 0, slots := 0, locals := 20 } D cy L κ ln R I J [.ref x, .int a0, .int a1] (fun r I2 J2 => I = I2 ∧ J = J2 ∧ Rg (-1) 6 r) := by
  refine CtI.of (by decide +kernel) (Nat.le_of_ble_eq_true rfl) ?_
  intro p e s m below meth c B K
  have C := B.1
  obtain ⟨b_409146, hb_409146, hb_409146L, hb_409146k, hb_409146n, hb_409146o⟩ := shp_a (W9 x hLx) hkx 0 14 7 rfl (by decide)
  refine g_lo (is := [0, 1, 2]) (lo2 := [(0, .ref x), (1, .int a0), (2, .int a1)]) rfl ?_
  have l_10 : ∀ (n_10 : Nat) (v_409147 : Int32) (rv_409147 : Rg 0 7 v_409147) (v_409148 : Int32) (rv_409148 : Rg 1 2147483647 v_409148) (v_409149 : Int32) (rv_409149 : Rg (-1) 6 v_409149) (v_409150 : Int32) (rv_409150 : Rg (-2147483648) 1000 v_409150) (v_409151 : Int32) (rv_409151 : Rg 0 7 v_409151) (hm_409152 : 7 < (v_409151 : Int32).toInt + (n_10 : Int)), WG p l e { frames := 1, cells := 0, slots := 0, locals := 20 } s m ([.ref x, .int a0, .int a1] : List Value).toArray below meth c 7 0 0 (MQ below (Qi_ D cy L κ ln R (fun r I2 J2 => I = I2 ∧ J = J2 ∧ Rg (-1) 6 r)) ([.ref x, .int a0, .int a1] : List Value).toArray s 0 0 (Al_ L)) D cy (Al_ L) s.heap L κ ln R I J 10 [(0, .ref x), (1, .int v_409147), (2, .int v_409148), (3, .int v_409149), (4, .int v_409150), (5, .int v_409151)] [] := by
    intro n_10
    induction n_10 with
    | zero =>
      intro v_409147 rv_409147 v_409148 rv_409148 v_409149 rv_409149 v_409150 rv_409150 v_409151 rv_409151 hm_409152
      exact ms_0 rv_409151 hm_409152
    | succ n_10 ih_10 =>
      intro v_409147 rv_409147 v_409148 rv_409148 v_409149 rv_409149 v_409150 rv_409150 v_409151 rv_409151 hm_409152
      have j_46 : ∀ (v_409153 : Int32) (rv_409153 : Rg 1 7 v_409153) (v_409154 : Int32) (rv_409154 : Rg 1 2147483647 v_409154) (v_409155 : Int32) (rv_409155 : Rg (-1) 6 v_409155) (v_409156 : Int32) (rv_409156 : Rg (-2147483648) 1000 v_409156) (v_409157 : Int32) (rv_409157 : Rg 0 6 v_409157) (v_409158 : Int32) (hm_409159 : 7 < (v_409157 : Int32).toInt + ((n_10 + 1 : Nat) : Int)), WG p l e { frames := 1, cells := 0, slots := 0, locals := 20 } s m ([.ref x, .int a0, .int a1] : List Value).toArray below meth c 7 0 0 (MQ below (Qi_ D cy L κ ln R (fun r I2 J2 => I = I2 ∧ J = J2 ∧ Rg (-1) 6 r)) ([.ref x, .int a0, .int a1] : List Value).toArray s 0 0 (Al_ L)) D cy (Al_ L) s.heap L κ ln R I J 46 [(0, .ref x), (1, .int v_409153), (2, .int v_409154), (3, .int v_409155), (4, .int v_409156), (5, .int v_409157), (6, .int v_409158)] [] := by
        intro v_409153 rv_409153 v_409154 rv_409154 v_409155 rv_409155 v_409156 rv_409156 v_409157 rv_409157 v_409158 hm_409159
        obtain ⟨x_409160, hx_409160, rx_409160, tx_409160⟩ := ex_add (y := 1) 1 7 rv_409157 rc_1 (by decide) (by decide) (by decide) (by decide)
        refine g_iinc C dX2_nearestToHalf_46 (k := 5) (v := x_409160) rfl hx_409160 (by decide) (lo2 := [(5, .int x_409160), (0, .ref x), (1, .int v_409153), (2, .int v_409154), (3, .int v_409155), (4, .int v_409156), (6, .int v_409158)]) rfl ?_
        refine g_goto C (tgt := 10) dX2_nearestToHalf_49 (by decide) ?_
        refine g_lo (is := [1, 2, 3, 4, 5, 0]) (lo2 := [(0, .ref x), (1, .int v_409153), (2, .int v_409154), (3, .int v_409155), (4, .int v_409156), (5, .int x_409160)]) rfl ?_
        exact ih_10 v_409153 (rg_w rv_409153 (by decide) (by decide)) v_409154 (rv_409154) v_409155 (rv_409155) v_409156 (rv_409156) x_409160 (rg_w rx_409160 (by decide) (by decide)) (ms_1 hm_409159 (ti_k tx_409160 rc_1) (by decide))
      refine g_iload C 5 dX2_nearestToHalf_10 rfl ?_
      refine g_iload_n C 1 dX2_nearestToHalf_12 rfl rfl ?_
      refine g_icmp_ge C (tgt := 52) dX2_nearestToHalf_13 (by decide) (fun h_409161 => ?_) (fun h_409161 => ?_)
      · skip
        refine g_iload_n C 3 dX2_nearestToHalf_52 rfl rfl ?_
        exact g_zret (ty := .int) (r := v_409149) B K rfl (rfl) ⟨rfl, rfl, rv_409149⟩ dX2_nearestToHalf_53
      · skip
        have r_409162 := lt_l (hi := 6) (nle h_409161) rv_409151 rv_409147 (by decide)
        have r_409163 := lt_r (lo := 1) (nle h_409161) rv_409151 rv_409147 (by decide)
        refine g_iconst C (v := 2) dX2_nearestToHalf_16 (by decide) ?_
        refine g_aload_n C 0 dX2_nearestToHalf_17 rfl rfl ?_
        refine g_getR C K hLx hkx f_2_9 hb_409146 dX2_nearestToHalf_18 ?_
        refine g_iload C 5 dX2_nearestToHalf_21 rfl ?_
        obtain ⟨x_409164, hx_409164, rx_409164⟩ := ex_get (I := I) (a := b_409146) (j := v_409151.toNatClampNeg) (lo := (-2147483648)) (hi := 2147483647) hU hb_409146L (ro_a hb_409146k (by decide) hb_409146o hkx rfl) (rfl)
        refine h_iald C K hb_409146L hb_409146k (v := x_409164) (v_409151.toNatClampNeg) (rfl) (ix_0 r_409162 (by decide)) (ix_lt r_409162 (by decide) hb_409146n (by decide)) hx_409164 dX2_nearestToHalf_23 ?_
        obtain ⟨x_409165, hx_409165, rx_409165⟩ := ex_any (z0 := 2 * x_409164)
        refine g_imul C (v := x_409165) dX2_nearestToHalf_24 hx_409165 ?_
        refine g_iload_n C 2 dX2_nearestToHalf_25 rfl rfl ?_
        obtain ⟨x_409166, hx_409166, rx_409166⟩ := ex_any (z0 := x_409165 - v_409148)
        refine g_isub C (v := x_409166) dX2_nearestToHalf_26 hx_409166 ?_
        refine g_callSI C K (c_J9_abs_0f7a4 W9 x_409166  hU) s_2_48 rfl ⟨rfl, rfl⟩ ⟨Nat.le_of_ble_eq_true rfl, Nat.le_of_ble_eq_true rfl⟩ (Nat.le_of_ble_eq_true rfl) ⟨Nat.le_of_ble_eq_true rfl, Nat.le_of_ble_eq_true rfl⟩ dX2_nearestToHalf_27 rfl (st := []) (fun x_409167 I_409168 J_409169 h_409170 => ?_)
        obtain ⟨rfl, rfl, rx_409167⟩ := h_409170
        refine g_istore C dX2_nearestToHalf_30 (by decide) (lo2 := [(6, .int x_409167), (0, .ref x), (1, .int v_409147), (2, .int v_409148), (3, .int v_409149), (4, .int v_409150), (5, .int v_409151)]) rfl ?_
        refine g_iload C 0 dX2_nearestToHalf_32 rfl ?_
        refine g_iload C 5 dX2_nearestToHalf_34 rfl ?_
        refine g_icmp_ge C (tgt := 46) dX2_nearestToHalf_36 (by decide) (fun h_409171 => ?_) (fun h_409171 => ?_)
        · skip
          refine g_lo (is := [1, 2, 3, 4, 5, 6, 0]) (lo2 := [(0, .ref x), (1, .int v_409147), (2, .int v_409148), (3, .int v_409149), (4, .int v_409150), (5, .int v_409151), (6, .int x_409167)]) rfl ?_
          exact j_46 v_409147 (r_409163) v_409148 (rv_409148) v_409149 (rv_409149) v_409150 (rv_409150) v_409151 (r_409162) x_409167 hm_409152
        · skip
          have r_409172 := lt_l (hi := 999) (nle h_409171) rx_409167 rv_409150 (by decide)
          have r_409173 := lt_r (lo := (-2147483647)) (nle h_409171) rx_409167 rv_409150 (by decide)
          refine g_iload C 0 dX2_nearestToHalf_39 rfl ?_
          refine g_istore C dX2_nearestToHalf_41 (by decide) (lo2 := [(4, .int x_409167), (6, .int x_409167), (0, .ref x), (1, .int v_409147), (2, .int v_409148), (3, .int v_409149), (5, .int v_409151)]) rfl ?_
          refine g_iload C 6 dX2_nearestToHalf_43 rfl ?_
          refine g_istore_n C dX2_nearestToHalf_45 rfl (by decide) (lo2 := [(3, .int v_409151), (4, .int x_409167), (6, .int x_409167), (0, .ref x), (1, .int v_409147), (2, .int v_409148), (5, .int v_409151)]) rfl ?_
          refine g_lo (is := [3, 4, 5, 0, 1, 6, 2]) (lo2 := [(0, .ref x), (1, .int v_409147), (2, .int v_409148), (3, .int v_409151), (4, .int x_409167), (5, .int v_409151), (6, .int x_409167)]) rfl ?_
          exact j_46 v_409147 (r_409163) v_409148 (rv_409148) v_409151 (rg_w r_409162 (by decide) (by decide)) x_409167 (rg_w r_409172 (by decide) (by decide)) v_409151 (r_409162) x_409167 hm_409152
  refine g_iconst C (v := (-1)) dX2_nearestToHalf_0 (by decide) ?_
  refine g_istore_n C dX2_nearestToHalf_1 rfl (by decide) (lo2 := [(3, .int (-1)), (0, .ref x), (1, .int a0), (2, .int a1)]) rfl ?_
  refine g_sipush C (v := 1000) dX2_nearestToHalf_2 (by decide) ?_
  refine g_istore C dX2_nearestToHalf_5 (by decide) (lo2 := [(4, .int 1000), (3, .int (-1)), (0, .ref x), (1, .int a0), (2, .int a1)]) rfl ?_
  refine g_iconst C (v := 0) dX2_nearestToHalf_7 (by decide) ?_
  refine g_istore C dX2_nearestToHalf_8 (by decide) (lo2 := [(5, .int 0), (4, .int 1000), (3, .int (-1)), (0, .ref x), (1, .int a0), (2, .int a1)]) rfl ?_
  refine g_lo (is := [3, 4, 5, 2, 1, 0]) (lo2 := [(0, .ref x), (1, .int a0), (2, .int a1), (3, .int (-1)), (4, .int 1000), (5, .int 0)]) rfl ?_
  exact l_10 8 a0 (ra0) a1 (ra1) (-1) (rg_w rc_m1 (by decide) (by decide)) 1000 (rg_w rc_1000 (by decide) (by decide)) 0 (rg_w rc_0 (by decide) (by decide)) (ms_s (N := 8) (rg_w rc_0 (by decide) (by decide)) (by decide))
set_option maxRecDepth 100000 in
set_option maxHeartbeats 8000000 in
theorem c_X11_surely {l : Launch} {D : va_G} {cy : Nat → ClassId} {L : List Nat} {κ ln : Nat → Nat} {R : Nat → Nat → Option Nat} {I : Nat → Nat → Int32} {J : Nat → Nat → Int64} {ow : Nat → Nat × Nat} (W9 : ∀ a ∈ L, Shp L κ ln R ow a) {x : Nat} (hLx : x ∈ L) (hkx : κ x = 11) (hU : Uv L κ ow I) : CtI l yX11_surely cX11_surely 1 (some .int) { frames := 0, cells := 0, slots := 0, locals := 0 } D cy L κ ln R I J [.ref x] (fun r I2 J2 => I = I2 ∧ J = J2 ∧ Rg (-2147483648) 2147483647 r) := by
  refine CtI.of (by decide +kernel) (Nat.le_of_ble_eq_true rfl) ?_
  intro p e s m below meth c B K
  have C := B.1
  obtain ⟨b_409178, hb_409178, hb_409178L, hb_409178k⟩ := shp_o (W9 x hLx) hkx 11 2 rfl (by decide)
  refine g_lo (is := [0]) (lo2 := [(0, .ref x)]) rfl ?_
  refine g_aload_n C 0 dX11_surely_0 rfl rfl ?_
  refine g_getR C K hLx hkx f_11_83 hb_409178 dX11_surely_1 ?_
  obtain ⟨x_409179, hx_409179, rx_409179⟩ := ex_get (I := I) (a := b_409178) (j := 1) (lo := (-2147483648)) (hi := 2147483647) hU hb_409178L (ro_o hb_409178k (by decide)) rfl
  refine g_getI C K hb_409178L hb_409178k f_11_282 (v := x_409179) hx_409179 dX11_surely_4 ?_
  exact g_zret (ty := .int) (r := x_409179) B K rfl (rfl) ⟨rfl, rfl, rx_409179⟩ dX11_surely_7
set_option maxRecDepth 100000 in
set_option maxHeartbeats 8000000 in
theorem c_X11_ask {l : Launch} {D : va_G} {cy : Nat → ClassId} {L : List Nat} {κ ln : Nat → Nat} {R : Nat → Nat → Option Nat} {I : Nat → Nat → Int32} {J : Nat → Nat → Int64} {ow : Nat → Nat × Nat} (W9 : ∀ a ∈ L, Shp L κ ln R ow a) {x : Nat} (hLx : x ∈ L) (hkx : κ x = 11) (hU : Uv L κ ow I) : CtI l yX11_ask cX11_ask 1 (some .int) { frames := 0, cells := 0, slots := 0, locals := 0 } D cy L κ ln R I J [.ref x] (fun r I2 J2 => I = I2 ∧ J = J2 ∧ Rg (-2147483648) 2147483647 r) := by
  refine CtI.of (by decide +kernel) (Nat.le_of_ble_eq_true rfl) ?_
  intro p e s m below meth c B K
  have C := B.1
  obtain ⟨b_409184, hb_409184, hb_409184L, hb_409184k⟩ := shp_o (W9 x hLx) hkx 11 2 rfl (by decide)
  refine g_lo (is := [0]) (lo2 := [(0, .ref x)]) rfl ?_
  refine g_aload_n C 0 dX11_ask_0 rfl rfl ?_
  refine g_getR C K hLx hkx f_11_83 hb_409184 dX11_ask_1 ?_
  obtain ⟨x_409185, hx_409185, rx_409185⟩ := ex_get (I := I) (a := b_409184) (j := 2) (lo := (-2147483648)) (hi := 2147483647) hU hb_409184L (ro_o hb_409184k (by decide)) rfl
  refine g_getI C K hb_409184L hb_409184k f_11_285 (v := x_409185) hx_409185 dX11_ask_4 ?_
  exact g_zret (ty := .int) (r := x_409185) B K rfl (rfl) ⟨rfl, rfl, rx_409185⟩ dX11_ask_7
set_option maxRecDepth 100000 in
set_option maxHeartbeats 8000000 in
theorem c_X8_shareOf {l : Launch} {D : va_G} {cy : Nat → ClassId} {L : List Nat} {κ ln : Nat → Nat} {R : Nat → Nat → Option Nat} {I : Nat → Nat → Int32} {J : Nat → Nat → Int64} {ow : Nat → Nat × Nat} (W9 : ∀ a ∈ L, Shp L κ ln R ow a) {x : Nat} (hLx : x ∈ L) (hkx : κ x = 8) (a0 : Int32) (a1 : Int32) (a2 : Int32) (ra2 : Rg 0 6 a2) (hU : Uv L κ ow I) : CtI l yX8_shareOf cX8_shareOf 10 (some .int) { frames := 0, cells := 0, slots := 0, locals := 0 } D cy L κ ln R I J [.ref x, .int a0, .int a1, .int a2] (fun r I2 J2 => I = I2 ∧ J = J2 ∧ Rg (-2147483648) 2147483647 r) := by
  refine CtI.of (by decide +kernel) (Nat.le_of_ble_eq_true rfl) ?_
  intro p e s m below meth c B K
  have C := B.1
  obtain ⟨b_411005, hb_411005, hb_411005L, hb_411005k, hb_411005n, hb_411005o⟩ := shp_a (W9 x hLx) hkx 1 14 7 rfl (by decide)
  refine g_lo (is := [0, 1, 2, 3]) (lo2 := [(0, .ref x), (1, .int a0), (2, .int a1), (3, .int a2)]) rfl ?_
  have l_69 : ∀ (n_69 : Nat) (v_411006 : Int32) (v_411007 : Int32) (v_411008 : Int32) (rv_411008 : Rg 0 6 v_411008) (v_411009 : Int32) (rv_411009 : Rg 1 2147483647 v_411009) (v_411010 : Int32) (v_411011 : Int32) (v_411012 : Int32) (v_411013 : Int32) (rv_411013 : Rg 0 7 v_411013) (v_411014 : Int32) (rv_411014 : Rg 0 7 v_411014) (q_411015 : I x 5 = v_411014) (hm_411016 : 7 < (v_411013 : Int32).toInt + (n_69 : Int)), WG p l e { frames := 0, cells := 0, slots := 0, locals := 0 } s m ([.ref x, .int a0, .int a1, .int a2] : List Value).toArray below meth c 10 0 0 (MQ below (Qi_ D cy L κ ln R (fun r I2 J2 => I = I2 ∧ J = J2 ∧ Rg (-2147483648) 2147483647 r)) ([.ref x, .int a0, .int a1, .int a2] : List Value).toArray s 0 0 (Al_ L)) D cy (Al_ L) s.heap L κ ln R I J 69 [(0, .ref x), (1, .int v_411006), (2, .int v_411007), (3, .int v_411008), (4, .int v_411009), (5, .int v_411010), (6, .int v_411011), (7, .int v_411012), (8, .int v_411013)] [] := by
    intro n_69
    induction n_69 with
    | zero =>
      intro v_411006 v_411007 v_411008 rv_411008 v_411009 rv_411009 v_411010 v_411011 v_411012 v_411013 rv_411013 v_411014 rv_411014 q_411015 hm_411016
      exact ms_0 rv_411013 hm_411016
    | succ n_69 ih_69 =>
      intro v_411006 v_411007 v_411008 rv_411008 v_411009 rv_411009 v_411010 v_411011 v_411012 v_411013 rv_411013 v_411014 rv_411014 q_411015 hm_411016
      have j_141 : ∀ (v_411017 : Int32) (v_411018 : Int32) (v_411019 : Int32) (rv_411019 : Rg 0 6 v_411019) (v_411020 : Int32) (rv_411020 : Rg 1 2147483647 v_411020) (v_411021 : Int32) (v_411022 : Int32) (v_411023 : Int32) (v_411024 : Int32) (rv_411024 : Rg 0 6 v_411024) (v_411025 : Int32) (rv_411025 : Rg 1 7 v_411025) (q_411026 : I x 5 = v_411025) (hm_411027 : 7 < (v_411024 : Int32).toInt + ((n_69 + 1 : Nat) : Int)), WG p l e { frames := 0, cells := 0, slots := 0, locals := 0 } s m ([.ref x, .int a0, .int a1, .int a2] : List Value).toArray below meth c 10 0 0 (MQ below (Qi_ D cy L κ ln R (fun r I2 J2 => I = I2 ∧ J = J2 ∧ Rg (-2147483648) 2147483647 r)) ([.ref x, .int a0, .int a1, .int a2] : List Value).toArray s 0 0 (Al_ L)) D cy (Al_ L) s.heap L κ ln R I J 141 [(0, .ref x), (1, .int v_411017), (2, .int v_411018), (3, .int v_411019), (4, .int v_411020), (5, .int v_411021), (6, .int v_411022), (7, .int v_411023), (8, .int v_411024)] [] := by
        intro v_411017 v_411018 v_411019 rv_411019 v_411020 rv_411020 v_411021 v_411022 v_411023 v_411024 rv_411024 v_411025 rv_411025 q_411026 hm_411027
        obtain ⟨x_411028, hx_411028, rx_411028, tx_411028⟩ := ex_add (y := 1) 1 7 rv_411024 rc_1 (by decide) (by decide) (by decide) (by decide)
        refine g_iinc C dX8_shareOf_141 (k := 8) (v := x_411028) rfl hx_411028 (by decide) (lo2 := [(8, .int x_411028), (0, .ref x), (1, .int v_411017), (2, .int v_411018), (3, .int v_411019), (4, .int v_411020), (5, .int v_411021), (6, .int v_411022), (7, .int v_411023)]) rfl ?_
        refine g_goto C (tgt := 69) dX8_shareOf_144 (by decide) ?_
        refine g_lo (is := [1, 2, 3, 4, 5, 6, 7, 8, 0]) (lo2 := [(0, .ref x), (1, .int v_411017), (2, .int v_411018), (3, .int v_411019), (4, .int v_411020), (5, .int v_411021), (6, .int v_411022), (7, .int v_411023), (8, .int x_411028)]) rfl ?_
        exact ih_69 v_411017 v_411018 v_411019 (rv_411019) v_411020 (rv_411020) v_411021 v_411022 v_411023 x_411028 (rg_w rx_411028 (by decide) (by decide)) v_411025 (rg_w rv_411025 (by decide) (by decide)) q_411026 (ms_1 hm_411027 (ti_k tx_411028 rc_1) (by decide))
      have j_138 : ∀ (v_411029 : Int32) (v_411030 : Int32) (v_411031 : Int32) (rv_411031 : Rg 0 6 v_411031) (v_411032 : Int32) (rv_411032 : Rg 1 2147483647 v_411032) (v_411033 : Int32) (v_411034 : Int32) (v_411035 : Int32) (v_411036 : Int32) (rv_411036 : Rg 0 6 v_411036) (v_411037 : Int32) (v_411038 : Int32) (rv_411038 : Rg 1 7 v_411038) (q_411039 : I x 5 = v_411038) (hm_411040 : 7 < (v_411036 : Int32).toInt + ((n_69 + 1 : Nat) : Int)), WG p l e { frames := 0, cells := 0, slots := 0, locals := 0 } s m ([.ref x, .int a0, .int a1, .int a2] : List Value).toArray below meth c 10 0 0 (MQ below (Qi_ D cy L κ ln R (fun r I2 J2 => I = I2 ∧ J = J2 ∧ Rg (-2147483648) 2147483647 r)) ([.ref x, .int a0, .int a1, .int a2] : List Value).toArray s 0 0 (Al_ L)) D cy (Al_ L) s.heap L κ ln R I J 138 [(0, .ref x), (1, .int v_411029), (2, .int v_411030), (3, .int v_411031), (4, .int v_411032), (5, .int v_411033), (6, .int v_411034), (7, .int v_411035), (8, .int v_411036), (9, .int v_411037)] [] := by
        intro v_411029 v_411030 v_411031 rv_411031 v_411032 rv_411032 v_411033 v_411034 v_411035 v_411036 rv_411036 v_411037 v_411038 rv_411038 q_411039 hm_411040
        obtain ⟨x_411041, hx_411041, rx_411041⟩ := ex_any (z0 := v_411034 + 1)
        refine g_iinc C dX8_shareOf_138 (k := 6) (v := x_411041) rfl hx_411041 (by decide) (lo2 := [(6, .int x_411041), (0, .ref x), (1, .int v_411029), (2, .int v_411030), (3, .int v_411031), (4, .int v_411032), (5, .int v_411033), (7, .int v_411035), (8, .int v_411036), (9, .int v_411037)]) rfl ?_
        refine g_lo (is := [1, 2, 3, 4, 5, 6, 0, 7, 8]) (lo2 := [(0, .ref x), (1, .int v_411029), (2, .int v_411030), (3, .int v_411031), (4, .int v_411032), (5, .int v_411033), (6, .int x_411041), (7, .int v_411035), (8, .int v_411036)]) rfl ?_
        exact j_141 v_411029 v_411030 v_411031 (rv_411031) v_411032 (rv_411032) v_411033 x_411041 v_411035 v_411036 (rv_411036) v_411038 (rv_411038) q_411039 hm_411040
      refine g_iload C 8 dX8_shareOf_69 rfl ?_
      refine g_aload_n C 0 dX8_shareOf_71 rfl rfl ?_
      refine g_getI C K hLx hkx f_8_28 (v := v_411014) q_411015 dX8_shareOf_72 ?_
      refine g_icmp_ge C (tgt := 147) dX8_shareOf_75 (by decide) (fun h_411042 => ?_) (fun h_411042 => ?_)
      · skip
        refine g_iload_n C 1 dX8_shareOf_147 rfl rfl ?_
        refine g_aload_n C 0 dX8_shareOf_148 rfl rfl ?_
        refine g_getR C K hLx hkx f_8_15 hb_411005 dX8_shareOf_149 ?_
        refine g_iload_n C 3 dX8_shareOf_152 rfl rfl ?_
        obtain ⟨x_411043, hx_411043, rx_411043⟩ := ex_get (I := I) (a := b_411005) (j := v_411008.toNatClampNeg) (lo := (-2147483648)) (hi := 2147483647) hU hb_411005L (ro_a hb_411005k (by decide) hb_411005o hkx rfl) (rfl)
        refine h_iald C K hb_411005L hb_411005k (v := x_411043) (v_411008.toNatClampNeg) (rfl) (ix_0 rv_411008 (by decide)) (ix_lt rv_411008 (by decide) hb_411005n (by decide)) hx_411043 dX8_shareOf_153 ?_
        obtain ⟨x_411044, hx_411044, rx_411044⟩ := ex_any (z0 := v_411006 * x_411043)
        refine g_imul C (v := x_411044) dX8_shareOf_154 hx_411044 ?_
        refine g_iload C 4 dX8_shareOf_155 rfl ?_
        obtain ⟨x_411045, hx_411045, rx_411045⟩ := ex_any (z0 := x_411044 / v_411009)
        refine g_idiv C (v := x_411045) dX8_shareOf_157 (rg_ne0 rv_411009 (by decide)) hx_411045 ?_
        refine g_iload C 6 dX8_shareOf_158 rfl ?_
        refine g_iload C 5 dX8_shareOf_160 rfl ?_
        refine g_icmp_ge C (tgt := 169) dX8_shareOf_162 (by decide) (fun h_411046 => ?_) (fun h_411046 => ?_)
        · skip
          refine g_iconst C (v := 0) dX8_shareOf_169 (by decide) ?_
          obtain ⟨x_411047, hx_411047, rx_411047, tx_411047⟩ := ex_add (-2147483648) 2147483647 rx_411045 rc_0 (by decide) (by decide) (by decide) (by decide)
          refine g_iadd C (v := x_411047) dX8_shareOf_170 hx_411047 ?_
          exact g_zret (ty := .int) (r := x_411047) B K rfl (rfl) ⟨rfl, rfl, rx_411047⟩ dX8_shareOf_171
        · skip
          have r_411048 := lt_l (hi := 2147483646) (nle h_411046) (rg_all v_411011) (rg_all v_411010) (by decide)
          have r_411049 := lt_r (lo := (-2147483647)) (nle h_411046) (rg_all v_411011) (rg_all v_411010) (by decide)
          refine g_iconst C (v := 1) dX8_shareOf_165 (by decide) ?_
          refine g_goto C (tgt := 170) dX8_shareOf_166 (by decide) ?_
          obtain ⟨x_411050, hx_411050, rx_411050⟩ := ex_any (z0 := x_411045 + 1)
          refine g_iadd C (v := x_411050) dX8_shareOf_170 hx_411050 ?_
          exact g_zret (ty := .int) (r := x_411050) B K rfl (rfl) ⟨rfl, rfl, rx_411050⟩ dX8_shareOf_171
      · skip
        have r_411051 := lt_l (hi := 6) (nle h_411042) rv_411013 rv_411014 (by decide)
        have r_411052 := lt_r (lo := 1) (nle h_411042) rv_411013 rv_411014 (by decide)
        refine g_iload_n C 2 dX8_shareOf_78 rfl rfl ?_
        refine g_iload C 8 dX8_shareOf_79 rfl ?_
        obtain ⟨x_411053, hx_411053, rx_411053⟩ := ex_any (z0 := v_411007 >>> (v_411013 &&& 31))
        refine g_ishr C (v := x_411053) dX8_shareOf_81 hx_411053 ?_
        refine g_iconst C (v := 1) dX8_shareOf_82 (by decide) ?_
        obtain ⟨x_411054, hx_411054, rx_411054⟩ := ex_andr (x := x_411053) (y := 1) (b := 1) (rg_w rc_1 (by decide) (by decide))
        refine g_iand C (v := x_411054) dX8_shareOf_83 hx_411054 ?_
        refine g_if_eq C (tgt := 141) dX8_shareOf_84 (by decide) (fun h_411055 => ?_) (fun h_411055 => ?_)
        · skip
          have r_411056 := (⟨(rx_411054).1, (eq_rg (h_411055) rc_0).2⟩ : Rg 0 0 x_411054)
          refine g_lo (is := [0, 1, 2, 3, 4, 5, 6, 7, 8]) (lo2 := [(0, .ref x), (1, .int v_411006), (2, .int v_411007), (3, .int v_411008), (4, .int v_411009), (5, .int v_411010), (6, .int v_411011), (7, .int v_411012), (8, .int v_411013)]) rfl ?_
          exact j_141 v_411006 v_411007 v_411008 (rv_411008) v_411009 (rv_411009) v_411010 v_411011 v_411012 v_411013 (r_411051) v_411014 (r_411052) q_411015 hm_411016
        · skip
          have n_411057 : ¬ x_411054 = 0 := h_411055
          have r_411058 := ne_lo (lo := 1) n_411057 rx_411054 rc_0 rfl (by decide)
          refine g_iload_n C 1 dX8_shareOf_87 rfl rfl ?_
          refine g_aload_n C 0 dX8_shareOf_88 rfl rfl ?_
          refine g_getR C K hLx hkx f_8_15 hb_411005 dX8_shareOf_89 ?_
          refine g_iload C 8 dX8_shareOf_92 rfl ?_
          obtain ⟨x_411059, hx_411059, rx_411059⟩ := ex_get (I := I) (a := b_411005) (j := v_411013.toNatClampNeg) (lo := (-2147483648)) (hi := 2147483647) hU hb_411005L (ro_a hb_411005k (by decide) hb_411005o hkx rfl) (rfl)
          refine h_iald C K hb_411005L hb_411005k (v := x_411059) (v_411013.toNatClampNeg) (rfl) (ix_0 r_411051 (by decide)) (ix_lt r_411051 (by decide) hb_411005n (by decide)) hx_411059 dX8_shareOf_94 ?_
          obtain ⟨x_411060, hx_411060, rx_411060⟩ := ex_any (z0 := v_411006 * x_411059)
          refine g_imul C (v := x_411060) dX8_shareOf_95 hx_411060 ?_
          refine g_iload C 4 dX8_shareOf_96 rfl ?_
          obtain ⟨x_411061, hx_411061, rx_411061⟩ := ex_any (z0 := x_411060 - x_411060 / v_411009 * v_411009)
          refine g_irem C (v := x_411061) dX8_shareOf_98 (rg_ne0 rv_411009 (by decide)) hx_411061 ?_
          refine g_istore C dX8_shareOf_99 (by decide) (lo2 := [(9, .int x_411061), (0, .ref x), (1, .int v_411006), (2, .int v_411007), (3, .int v_411008), (4, .int v_411009), (5, .int v_411010), (6, .int v_411011), (7, .int v_411012), (8, .int v_411013)]) rfl ?_
          refine g_iload C 6 dX8_shareOf_101 rfl ?_
          refine g_iload_n C 2 dX8_shareOf_103 rfl rfl ?_
          refine g_aload_n C 1 dX8_shareOf_104 rfl rfl ?_
          refine g_getR C K hLx hkx f_8_15 hb_411005 dX8_shareOf_105 ?_
          refine g_iload C 9 dX8_shareOf_108 rfl ?_
          obtain ⟨x_411062, hx_411062, rx_411062⟩ := ex_get (I := I) (a := b_411005) (j := v_411013.toNatClampNeg) (lo := (-2147483648)) (hi := 2147483647) hU hb_411005L (ro_a hb_411005k (by decide) hb_411005o hkx rfl) (rfl)
          refine h_iald C K hb_411005L hb_411005k (v := x_411062) (v_411013.toNatClampNeg) (rfl) (ix_0 r_411051 (by decide)) (ix_lt r_411051 (by decide) hb_411005n (by decide)) hx_411062 dX8_shareOf_110 ?_
          obtain ⟨x_411063, hx_411063, rx_411063⟩ := ex_any (z0 := v_411006 * x_411062)
          refine g_imul C (v := x_411063) dX8_shareOf_111 hx_411063 ?_
          refine g_iload C 5 dX8_shareOf_112 rfl ?_
          obtain ⟨x_411064, hx_411064, rx_411064⟩ := ex_any (z0 := x_411063 / v_411009)
          refine g_idiv C (v := x_411064) dX8_shareOf_114 (rg_ne0 rv_411009 (by decide)) hx_411064 ?_
          obtain ⟨x_411065, hx_411065, rx_411065⟩ := ex_any (z0 := v_411010 - x_411064)
          refine g_isub C (v := x_411065) dX8_shareOf_115 hx_411065 ?_
          refine g_istore C dX8_shareOf_116 (by decide) (lo2 := [(5, .int x_411065), (9, .int x_411061), (0, .ref x), (1, .int v_411006), (2, .int v_411007), (3, .int v_411008), (4, .int v_411009), (6, .int v_411011), (7, .int v_411012), (8, .int v_411013)]) rfl ?_
          refine g_iload C 1 dX8_shareOf_118 rfl ?_
          refine g_iload C 8 dX8_shareOf_120 rfl ?_
          refine g_icmp_gt C (tgt := 138) dX8_shareOf_122 (by decide) (fun h_411066 => ?_) (fun h_411066 => ?_)
          · skip
            have r_411067 := lt_l (hi := 2147483646) (h_411066) (rg_all v_411012) rx_411061 (by decide)
            have r_411068 := lt_r (lo := (-2147483647)) (h_411066) (rg_all v_411012) rx_411061 (by decide)
            refine g_lo (is := [2, 3, 4, 5, 6, 0, 7, 8, 9, 1]) (lo2 := [(0, .ref x), (1, .int v_411006), (2, .int v_411007), (3, .int v_411008), (4, .int v_411009), (5, .int x_411065), (6, .int v_411011), (7, .int v_411012), (8, .int v_411013), (9, .int x_411061)]) rfl ?_
            exact j_138 v_411006 v_411007 v_411008 (rv_411008) v_411009 (rv_411009) x_411065 v_411011 v_411012 v_411013 (r_411051) x_411061 v_411014 (r_411052) q_411015 hm_411016
          · skip
            refine g_iload C 1 dX8_shareOf_125 rfl ?_
            refine g_iload C 8 dX8_shareOf_127 rfl ?_
            refine g_icmp_ne C (tgt := 141) dX8_shareOf_129 (by decide) (fun h_411069 => ?_) (fun h_411069 => ?_)
            · skip
              refine g_lo (is := [2, 3, 4, 5, 6, 0, 7, 8, 9]) (lo2 := [(0, .ref x), (1, .int v_411006), (2, .int v_411007), (3, .int v_411008), (4, .int v_411009), (5, .int x_411065), (6, .int v_411011), (7, .int v_411012), (8, .int v_411013)]) rfl ?_
              exact j_141 v_411006 v_411007 v_411008 (rv_411008) v_411009 (rv_411009) x_411065 v_411011 v_411012 v_411013 (r_411051) v_411014 (r_411052) q_411015 hm_411016
            · skip
              refine g_iload C 9 dX8_shareOf_132 rfl ?_
              refine g_iload_n C 5 dX8_shareOf_134 rfl rfl ?_
              refine g_icmp_ge C (tgt := 141) dX8_shareOf_135 (by decide) (fun h_411070 => ?_) (fun h_411070 => ?_)
              · skip
                refine g_lo (is := [2, 3, 4, 5, 6, 0, 7, 8, 9]) (lo2 := [(0, .ref x), (1, .int v_411006), (2, .int v_411007), (3, .int v_411008), (4, .int v_411009), (5, .int x_411065), (6, .int v_411011), (7, .int v_411012), (8, .int v_411013)]) rfl ?_
                exact j_141 v_411006 v_411007 v_411008 (rv_411008) v_411009 (rv_411009) x_411065 v_411011 v_411012 v_411013 (r_411051) v_411014 (r_411052) q_411015 hm_411016
              · skip
                have r_411071 := lt_l (hi := 5) (nle h_411070) r_411051 rv_411008 (by decide)
                have r_411072 := lt_r (lo := 1) (nle h_411070) r_411051 rv_411008 (by decide)
                refine g_lo (is := [2, 3, 4, 5, 6, 0, 7, 8, 9, 1]) (lo2 := [(0, .ref x), (1, .int v_411006), (2, .int v_411007), (3, .int v_411008), (4, .int v_411009), (5, .int x_411065), (6, .int v_411011), (7, .int v_411012), (8, .int v_411013), (9, .int x_411061)]) rfl ?_
                exact j_138 v_411006 v_411007 v_411008 (rg_w r_411072 (by decide) (by decide)) v_411009 (rv_411009) x_411065 v_411011 v_411012 v_411013 (rg_w r_411071 (by decide) (by decide)) x_411061 v_411014 (r_411052) q_411015 hm_411016
  have l_6 : ∀ (n_6 : Nat) (v_411073 : Int32) (v_411074 : Int32) (v_411075 : Int32) (rv_411075 : Rg 0 6 v_411075) (v_411076 : Int32) (v_411077 : Int32) (rv_411077 : Rg 0 7 v_411077) (hm_411078 : 7 < (v_411077 : Int32).toInt + (n_6 : Int)), WG p l e { frames := 0, cells := 0, slots := 0, locals := 0 } s m ([.ref x, .int a0, .int a1, .int a2] : List Value).toArray below meth c 10 0 0 (MQ below (Qi_ D cy L κ ln R (fun r I2 J2 => I = I2 ∧ J = J2 ∧ Rg (-2147483648) 2147483647 r)) ([.ref x, .int a0, .int a1, .int a2] : List Value).toArray s 0 0 (Al_ L)) D cy (Al_ L) s.heap L κ ln R I J 6 [(0, .ref x), (1, .int v_411073), (2, .int v_411074), (3, .int v_411075), (4, .int v_411076), (5, .int v_411077)] [] := by
    intro n_6
    induction n_6 with
    | zero =>
      intro v_411073 v_411074 v_411075 rv_411075 v_411076 v_411077 rv_411077 hm_411078
      exact ms_0 rv_411077 hm_411078
    | succ n_6 ih_6 =>
      intro v_411073 v_411074 v_411075 rv_411075 v_411076 v_411077 rv_411077 hm_411078
      refine g_iload C 5 dX8_shareOf_6 rfl ?_
      refine g_aload_n C 0 dX8_shareOf_8 rfl rfl ?_
      obtain ⟨x_411079, hx_411079, rx_411079⟩ := ex_get (I := I) (a := x) (j := 5) (lo := 0) (hi := 7) hU hLx (ro_o hkx (by decide)) rfl
      refine g_getI C K hLx hkx f_8_28 (v := x_411079) hx_411079 dX8_shareOf_9 ?_
      refine g_icmp_ge C (tgt := 40) dX8_shareOf_12 (by decide) (fun h_411080 => ?_) (fun h_411080 => ?_)
      · skip
        refine g_iload C 4 dX8_shareOf_40 rfl ?_
        refine g_if_gt C (tgt := 47) dX8_shareOf_42 (by decide) (fun h_411081 => ?_) (fun h_411081 => ?_)
        · skip
          have r_411082 := lt_r (lo := 1) (h_411081) rc_0 (rg_all v_411076) (by decide)
          refine g_iload_n C 1 dX8_shareOf_47 rfl rfl ?_
          refine g_istore C dX8_shareOf_48 (by decide) (lo2 := [(5, .int v_411073), (0, .ref x), (1, .int v_411073), (2, .int v_411074), (3, .int v_411075), (4, .int v_411076)]) rfl ?_
          refine g_iconst C (v := 0) dX8_shareOf_50 (by decide) ?_
          refine g_istore C dX8_shareOf_51 (by decide) (lo2 := [(6, .int 0), (5, .int v_411073), (0, .ref x), (1, .int v_411073), (2, .int v_411074), (3, .int v_411075), (4, .int v_411076)]) rfl ?_
          refine g_iload_n C 3 dX8_shareOf_53 rfl rfl ?_
          refine g_aload_n C 2 dX8_shareOf_54 rfl rfl ?_
          refine g_getR C K hLx hkx f_8_15 hb_411005 dX8_shareOf_55 ?_
          refine g_iload_n C 5 dX8_shareOf_58 rfl rfl ?_
          obtain ⟨x_411083, hx_411083, rx_411083⟩ := ex_get (I := I) (a := b_411005) (j := v_411075.toNatClampNeg) (lo := (-2147483648)) (hi := 2147483647) hU hb_411005L (ro_a hb_411005k (by decide) hb_411005o hkx rfl) (rfl)
          refine h_iald C K hb_411005L hb_411005k (v := x_411083) (v_411075.toNatClampNeg) (rfl) (ix_0 rv_411075 (by decide)) (ix_lt rv_411075 (by decide) hb_411005n (by decide)) hx_411083 dX8_shareOf_59 ?_
          obtain ⟨x_411084, hx_411084, rx_411084⟩ := ex_any (z0 := v_411073 * x_411083)
          refine g_imul C (v := x_411084) dX8_shareOf_60 hx_411084 ?_
          refine g_iload C 6 dX8_shareOf_61 rfl ?_
          obtain ⟨x_411085, hx_411085, rx_411085⟩ := ex_any (z0 := x_411084 - x_411084 / v_411076 * v_411076)
          refine g_irem C (v := x_411085) dX8_shareOf_63 (rg_ne0 r_411082 (by decide)) hx_411085 ?_
          refine g_istore C dX8_shareOf_64 (by decide) (lo2 := [(7, .int x_411085), (6, .int 0), (5, .int v_411073), (0, .ref x), (1, .int v_411073), (2, .int v_411074), (3, .int v_411075), (4, .int v_411076)]) rfl ?_
          refine g_iconst C (v := 0) dX8_shareOf_66 (by decide) ?_
          refine g_istore C dX8_shareOf_67 (by decide) (lo2 := [(8, .int 0), (7, .int x_411085), (6, .int 0), (5, .int v_411073), (0, .ref x), (1, .int v_411073), (2, .int v_411074), (3, .int v_411075), (4, .int v_411076)]) rfl ?_
          refine g_lo (is := [4, 5, 6, 7, 8, 3, 2, 1, 0]) (lo2 := [(0, .ref x), (1, .int v_411073), (2, .int v_411074), (3, .int v_411075), (4, .int v_411076), (5, .int v_411073), (6, .int 0), (7, .int x_411085), (8, .int 0)]) rfl ?_
          exact l_69 8 v_411073 v_411074 v_411075 (rv_411075) v_411076 (r_411082) v_411073 0 x_411085 0 (rg_w rc_0 (by decide) (by decide)) x_411079 (rx_411079) hx_411079 (ms_s (N := 8) (rg_w rc_0 (by decide) (by decide)) (by decide))
        · skip
          have r_411086 := le_l (nlt h_411081) (rg_all v_411076) rc_0
          refine g_iconst C (v := 0) dX8_shareOf_45 (by decide) ?_
          exact g_zret (ty := .int) (r := 0) B K rfl (rfl) ⟨rfl, rfl, rg_all _⟩ dX8_shareOf_46
      · skip
        have r_411087 := lt_l (hi := 6) (nle h_411080) rv_411077 rx_411079 (by decide)
        have r_411088 := lt_r (lo := 1) (nle h_411080) rv_411077 rx_411079 (by decide)
        refine g_iload C 4 dX8_shareOf_15 rfl ?_
        refine g_iload_n C 2 dX8_shareOf_17 rfl rfl ?_
        refine g_iload C 5 dX8_shareOf_18 rfl ?_
        obtain ⟨x_411089, hx_411089, rx_411089⟩ := ex_any (z0 := v_411074 >>> (v_411077 &&& 31))
        refine g_ishr C (v := x_411089) dX8_shareOf_20 hx_411089 ?_
        refine g_iconst C (v := 1) dX8_shareOf_21 (by decide) ?_
        obtain ⟨x_411090, hx_411090, rx_411090⟩ := ex_andr (x := x_411089) (y := 1) (b := 1) (rg_w rc_1 (by decide) (by decide))
        refine g_iand C (v := x_411090) dX8_shareOf_22 hx_411090 ?_
        refine g_aload_n C 0 dX8_shareOf_23 rfl rfl ?_
        refine g_getR C K hLx hkx f_8_15 hb_411005 dX8_shareOf_24 ?_
        refine g_iload C 5 dX8_shareOf_27 rfl ?_
        obtain ⟨x_411091, hx_411091, rx_411091⟩ := ex_get (I := I) (a := b_411005) (j := v_411077.toNatClampNeg) (lo := (-2147483648)) (hi := 2147483647) hU hb_411005L (ro_a hb_411005k (by decide) hb_411005o hkx rfl) (rfl)
        refine h_iald C K hb_411005L hb_411005k (v := x_411091) (v_411077.toNatClampNeg) (rfl) (ix_0 r_411087 (by decide)) (ix_lt r_411087 (by decide) hb_411005n (by decide)) hx_411091 dX8_shareOf_29 ?_
        obtain ⟨x_411092, hx_411092, rx_411092⟩ := ex_any (z0 := x_411090 * x_411091)
        refine g_imul C (v := x_411092) dX8_shareOf_30 hx_411092 ?_
        obtain ⟨x_411093, hx_411093, rx_411093⟩ := ex_any (z0 := v_411076 + x_411092)
        refine g_iadd C (v := x_411093) dX8_shareOf_31 hx_411093 ?_
        refine g_istore C dX8_shareOf_32 (by decide) (lo2 := [(4, .int x_411093), (0, .ref x), (1, .int v_411073), (2, .int v_411074), (3, .int v_411075), (5, .int v_411077)]) rfl ?_
        obtain ⟨x_411094, hx_411094, rx_411094, tx_411094⟩ := ex_add (y := 1) 1 7 r_411087 rc_1 (by decide) (by decide) (by decide) (by decide)
        refine g_iinc C dX8_shareOf_34 (k := 5) (v := x_411094) rfl hx_411094 (by decide) (lo2 := [(5, .int x_411094), (4, .int x_411093), (0, .ref x), (1, .int v_411073), (2, .int v_411074), (3, .int v_411075)]) rfl ?_
        refine g_goto C (tgt := 6) dX8_shareOf_37 (by decide) ?_
        refine g_lo (is := [2, 3, 4, 5, 1, 0]) (lo2 := [(0, .ref x), (1, .int v_411073), (2, .int v_411074), (3, .int v_411075), (4, .int x_411093), (5, .int x_411094)]) rfl ?_
        exact ih_6 v_411073 v_411074 v_411075 (rv_411075) x_411093 x_411094 (rg_w rx_411094 (by decide) (by decide)) (ms_1 hm_411078 (ti_k tx_411094 rc_1) (by decide))
  refine g_iconst C (v := 0) dX8_shareOf_0 (by decide) ?_
  refine g_istore C dX8_shareOf_1 (by decide) (lo2 := [(4, .int 0), (0, .ref x), (1, .int a0), (2, .int a1), (3, .int a2)]) rfl ?_
  refine g_iconst C (v := 0) dX8_shareOf_3 (by decide) ?_
  refine g_istore C dX8_shareOf_4 (by decide) (lo2 := [(5, .int 0), (4, .int 0), (0, .ref x), (1, .int a0), (2, .int a1), (3, .int a2)]) rfl ?_
  refine g_lo (is := [2, 3, 4, 5, 1, 0]) (lo2 := [(0, .ref x), (1, .int a0), (2, .int a1), (3, .int a2), (4, .int 0), (5, .int 0)]) rfl ?_
  exact l_6 8 a0 a1 a2 (ra2) 0 0 (rg_w rc_0 (by decide) (by decide)) (ms_s (N := 8) (rg_w rc_0 (by decide) (by decide)) (by decide))
set_option maxRecDepth 100000 in
set_option maxHeartbeats 8000000 in
theorem c_X11_share {l : Launch} {D : va_G} {cy : Nat → ClassId} {L : List Nat} {κ ln : Nat → Nat} {R : Nat → Nat → Option Nat} {I : Nat → Nat → Int32} {J : Nat → Nat → Int64} {ow : Nat → Nat × Nat} (W9 : ∀ a ∈ L, Shp L κ ln R ow a) {x : Nat} (hLx : x ∈ L) (hkx : κ x = 11) (a0 : Int32) (a1 : Int32) (a2 : Int32) (hU : Uv L κ ow I) : CtI l yX11_share cX11_share 5 (some .int) { frames := 1, cells := 0, slots := 0, locals := 29 } D cy L κ ln R I J [.ref x, .int a0, .int a1, .int a2] (fun r I2 J2 => I = I2 ∧ J = J2 ∧ Rg (-2147483648) 2147483647 r) := by
  refine CtI.of (by decide +kernel) (Nat.le_of_ble_eq_true rfl) ?_
  intro p e s m below meth c B K
  have C := B.1
  obtain ⟨b_411181, hb_411181, hb_411181L, hb_411181k⟩ := shp_o (W9 x hLx) hkx 1 8 rfl (by decide)
  obtain ⟨b_411182, hb_411182, hb_411182L, hb_411182k⟩ := shp_o (W9 x hLx) hkx 2 1 rfl (by decide)
  obtain ⟨b_411183, hb_411183, hb_411183L, hb_411183k, hb_411183n, hb_411183o⟩ := shp_a (W9 b_411182 hb_411182L) hb_411182k 1 14 6 rfl (by decide)
  refine g_lo (is := [0, 1, 2, 3]) (lo2 := [(0, .ref x), (1, .int a0), (2, .int a1), (3, .int a2)]) rfl ?_
  have j_40 : ∀ (v_411184 : Int32) (v_411185 : Int32) (v_411186 : Int32), WG p l e { frames := 1, cells := 0, slots := 0, locals := 29 } s m ([.ref x, .int a0, .int a1, .int a2] : List Value).toArray below meth c 5 0 0 (MQ below (Qi_ D cy L κ ln R (fun r I2 J2 => I = I2 ∧ J = J2 ∧ Rg (-2147483648) 2147483647 r)) ([.ref x, .int a0, .int a1, .int a2] : List Value).toArray s 0 0 (Al_ L)) D cy (Al_ L) s.heap L κ ln R I J 40 [(0, .ref x), (1, .int v_411184), (2, .int v_411185), (3, .int v_411186)] [] := by
    intro v_411184 v_411185 v_411186
    refine g_iconst C (v := 0) dX11_share_40 (by decide) ?_
    refine g_istore C dX11_share_41 (by decide) (lo2 := [(4, .int 0), (0, .ref x), (1, .int v_411184), (2, .int v_411185), (3, .int v_411186)]) rfl ?_
    refine g_iload C 0 dX11_share_43 rfl ?_
    refine g_if_eq C (tgt := 56) dX11_share_45 (by decide) (fun h_411187 => ?_) (fun h_411187 => ?_)
    · skip
      refine g_iconst C (v := (-1)) dX11_share_56 (by decide) ?_
      exact g_zret (ty := .int) (r := (-1)) B K rfl (rfl) ⟨rfl, rfl, rg_all _⟩ dX11_share_57
    · skip
      exact absurd h_411187 (by decide)
  refine g_aload_n C 0 dX11_share_0 rfl rfl ?_
  refine g_getR C K hLx hkx f_11_19 hb_411181 dX11_share_1 ?_
  refine g_iload_n C 1 dX11_share_4 rfl rfl ?_
  refine g_callVI C K (c_X8_hasDish W9 hb_411181L hb_411181k a0  hU) hb_411181L hb_411181k (by decide) rfl v_11_175 rfl ⟨rfl, rfl⟩ ⟨Nat.le_of_ble_eq_true rfl, Nat.le_of_ble_eq_true rfl⟩ (Nat.le_of_ble_eq_true rfl) ⟨Nat.le_of_ble_eq_true rfl, Nat.le_of_ble_eq_true rfl⟩ dX11_share_5 rfl (st := []) (fun x_411188 I_411189 J_411190 h_411191 => ?_)
  obtain ⟨rfl, rfl, rx_411188, ex_411188⟩ := h_411191
  refine g_if_eq C (tgt := 40) dX11_share_8 (by decide) (fun h_411192 => ?_) (fun h_411192 => ?_)
  · skip
    have r_411193 := (⟨(rx_411188).1, (eq_rg (h_411192) rc_0).2⟩ : Rg 0 0 x_411188)
    refine g_lo (is := [0, 1, 2, 3]) (lo2 := [(0, .ref x), (1, .int a0), (2, .int a1), (3, .int a2)]) rfl ?_
    exact j_40 a0 a1 a2
  · skip
    have n_411194 : ¬ x_411188 = 0 := h_411192
    have r_411195 := ne_lo (lo := 1) n_411194 rx_411188 rc_0 rfl (by decide)
    have r_411196 := rg_i (rg_all a0) ((ex_411188) (rg_nz r_411195 (by decide))) (lo := 0) (hi := 5) (by decide) (by decide)
    refine g_aload_n C 0 dX11_share_11 rfl rfl ?_
    refine g_getR C K hLx hkx f_11_19 hb_411181 dX11_share_12 ?_
    refine g_iload_n C 3 dX11_share_15 rfl rfl ?_
    refine g_callVI C K (c_X8_hasPerson W9 hb_411181L hb_411181k a2  hU) hb_411181L hb_411181k (by decide) rfl v_11_133 rfl ⟨rfl, rfl⟩ ⟨Nat.le_of_ble_eq_true rfl, Nat.le_of_ble_eq_true rfl⟩ (Nat.le_of_ble_eq_true rfl) ⟨Nat.le_of_ble_eq_true rfl, Nat.le_of_ble_eq_true rfl⟩ dX11_share_16 rfl (st := []) (fun x_411197 I_411198 J_411199 h_411200 => ?_)
    obtain ⟨rfl, rfl, rx_411197, ex_411197⟩ := h_411200
    refine g_if_eq C (tgt := 40) dX11_share_19 (by decide) (fun h_411201 => ?_) (fun h_411201 => ?_)
    · skip
      have r_411202 := (⟨(rx_411197).1, (eq_rg (h_411201) rc_0).2⟩ : Rg 0 0 x_411197)
      refine g_lo (is := [0, 1, 2, 3]) (lo2 := [(0, .ref x), (1, .int a0), (2, .int a1), (3, .int a2)]) rfl ?_
      exact j_40 a0 a1 a2
    · skip
      have n_411203 : ¬ x_411197 = 0 := h_411201
      have r_411204 := ne_lo (lo := 1) n_411203 rx_411197 rc_0 rfl (by decide)
      have r_411205 := rg_i (rg_all a2) ((ex_411197) (rg_nz r_411204 (by decide))) (lo := 0) (hi := 6) (by decide) (by decide)
      refine g_iload_n C 2 dX11_share_22 rfl rfl ?_
      refine g_aload_n C 0 dX11_share_23 rfl rfl ?_
      refine g_getR C K hLx hkx f_11_19 hb_411181 dX11_share_24 ?_
      refine g_callVI C K (c_X8_everybody W9 hb_411181L hb_411181k   hU) hb_411181L hb_411181k (by decide) rfl v_11_188 rfl ⟨rfl, rfl⟩ ⟨Nat.le_of_ble_eq_true rfl, Nat.le_of_ble_eq_true rfl⟩ (Nat.le_of_ble_eq_true rfl) ⟨Nat.le_of_ble_eq_true rfl, Nat.le_of_ble_eq_true rfl⟩ dX11_share_27 rfl (st := [.int a1]) (fun x_411206 I_411207 J_411208 h_411209 => ?_)
      obtain ⟨rfl, rfl, rx_411206⟩ := h_411209
      refine g_iconst C (v := (-1)) dX11_share_30 (by decide) ?_
      obtain ⟨x_411210, hx_411210, rx_411210⟩ := ex_any (z0 := x_411206 ^^^ (-1))
      refine g_ixor C (v := x_411210) dX11_share_31 hx_411210 ?_
      obtain ⟨x_411211, hx_411211, rx_411211⟩ := ex_any (z0 := a1 &&& x_411210)
      refine g_iand C (v := x_411211) dX11_share_32 hx_411211 ?_
      refine g_if_ne C (tgt := 40) dX11_share_33 (by decide) (fun h_411212 => ?_) (fun h_411212 => ?_)
      · skip
        have n_411213 : ¬ x_411211 = 0 := h_411212
        refine g_lo (is := [0, 1, 2, 3]) (lo2 := [(0, .ref x), (1, .int a0), (2, .int a1), (3, .int a2)]) rfl ?_
        exact j_40 a0 a1 a2
      · skip
        have r_411214 := (⟨(eq_rg (h_411212) rc_0).1, (eq_rg (h_411212) rc_0).2⟩ : Rg 0 0 x_411211)
        refine g_iconst C (v := 1) dX11_share_36 (by decide) ?_
        refine g_goto C (tgt := 41) dX11_share_37 (by decide) ?_
        refine g_istore C dX11_share_41 (by decide) (lo2 := [(4, .int 1), (0, .ref x), (1, .int a0), (2, .int a1), (3, .int a2)]) rfl ?_
        refine g_iload C 0 dX11_share_43 rfl ?_
        refine g_if_eq C (tgt := 56) dX11_share_45 (by decide) (fun h_411215 => ?_) (fun h_411215 => ?_)
        · skip
          exact absurd h_411215 (by decide)
        · skip
          refine g_iload_n C 3 dX11_share_48 rfl rfl ?_
          refine g_iload_n C 4 dX11_share_49 rfl rfl ?_
          obtain ⟨x_411216, hx_411216, rx_411216⟩ := ex_any (z0 := a1 >>> (a2 &&& 31))
          refine g_ishr C (v := x_411216) dX11_share_50 hx_411216 ?_
          refine g_iconst C (v := 1) dX11_share_51 (by decide) ?_
          obtain ⟨x_411217, hx_411217, rx_411217⟩ := ex_andr (x := x_411216) (y := 1) (b := 1) (rg_w rc_1 (by decide) (by decide))
          refine g_iand C (v := x_411217) dX11_share_52 hx_411217 ?_
          refine g_if_ne C (tgt := 58) dX11_share_53 (by decide) (fun h_411218 => ?_) (fun h_411218 => ?_)
          · skip
            have n_411219 : ¬ x_411217 = 0 := h_411218
            have r_411220 := ne_lo (lo := 1) n_411219 rx_411217 rc_0 rfl (by decide)
            refine g_aload_n C 1 dX11_share_58 rfl rfl ?_
            refine g_getR C K hLx hkx f_11_19 hb_411181 dX11_share_59 ?_
            refine g_aload_n C 1 dX11_share_62 rfl rfl ?_
            refine g_getR C K hLx hkx f_11_28 hb_411182 dX11_share_63 ?_
            refine g_getR C K hb_411182L hb_411182k f_11_182 hb_411183 dX11_share_66 ?_
            refine g_iload_n C 2 dX11_share_69 rfl rfl ?_
            obtain ⟨x_411221, hx_411221, rx_411221⟩ := ex_get (I := I) (a := b_411183) (j := a0.toNatClampNeg) (lo := (-2147483648)) (hi := 2147483647) hU hb_411183L (ro_a hb_411183k (by decide) hb_411183o hb_411182k rfl) (rfl)
            refine h_iald C K hb_411183L hb_411183k (v := x_411221) (a0.toNatClampNeg) (rfl) (ix_0 r_411196 (by decide)) (ix_lt r_411196 (by decide) hb_411183n (by decide)) hx_411221 dX11_share_70 ?_
            refine g_iload_n C 3 dX11_share_71 rfl rfl ?_
            refine g_iload_n C 4 dX11_share_72 rfl rfl ?_
            refine g_callVI C K (c_X8_shareOf W9 hb_411181L hb_411181k x_411221 a1 a2 (r_411205) hU) hb_411181L hb_411181k (by decide) rfl v_11_288 rfl ⟨rfl, rfl⟩ ⟨Nat.le_of_ble_eq_true rfl, Nat.le_of_ble_eq_true rfl⟩ (Nat.le_of_ble_eq_true rfl) ⟨Nat.le_of_ble_eq_true rfl, Nat.le_of_ble_eq_true rfl⟩ dX11_share_73 rfl (st := []) (fun x_411222 I_411223 J_411224 h_411225 => ?_)
            obtain ⟨rfl, rfl, rx_411222⟩ := h_411225
            exact g_zret (ty := .int) (r := x_411222) B K rfl (rfl) ⟨rfl, rfl, rx_411222⟩ dX11_share_76
          · skip
            have r_411226 := (⟨(rx_411217).1, (eq_rg (h_411218) rc_0).2⟩ : Rg 0 0 x_411217)
            refine g_iconst C (v := (-1)) dX11_share_56 (by decide) ?_
            exact g_zret (ty := .int) (r := (-1)) B K rfl (rfl) ⟨rfl, rfl, rg_all _⟩ dX11_share_57
set_option maxRecDepth 100000 in
set_option maxHeartbeats 8000000 in
theorem c_X11_last {l : Launch} {D : va_G} {cy : Nat → ClassId} {L : List Nat} {κ ln : Nat → Nat} {R : Nat → Nat → Option Nat} {I : Nat → Nat → Int32} {J : Nat → Nat → Int64} {ow : Nat → Nat × Nat} (W9 : ∀ a ∈ L, Shp L κ ln R ow a) {x : Nat} (hLx : x ∈ L) (hkx : κ x = 11) (a0 : Int32) (hU : Uv L κ ow I) : CtI l yX11_last cX11_last 2 (some .int) { frames := 1, cells := 0, slots := 0, locals := 21 } D cy L κ ln R I J [.ref x, .int a0] (fun r I2 J2 => I = I2 ∧ J = J2 ∧ Rg (-2147483648) 2147483647 r) := by
  refine CtI.of (by decide +kernel) (Nat.le_of_ble_eq_true rfl) ?_
  intro p e s m below meth c B K
  have C := B.1
  obtain ⟨b_411265, hb_411265, hb_411265L, hb_411265k⟩ := shp_o (W9 x hLx) hkx 1 8 rfl (by decide)
  obtain ⟨b_411266, hb_411266, hb_411266L, hb_411266k⟩ := shp_o (W9 x hLx) hkx 2 1 rfl (by decide)
  obtain ⟨b_411267, hb_411267, hb_411267L, hb_411267k, hb_411267n, hb_411267o⟩ := shp_a (W9 b_411266 hb_411266L) hb_411266k 1 14 6 rfl (by decide)
  refine g_lo (is := [0, 1]) (lo2 := [(0, .ref x), (1, .int a0)]) rfl ?_
  refine g_aload_n C 0 dX11_last_0 rfl rfl ?_
  refine g_getR C K hLx hkx f_11_19 hb_411265 dX11_last_1 ?_
  refine g_iload_n C 1 dX11_last_4 rfl rfl ?_
  refine g_callVI C K (c_X8_hasDish W9 hb_411265L hb_411265k a0  hU) hb_411265L hb_411265k (by decide) rfl v_11_175 rfl ⟨rfl, rfl⟩ ⟨Nat.le_of_ble_eq_true rfl, Nat.le_of_ble_eq_true rfl⟩ (Nat.le_of_ble_eq_true rfl) ⟨Nat.le_of_ble_eq_true rfl, Nat.le_of_ble_eq_true rfl⟩ dX11_last_5 rfl (st := []) (fun x_411268 I_411269 J_411270 h_411271 => ?_)
  obtain ⟨rfl, rfl, rx_411268, ex_411268⟩ := h_411271
  refine g_if_ne C (tgt := 13) dX11_last_8 (by decide) (fun h_411272 => ?_) (fun h_411272 => ?_)
  · skip
    have n_411273 : ¬ x_411268 = 0 := h_411272
    have r_411274 := ne_lo (lo := 1) n_411273 rx_411268 rc_0 rfl (by decide)
    have r_411275 := rg_i (rg_all a0) ((ex_411268) (rg_nz r_411274 (by decide))) (lo := 0) (hi := 5) (by decide) (by decide)
    refine g_aload_n C 0 dX11_last_13 rfl rfl ?_
    refine g_getR C K hLx hkx f_11_28 hb_411266 dX11_last_14 ?_
    refine g_getR C K hb_411266L hb_411266k f_11_182 hb_411267 dX11_last_17 ?_
    refine g_iload_n C 1 dX11_last_20 rfl rfl ?_
    obtain ⟨x_411276, hx_411276, rx_411276⟩ := ex_get (I := I) (a := b_411267) (j := a0.toNatClampNeg) (lo := (-2147483648)) (hi := 2147483647) hU hb_411267L (ro_a hb_411267k (by decide) hb_411267o hb_411266k rfl) (rfl)
    refine h_iald C K hb_411267L hb_411267k (v := x_411276) (a0.toNatClampNeg) (rfl) (ix_0 r_411275 (by decide)) (ix_lt r_411275 (by decide) hb_411267n (by decide)) hx_411276 dX11_last_21 ?_
    refine g_if_ne C (tgt := 29) dX11_last_22 (by decide) (fun h_411277 => ?_) (fun h_411277 => ?_)
    · skip
      have n_411278 : ¬ x_411276 = 0 := h_411277
      refine g_aload_n C 0 dX11_last_29 rfl rfl ?_
      refine g_getR C K hLx hkx f_11_28 hb_411266 dX11_last_30 ?_
      refine g_getR C K hb_411266L hb_411266k f_11_182 hb_411267 dX11_last_33 ?_
      refine g_iload_n C 1 dX11_last_36 rfl rfl ?_
      obtain ⟨x_411279, hx_411279, rx_411279⟩ := ex_get (I := I) (a := b_411267) (j := a0.toNatClampNeg) (lo := (-2147483648)) (hi := 2147483647) hU hb_411267L (ro_a hb_411267k (by decide) hb_411267o hb_411266k rfl) (rfl)
      refine h_iald C K hb_411267L hb_411267k (v := x_411279) (a0.toNatClampNeg) (rfl) (ix_0 r_411275 (by decide)) (ix_lt r_411275 (by decide) hb_411267n (by decide)) hx_411279 dX11_last_37 ?_
      refine g_iconst C (v := 3) dX11_last_38 (by decide) ?_
      obtain ⟨x_411280, hx_411280, rx_411280⟩ := ex_any (z0 := x_411279 + 3)
      refine g_iadd C (v := x_411280) dX11_last_39 hx_411280 ?_
      refine g_iconst C (v := 4) dX11_last_40 (by decide) ?_
      obtain ⟨x_411281, hx_411281, rx_411281⟩ := ex_any (z0 := x_411280 - x_411280 / 4 * 4)
      refine g_irem C (v := x_411281) dX11_last_41 (rg_ne0 rc_4 (by decide)) hx_411281 ?_
      exact g_zret (ty := .int) (r := x_411281) B K rfl (rfl) ⟨rfl, rfl, rx_411281⟩ dX11_last_42
    · skip
      have r_411282 := (⟨(eq_rg (h_411277) rc_0).1, (eq_rg (h_411277) rc_0).2⟩ : Rg 0 0 x_411276)
      refine g_iconst C (v := 0) dX11_last_25 (by decide) ?_
      refine g_goto C (tgt := 42) dX11_last_26 (by decide) ?_
      exact g_zret (ty := .int) (r := 0) B K rfl (rfl) ⟨rfl, rfl, rg_all _⟩ dX11_last_42
  · skip
    have r_411283 := (⟨(rx_411268).1, (eq_rg (h_411272) rc_0).2⟩ : Rg 0 0 x_411268)
    refine g_iconst C (v := (-1)) dX11_last_11 (by decide) ?_
    exact g_zret (ty := .int) (r := (-1)) B K rfl (rfl) ⟨rfl, rfl, rg_all _⟩ dX11_last_12
set_option maxRecDepth 100000 in
set_option maxHeartbeats 8000000 in
theorem c_X6_isChild {l : Launch} {D : va_G} {cy : Nat → ClassId} {L : List Nat} {κ ln : Nat → Nat} {R : Nat → Nat → Option Nat} {I : Nat → Nat → Int32} {J : Nat → Nat → Int64} {ow : Nat → Nat × Nat} (W9 : ∀ a ∈ L, Shp L κ ln R ow a) {a0 : Nat} (hLa0 : a0 ∈ L) (hka0 : κ a0 = 8) (a1 : Int32) (a2 : Int32) (ra1 : Rg 0 6 a1) (ra2 : Rg (-1) 6 a2) (hU : Uv L κ ow I) : CtI l yX6_isChild cX6_isChild 3 (some .int) { frames := 0, cells := 0, slots := 0, locals := 0 } D cy L κ ln R I J [.ref a0, .int a1, .int a2] (fun r I2 J2 => I = I2 ∧ J = J2 ∧ Rg 0 1 r) := by
  refine CtI.of (by decide +kernel) (Nat.le_of_ble_eq_true rfl) ?_
  intro p e s m below meth c B K
  have C := B.1
  obtain ⟨b_411300, hb_411300, hb_411300L, hb_411300k, hb_411300n, hb_411300o⟩ := shp_a (W9 a0 hLa0) hka0 2 14 7 rfl (by decide)
  refine g_lo (is := [0, 1, 2]) (lo2 := [(0, .ref a0), (1, .int a1), (2, .int a2)]) rfl ?_
  refine g_iload_n C 2 dX6_isChild_0 rfl rfl ?_
  refine g_iconst C (v := (-1)) dX6_isChild_1 (by decide) ?_
  refine g_icmp_eq C (tgt := 19) dX6_isChild_2 (by decide) (fun h_411301 => ?_) (fun h_411301 => ?_)
  · skip
    have r_411302 := (⟨(ra2).1, (eq_rg (h_411301) rc_m1).2⟩ : Rg (-1) (-1) a2)
    refine g_iconst C (v := 0) dX6_isChild_19 (by decide) ?_
    exact g_zret (ty := .int) (r := 0) B K rfl (rfl) ⟨rfl, rfl, rg_w rc_0 (by decide) (by decide)⟩ dX6_isChild_20
  · skip
    have n_411303 : ¬ a2 = (-1) := h_411301
    have r_411304 := ne_lo (lo := 0) n_411303 ra2 rc_m1 rfl (by decide)
    refine g_aload_n C 0 dX6_isChild_5 rfl rfl ?_
    refine g_getR C K hLa0 hka0 f_6_45 hb_411300 dX6_isChild_6 ?_
    refine g_iload_n C 1 dX6_isChild_9 rfl rfl ?_
    obtain ⟨x_411305, hx_411305, rx_411305⟩ := ex_get (I := I) (a := b_411300) (j := a1.toNatClampNeg) (lo := (-1)) (hi := 6) hU hb_411300L (ro_a hb_411300k (by decide) hb_411300o hka0 rfl) (rfl)
    refine h_iald C K hb_411300L hb_411300k (v := x_411305) (a1.toNatClampNeg) (rfl) (ix_0 ra1 (by decide)) (ix_lt ra1 (by decide) hb_411300n (by decide)) hx_411305 dX6_isChild_10 ?_
    refine g_iload_n C 2 dX6_isChild_11 rfl rfl ?_
    refine g_icmp_ne C (tgt := 19) dX6_isChild_12 (by decide) (fun h_411306 => ?_) (fun h_411306 => ?_)
    · skip
      refine g_iconst C (v := 0) dX6_isChild_19 (by decide) ?_
      exact g_zret (ty := .int) (r := 0) B K rfl (rfl) ⟨rfl, rfl, rg_w rc_0 (by decide) (by decide)⟩ dX6_isChild_20
    · skip
      have r_411307 := (⟨(eq_rg (h_411306) r_411304).1, (rx_411305).2⟩ : Rg 0 6 x_411305)
      refine g_iconst C (v := 1) dX6_isChild_15 (by decide) ?_
      refine g_goto C (tgt := 20) dX6_isChild_16 (by decide) ?_
      exact g_zret (ty := .int) (r := 1) B K rfl (rfl) ⟨rfl, rfl, rg_w rc_1 (by decide) (by decide)⟩ dX6_isChild_20
set_option maxRecDepth 100000 in
set_option maxHeartbeats 8000000 in
theorem c_X6_parentsAmong {l : Launch} {D : va_G} {cy : Nat → ClassId} {L : List Nat} {κ ln : Nat → Nat} {R : Nat → Nat → Option Nat} {I : Nat → Nat → Int32} {J : Nat → Nat → Int64} {ow : Nat → Nat × Nat} (W9 : ∀ a ∈ L, Shp L κ ln R ow a) {a0 : Nat} (hLa0 : a0 ∈ L) (hka0 : κ a0 = 8) (a1 : Int32) (a2 : Int32) (ra1 : Rg 0 127 a1) (ra2 : Rg 0 127 a2) (hU : Uv L κ ow I) : CtI l yX6_parentsAmong cX6_parentsAmong 5 (some .int) { frames := 1, cells := 0, slots := 0, locals := 23 } D cy L κ ln R I J [.ref a0, .int a1, .int a2] (fun r I2 J2 => I = I2 ∧ J = J2 ∧ Rg (-2147483648) 2147483647 r) := by
  refine CtI.of (by decide +kernel) (Nat.le_of_ble_eq_true rfl) ?_
  intro p e s m below meth c B K
  have C := B.1
  refine g_lo (is := [0, 1, 2]) (lo2 := [(0, .ref a0), (1, .int a1), (2, .int a2)]) rfl ?_
  have l_5 : ∀ (n_5 : Nat) (v_412376 : Int32) (rv_412376 : Rg 0 127 v_412376) (v_412377 : Int32) (rv_412377 : Rg 0 127 v_412377) (v_412378 : Int32) (v_412379 : Int32) (rv_412379 : Rg 0 7 v_412379) (hm_412380 : 7 < (v_412379 : Int32).toInt + (n_5 : Int)), WG p l e { frames := 1, cells := 0, slots := 0, locals := 23 } s m ([.ref a0, .int a1, .int a2] : List Value).toArray below meth c 5 0 0 (MQ below (Qi_ D cy L κ ln R (fun r I2 J2 => I = I2 ∧ J = J2 ∧ Rg (-2147483648) 2147483647 r)) ([.ref a0, .int a1, .int a2] : List Value).toArray s 0 0 (Al_ L)) D cy (Al_ L) s.heap L κ ln R I J 5 [(0, .ref a0), (1, .int v_412376), (2, .int v_412377), (3, .int v_412378), (4, .int v_412379)] [] := by
    intro n_5
    induction n_5 with
    | zero =>
      intro v_412376 rv_412376 v_412377 rv_412377 v_412378 v_412379 rv_412379 hm_412380
      exact ms_0 rv_412379 hm_412380
    | succ n_5 ih_5 =>
      intro v_412376 rv_412376 v_412377 rv_412377 v_412378 v_412379 rv_412379 hm_412380
      have j_37 : ∀ (v_412381 : Int32) (rv_412381 : Rg 0 127 v_412381) (v_412382 : Int32) (rv_412382 : Rg 0 127 v_412382) (v_412383 : Int32) (v_412384 : Int32) (rv_412384 : Rg 0 6 v_412384) (v_412385 : Int32) (rv_412385 : Rg 1 7 v_412385) (q_412386 : I a0 5 = v_412385) (hm_412387 : 7 < (v_412384 : Int32).toInt + ((n_5 + 1 : Nat) : Int)), WG p l e { frames := 1, cells := 0, slots := 0, locals := 23 } s m ([.ref a0, .int a1, .int a2] : List Value).toArray below meth c 5 0 0 (MQ below (Qi_ D cy L κ ln R (fun r I2 J2 => I = I2 ∧ J = J2 ∧ Rg (-2147483648) 2147483647 r)) ([.ref a0, .int a1, .int a2] : List Value).toArray s 0 0 (Al_ L)) D cy (Al_ L) s.heap L κ ln R I J 37 [(0, .ref a0), (1, .int v_412381), (2, .int v_412382), (3, .int v_412383), (4, .int v_412384)] [] := by
        intro v_412381 rv_412381 v_412382 rv_412382 v_412383 v_412384 rv_412384 v_412385 rv_412385 q_412386 hm_412387
        obtain ⟨x_412388, hx_412388, rx_412388, tx_412388⟩ := ex_add (y := 1) 1 7 rv_412384 rc_1 (by decide) (by decide) (by decide) (by decide)
        refine g_iinc C dX6_parentsAmong_37 (k := 4) (v := x_412388) rfl hx_412388 (by decide) (lo2 := [(4, .int x_412388), (0, .ref a0), (1, .int v_412381), (2, .int v_412382), (3, .int v_412383)]) rfl ?_
        refine g_goto C (tgt := 5) dX6_parentsAmong_40 (by decide) ?_
        refine g_lo (is := [1, 2, 3, 4, 0]) (lo2 := [(0, .ref a0), (1, .int v_412381), (2, .int v_412382), (3, .int v_412383), (4, .int x_412388)]) rfl ?_
        exact ih_5 v_412381 (rv_412381) v_412382 (rv_412382) v_412383 x_412388 (rg_w rx_412388 (by decide) (by decide)) (ms_1 hm_412387 (ti_k tx_412388 rc_1) (by decide))
      refine g_iload C 4 dX6_parentsAmong_5 rfl ?_
      refine g_aload_n C 0 dX6_parentsAmong_7 rfl rfl ?_
      obtain ⟨x_412389, hx_412389, rx_412389⟩ := ex_get (I := I) (a := a0) (j := 5) (lo := 0) (hi := 7) hU hLa0 (ro_o hka0 (by decide)) rfl
      refine g_getI C K hLa0 hka0 f_6_33 (v := x_412389) hx_412389 dX6_parentsAmong_8 ?_
      refine g_icmp_ge C (tgt := 43) dX6_parentsAmong_11 (by decide) (fun h_412390 => ?_) (fun h_412390 => ?_)
      · skip
        refine g_iload_n C 3 dX6_parentsAmong_43 rfl rfl ?_
        exact g_zret (ty := .int) (r := v_412378) B K rfl (rfl) ⟨rfl, rfl, (rg_all v_412378)⟩ dX6_parentsAmong_44
      · skip
        have r_412391 := lt_l (hi := 6) (nle h_412390) rv_412379 rx_412389 (by decide)
        have r_412392 := lt_r (lo := 1) (nle h_412390) rv_412379 rx_412389 (by decide)
        refine g_iload_n C 1 dX6_parentsAmong_14 rfl rfl ?_
        refine g_iload C 4 dX6_parentsAmong_15 rfl ?_
        obtain ⟨x_412393, hx_412393, rx_412393⟩ := ex_shr (x := v_412376) (y := v_412379) (b := 127) (rv_412376)
        refine g_ishr C (v := x_412393) dX6_parentsAmong_17 hx_412393 ?_
        refine g_iconst C (v := 1) dX6_parentsAmong_18 (by decide) ?_
        obtain ⟨x_412394, hx_412394, rx_412394⟩ := ex_andr (x := x_412393) (y := 1) (b := 1) (rg_w rc_1 (by decide) (by decide))
        refine g_iand C (v := x_412394) dX6_parentsAmong_19 hx_412394 ?_
        refine g_if_eq C (tgt := 37) dX6_parentsAmong_20 (by decide) (fun h_412395 => ?_) (fun h_412395 => ?_)
        · skip
          have r_412396 := (⟨(rx_412394).1, (eq_rg (h_412395) rc_0).2⟩ : Rg 0 0 x_412394)
          refine g_lo (is := [0, 1, 2, 3, 4]) (lo2 := [(0, .ref a0), (1, .int v_412376), (2, .int v_412377), (3, .int v_412378), (4, .int v_412379)]) rfl ?_
          exact j_37 v_412376 (rv_412376) v_412377 (rv_412377) v_412378 v_412379 (r_412391) x_412389 (r_412392) hx_412389 hm_412380
        · skip
          have n_412397 : ¬ x_412394 = 0 := h_412395
          have r_412398 := ne_lo (lo := 1) n_412397 rx_412394 rc_0 rfl (by decide)
          refine g_aload_n C 0 dX6_parentsAmong_23 rfl rfl ?_
          refine g_iload C 4 dX6_parentsAmong_24 rfl ?_
          refine g_callVI C K (c_X8_childrenOf W9 hLa0 hka0 v_412379 (r_412391) hU) hLa0 hka0 (by decide) rfl v_6_48 rfl ⟨rfl, rfl⟩ ⟨Nat.le_of_ble_eq_true rfl, Nat.le_of_ble_eq_true rfl⟩ (Nat.le_of_ble_eq_true rfl) ⟨Nat.le_of_ble_eq_true rfl, Nat.le_of_ble_eq_true rfl⟩ dX6_parentsAmong_26 rfl (st := []) (fun x_412399 I_412400 J_412401 h_412402 => ?_)
          obtain ⟨rfl, rfl, rx_412399⟩ := h_412402
          refine g_iload_n C 2 dX6_parentsAmong_29 rfl rfl ?_
          obtain ⟨x_412403, hx_412403, rx_412403⟩ := ex_andl (x := x_412399) (y := v_412377) (b := 127) (rx_412399)
          refine g_iand C (v := x_412403) dX6_parentsAmong_30 hx_412403 ?_
          refine g_if_eq C (tgt := 37) dX6_parentsAmong_31 (by decide) (fun h_412404 => ?_) (fun h_412404 => ?_)
          · skip
            have r_412405 := (⟨(rx_412403).1, (eq_rg (h_412404) rc_0).2⟩ : Rg 0 0 x_412403)
            refine g_lo (is := [0, 1, 2, 3, 4]) (lo2 := [(0, .ref a0), (1, .int v_412376), (2, .int v_412377), (3, .int v_412378), (4, .int v_412379)]) rfl ?_
            exact j_37 v_412376 (rv_412376) v_412377 (rv_412377) v_412378 v_412379 (r_412391) x_412389 (r_412392) hx_412389 hm_412380
          · skip
            have n_412406 : ¬ x_412403 = 0 := h_412404
            have r_412407 := ne_lo (lo := 1) n_412406 rx_412403 rc_0 rfl (by decide)
            obtain ⟨x_412408, hx_412408, rx_412408⟩ := ex_any (z0 := v_412378 + 1)
            refine g_iinc C dX6_parentsAmong_34 (k := 3) (v := x_412408) rfl hx_412408 (by decide) (lo2 := [(3, .int x_412408), (0, .ref a0), (1, .int v_412376), (2, .int v_412377), (4, .int v_412379)]) rfl ?_
            refine g_lo (is := [1, 2, 3, 0, 4]) (lo2 := [(0, .ref a0), (1, .int v_412376), (2, .int v_412377), (3, .int x_412408), (4, .int v_412379)]) rfl ?_
            exact j_37 v_412376 (rv_412376) v_412377 (rv_412377) x_412408 v_412379 (r_412391) x_412389 (r_412392) hx_412389 hm_412380
  refine g_iconst C (v := 0) dX6_parentsAmong_0 (by decide) ?_
  refine g_istore_n C dX6_parentsAmong_1 rfl (by decide) (lo2 := [(3, .int 0), (0, .ref a0), (1, .int a1), (2, .int a2)]) rfl ?_
  refine g_iconst C (v := 0) dX6_parentsAmong_2 (by decide) ?_
  refine g_istore C dX6_parentsAmong_3 (by decide) (lo2 := [(4, .int 0), (3, .int 0), (0, .ref a0), (1, .int a1), (2, .int a2)]) rfl ?_
  refine g_lo (is := [2, 3, 4, 1, 0]) (lo2 := [(0, .ref a0), (1, .int a1), (2, .int a2), (3, .int 0), (4, .int 0)]) rfl ?_
  exact l_5 8 a1 (ra1) a2 (ra2) 0 0 (rg_w rc_0 (by decide) (by decide)) (ms_s (N := 8) (rg_w rc_0 (by decide) (by decide)) (by decide))
set_option maxRecDepth 100000 in
set_option maxHeartbeats 8000000 in
theorem c_X6_leastFor {l : Launch} {D : va_G} {cy : Nat → ClassId} {L : List Nat} {κ ln : Nat → Nat} {R : Nat → Nat → Option Nat} {I : Nat → Nat → Int32} {J : Nat → Nat → Int64} {ow : Nat → Nat × Nat} (W9 : ∀ a ∈ L, Shp L κ ln R ow a) {a0 : Nat} (hLa0 : a0 ∈ L) (hka0 : κ a0 = 8) (a1 : Int32) (a2 : Int32) (a3 : Int32) (ra1 : Rg 1 127 a1) (ra2 : Rg (-1) 6 a2) (hU : Uv L κ ow I) : CtI l yX6_leastFor cX6_leastFor 6 (some .int) { frames := 2, cells := 0, slots := 0, locals := 47 } D cy L κ ln R I J [.ref a0, .int a1, .int a2, .int a3] (fun r I2 J2 => I = I2 ∧ J = J2 ∧ Rg (-1) 6 r) := by
  refine CtI.of (by decide +kernel) (Nat.le_of_ble_eq_true rfl) ?_
  intro p e s m below meth c B K
  have C := B.1
  refine g_lo (is := [0, 1, 2, 3]) (lo2 := [(0, .ref a0), (1, .int a1), (2, .int a2), (3, .int a3)]) rfl ?_
  have l_3 : ∀ (n_3 : Nat) (v_412585 : Int32) (rv_412585 : Rg 1 127 v_412585) (v_412586 : Int32) (rv_412586 : Rg (-1) 6 v_412586) (v_412587 : Int32) (v_412588 : Int32) (rv_412588 : Rg 0 7 v_412588) (hm_412589 : 7 < (v_412588 : Int32).toInt + (n_3 : Int)), WG p l e { frames := 2, cells := 0, slots := 0, locals := 47 } s m ([.ref a0, .int a1, .int a2, .int a3] : List Value).toArray below meth c 6 0 0 (MQ below (Qi_ D cy L κ ln R (fun r I2 J2 => I = I2 ∧ J = J2 ∧ Rg (-1) 6 r)) ([.ref a0, .int a1, .int a2, .int a3] : List Value).toArray s 0 0 (Al_ L)) D cy (Al_ L) s.heap L κ ln R I J 3 [(0, .ref a0), (1, .int v_412585), (2, .int v_412586), (3, .int v_412587), (4, .int v_412588)] [] := by
    intro n_3
    induction n_3 with
    | zero =>
      intro v_412585 rv_412585 v_412586 rv_412586 v_412587 v_412588 rv_412588 hm_412589
      exact ms_0 rv_412588 hm_412589
    | succ n_3 ih_3 =>
      intro v_412585 rv_412585 v_412586 rv_412586 v_412587 v_412588 rv_412588 hm_412589
      have j_50 : ∀ (v_412590 : Int32) (rv_412590 : Rg 1 127 v_412590) (v_412591 : Int32) (rv_412591 : Rg (-1) 6 v_412591) (v_412592 : Int32) (v_412593 : Int32) (rv_412593 : Rg 0 6 v_412593) (v_412594 : Int32) (rv_412594 : Rg 0 127 v_412594) (v_412595 : Int32) (rv_412595 : Rg 1 7 v_412595) (q_412596 : I a0 5 = v_412595) (hm_412597 : 7 < (v_412593 : Int32).toInt + ((n_3 + 1 : Nat) : Int)), WG p l e { frames := 2, cells := 0, slots := 0, locals := 47 } s m ([.ref a0, .int a1, .int a2, .int a3] : List Value).toArray below meth c 6 0 0 (MQ below (Qi_ D cy L κ ln R (fun r I2 J2 => I = I2 ∧ J = J2 ∧ Rg (-1) 6 r)) ([.ref a0, .int a1, .int a2, .int a3] : List Value).toArray s 0 0 (Al_ L)) D cy (Al_ L) s.heap L κ ln R I J 50 [(0, .ref a0), (1, .int v_412590), (2, .int v_412591), (3, .int v_412592), (4, .int v_412593), (5, .int v_412594)] [] := by
        intro v_412590 rv_412590 v_412591 rv_412591 v_412592 v_412593 rv_412593 v_412594 rv_412594 v_412595 rv_412595 q_412596 hm_412597
        obtain ⟨x_412598, hx_412598, rx_412598, tx_412598⟩ := ex_add (y := 1) 1 7 rv_412593 rc_1 (by decide) (by decide) (by decide) (by decide)
        refine g_iinc C dX6_leastFor_50 (k := 4) (v := x_412598) rfl hx_412598 (by decide) (lo2 := [(4, .int x_412598), (0, .ref a0), (1, .int v_412590), (2, .int v_412591), (3, .int v_412592), (5, .int v_412594)]) rfl ?_
        refine g_goto C (tgt := 3) dX6_leastFor_53 (by decide) ?_
        refine g_lo (is := [1, 2, 3, 4, 0]) (lo2 := [(0, .ref a0), (1, .int v_412590), (2, .int v_412591), (3, .int v_412592), (4, .int x_412598)]) rfl ?_
        exact ih_3 v_412590 (rv_412590) v_412591 (rv_412591) v_412592 x_412598 (rg_w rx_412598 (by decide) (by decide)) (ms_1 hm_412597 (ti_k tx_412598 rc_1) (by decide))
      refine g_iload C 4 dX6_leastFor_3 rfl ?_
      refine g_aload_n C 0 dX6_leastFor_5 rfl rfl ?_
      obtain ⟨x_412599, hx_412599, rx_412599⟩ := ex_get (I := I) (a := a0) (j := 5) (lo := 0) (hi := 7) hU hLa0 (ro_o hka0 (by decide)) rfl
      refine g_getI C K hLa0 hka0 f_6_33 (v := x_412599) hx_412599 dX6_leastFor_6 ?_
      refine g_icmp_ge C (tgt := 56) dX6_leastFor_9 (by decide) (fun h_412600 => ?_) (fun h_412600 => ?_)
      · skip
        refine g_iconst C (v := (-1)) dX6_leastFor_56 (by decide) ?_
        exact g_zret (ty := .int) (r := (-1)) B K rfl (rfl) ⟨rfl, rfl, rg_w rc_m1 (by decide) (by decide)⟩ dX6_leastFor_57
      · skip
        have r_412601 := lt_l (hi := 6) (nle h_412600) rv_412588 rx_412599 (by decide)
        have r_412602 := lt_r (lo := 1) (nle h_412600) rv_412588 rx_412599 (by decide)
        refine g_iload_n C 1 dX6_leastFor_12 rfl rfl ?_
        refine g_iconst C (v := 1) dX6_leastFor_13 (by decide) ?_
        refine g_iload C 4 dX6_leastFor_14 rfl ?_
        obtain ⟨x_412603, hx_412603, rx_412603⟩ := ex_shl (x := 1) (y := v_412588) 6 64 rfl (r_412601) (by decide)
        refine g_ishl C (v := x_412603) dX6_leastFor_16 hx_412603 ?_
        refine g_iconst C (v := (-1)) dX6_leastFor_17 (by decide) ?_
        obtain ⟨x_412604, hx_412604, rx_412604⟩ := ex_any (z0 := x_412603 ^^^ (-1))
        refine g_ixor C (v := x_412604) dX6_leastFor_18 hx_412604 ?_
        obtain ⟨x_412605, hx_412605, rx_412605⟩ := ex_andl (x := v_412585) (y := x_412604) (b := 127) (rg_w rv_412585 (by decide) (by decide))
        refine g_iand C (v := x_412605) dX6_leastFor_19 hx_412605 ?_
        refine g_istore C dX6_leastFor_20 (by decide) (lo2 := [(5, .int x_412605), (0, .ref a0), (1, .int v_412585), (2, .int v_412586), (3, .int v_412587), (4, .int v_412588)]) rfl ?_
        refine g_iload C 0 dX6_leastFor_22 rfl ?_
        refine g_iload_n C 2 dX6_leastFor_24 rfl rfl ?_
        refine g_icmp_eq C (tgt := 50) dX6_leastFor_25 (by decide) (fun h_412606 => ?_) (fun h_412606 => ?_)
        · skip
          have r_412607 := (⟨(eq_rg (h_412606) rv_412585).1, (rx_412605).2⟩ : Rg 1 127 x_412605)
          refine g_lo (is := [1, 2, 3, 4, 5, 0]) (lo2 := [(0, .ref a0), (1, .int v_412585), (2, .int v_412586), (3, .int v_412587), (4, .int v_412588), (5, .int x_412605)]) rfl ?_
          exact j_50 v_412585 (rv_412585) v_412586 (rv_412586) v_412587 v_412588 (r_412601) x_412605 (rg_w r_412607 (by decide) (by decide)) x_412599 (r_412602) hx_412599 hm_412589
        · skip
          refine g_aload_n C 1 dX6_leastFor_28 rfl rfl ?_
          refine g_iload C 5 dX6_leastFor_29 rfl ?_
          refine g_iload_n C 3 dX6_leastFor_31 rfl rfl ?_
          refine g_callSI C K (c_X6_isChild W9 hLa0 hka0 v_412588 v_412586 (r_412601) (rv_412586) hU) s_6_42 rfl ⟨rfl, rfl⟩ ⟨Nat.le_of_ble_eq_true rfl, Nat.le_of_ble_eq_true rfl⟩ (Nat.le_of_ble_eq_true rfl) ⟨Nat.le_of_ble_eq_true rfl, Nat.le_of_ble_eq_true rfl⟩ dX6_leastFor_32 rfl (st := []) (fun x_412608 I_412609 J_412610 h_412611 => ?_)
          obtain ⟨rfl, rfl, rx_412608⟩ := h_412611
          refine g_aload_n C 1 dX6_leastFor_35 rfl rfl ?_
          refine g_iload_n C 2 dX6_leastFor_36 rfl rfl ?_
          refine g_iload C 0 dX6_leastFor_37 rfl ?_
          refine g_callSI C K (c_X6_parentsAmong W9 hLa0 hka0 v_412585 x_412605 (rg_w rv_412585 (by decide) (by decide)) (rx_412605) hU) s_6_29 rfl ⟨rfl, rfl⟩ ⟨Nat.le_of_ble_eq_true rfl, Nat.le_of_ble_eq_true rfl⟩ (Nat.le_of_ble_eq_true rfl) ⟨Nat.le_of_ble_eq_true rfl, Nat.le_of_ble_eq_true rfl⟩ dX6_leastFor_39 rfl (st := [.int x_412608]) (fun x_412612 I_412613 J_412614 h_412615 => ?_)
          obtain ⟨rfl, rfl, rx_412612⟩ := h_412615
          obtain ⟨x_412616, hx_412616, rx_412616⟩ := ex_any (z0 := x_412608 + x_412612)
          refine g_iadd C (v := x_412616) dX6_leastFor_42 hx_412616 ?_
          refine g_iload_n C 4 dX6_leastFor_43 rfl rfl ?_
          refine g_icmp_ne C (tgt := 50) dX6_leastFor_44 (by decide) (fun h_412617 => ?_) (fun h_412617 => ?_)
          · skip
            refine g_lo (is := [1, 2, 3, 4, 5, 0]) (lo2 := [(0, .ref a0), (1, .int v_412585), (2, .int v_412586), (3, .int v_412587), (4, .int v_412588), (5, .int x_412605)]) rfl ?_
            exact j_50 v_412585 (rv_412585) v_412586 (rv_412586) v_412587 v_412588 (r_412601) x_412605 (rx_412605) x_412599 (r_412602) hx_412599 hm_412589
          · skip
            refine g_iload C 5 dX6_leastFor_47 rfl ?_
            exact g_zret (ty := .int) (r := v_412588) B K rfl (rfl) ⟨rfl, rfl, rg_w r_412601 (by decide) (by decide)⟩ dX6_leastFor_49
  refine g_iconst C (v := 0) dX6_leastFor_0 (by decide) ?_
  refine g_istore C dX6_leastFor_1 (by decide) (lo2 := [(4, .int 0), (0, .ref a0), (1, .int a1), (2, .int a2), (3, .int a3)]) rfl ?_
  refine g_lo (is := [1, 2, 3, 4, 0]) (lo2 := [(0, .ref a0), (1, .int a1), (2, .int a2), (3, .int a3), (4, .int 0)]) rfl ?_
  exact l_3 8 a1 (ra1) a2 (ra2) a3 0 (rg_w rc_0 (by decide) (by decide)) (ms_s (N := 8) (rg_w rc_0 (by decide) (by decide)) (by decide))
set_option maxRecDepth 100000 in
set_option maxHeartbeats 8000000 in
theorem c_X6_seat {l : Launch} {D : va_G} {cy : Nat → ClassId} {L : List Nat} {κ ln : Nat → Nat} {R : Nat → Nat → Option Nat} {I : Nat → Nat → Int32} {J : Nat → Nat → Int64} {ow : Nat → Nat × Nat} (W9 : ∀ a ∈ L, Shp L κ ln R ow a) {x : Nat} (hLx : x ∈ L) (hkx : κ x = 6) {a0 : Nat} (hLa0 : a0 ∈ L) (hka0 : κ a0 = 1) (hU : Uv L κ ow I) : CtI l yX6_seat cX6_seat 9 (some .int) { frames := 3, cells := 0, slots := 0, locals := 72 } D cy L κ ln R I J [.ref x, .ref a0] (fun r I2 J2 => Uv L κ ow I2 ∧ Fq L κ ow [601, 46000] I I2 ∧ Fq L κ ow [] J J2 ∧ Rg (-2147483648) 2147483647 r) := by
  refine CtI.of (by decide +kernel) (Nat.le_of_ble_eq_true rfl) ?_
  intro p e s m below meth c B K
  have C := B.1
  have hF : Fq L κ ow [601, 46000] I I := fq_rf
  have hG : Fq L κ ow [] J J := fq_rf
  obtain ⟨b_414375, hb_414375, hb_414375L, hb_414375k, hb_414375n, hb_414375o⟩ := shp_a (W9 x hLx) hkx 0 14 7 rfl (by decide)
  obtain ⟨b_414376, hb_414376, hb_414376L, hb_414376k⟩ := shp_o (W9 a0 hLa0) hka0 0 8 rfl (by decide)
  refine g_lo (is := [0, 1]) (lo2 := [(0, .ref x), (1, .ref a0)]) rfl ?_
  have l_32 : ∀ (n_32 : Nat) (I_414377 : Nat → Nat → Int32) (J_414378 : Nat → Nat → Int64) (hU_414379 : Uv L κ ow I_414377) (hF_414380 : Fq L κ ow [601, 46000] I I_414377) (hG_414381 : Fq L κ ow [] J J_414378) (v_414382 : Int32) (rv_414382 : Rg 0 127 v_414382) (v_414383 : Int32) (v_414384 : Int32) (v_414385 : Int32) (rv_414385 : Rg (-1) 6 v_414385) (v_414386 : Int32) (rv_414386 : Rg 0 7 v_414386) (q_414387 : I_414377 x 1 = v_414386) (hm_414388 : 7 < (v_414386 : Int32).toInt + (n_32 : Int)), WG p l e { frames := 3, cells := 0, slots := 0, locals := 72 } s m ([.ref x, .ref a0] : List Value).toArray below meth c 9 0 0 (MQ below (Qi_ D cy L κ ln R (fun r I2 J2 => Uv L κ ow I2 ∧ Fq L κ ow [601, 46000] I I2 ∧ Fq L κ ow [] J J2 ∧ Rg (-2147483648) 2147483647 r)) ([.ref x, .ref a0] : List Value).toArray s 0 0 (Al_ L)) D cy (Al_ L) s.heap L κ ln R I_414377 J_414378 32 [(0, .ref x), (1, .ref a0), (2, .ref b_414376), (3, .int v_414382), (4, .int v_414383), (5, .int v_414384), (6, .int v_414385), (7, .int v_414386)] [] := by
    intro n_32
    induction n_32 with
    | zero =>
      intro I_414377 J_414378 hU_414379 hF_414380 hG_414381 v_414382 rv_414382 v_414383 v_414384 v_414385 rv_414385 v_414386 rv_414386 q_414387 hm_414388
      exact ms_0 rv_414386 hm_414388
    | succ n_32 ih_32 =>
      intro I_414377 J_414378 hU_414379 hF_414380 hG_414381 v_414382 rv_414382 v_414383 v_414384 v_414385 rv_414385 v_414386 rv_414386 q_414387 hm_414388
      refine g_iload C 7 dX6_seat_32 rfl ?_
      refine g_aload_n C 2 dX6_seat_34 rfl rfl ?_
      obtain ⟨x_414389, hx_414389, rx_414389⟩ := ex_get (I := I_414377) (a := b_414376) (j := 5) (lo := 0) (hi := 7) hU_414379 hb_414376L (ro_o hb_414376k (by decide)) rfl
      refine g_getI C K hb_414376L hb_414376k f_6_33 (v := x_414389) hx_414389 dX6_seat_35 ?_
      refine g_icmp_ge C (tgt := 130) dX6_seat_38 (by decide) (fun h_414390 => ?_) (fun h_414390 => ?_)
      · skip
        refine g_iload C 5 dX6_seat_130 rfl ?_
        exact g_zret (ty := .int) (r := v_414384) B K rfl (rfl) ⟨hU_414379, hF_414380, hG_414381, (rg_all v_414384)⟩ dX6_seat_132
      · skip
        have r_414391 := lt_l (hi := 6) (nle h_414390) rv_414386 rx_414389 (by decide)
        have r_414392 := lt_r (lo := 1) (nle h_414390) rv_414386 rx_414389 (by decide)
        refine g_iload_n C 3 dX6_seat_41 rfl rfl ?_
        refine g_if_eq C (tgt := 130) dX6_seat_42 (by decide) (fun h_414393 => ?_) (fun h_414393 => ?_)
        · skip
          have r_414394 := (⟨(rv_414382).1, (eq_rg (h_414393) rc_0).2⟩ : Rg 0 0 v_414382)
          refine g_iload C 5 dX6_seat_130 rfl ?_
          exact g_zret (ty := .int) (r := v_414384) B K rfl (rfl) ⟨hU_414379, hF_414380, hG_414381, (rg_all v_414384)⟩ dX6_seat_132
        · skip
          have n_414395 : ¬ v_414382 = 0 := h_414393
          have r_414396 := ne_lo (lo := 1) n_414395 rv_414382 rc_0 rfl (by decide)
          refine g_aload_n C 2 dX6_seat_45 rfl rfl ?_
          refine g_iload_n C 3 dX6_seat_46 rfl rfl ?_
          refine g_iload C 6 dX6_seat_47 rfl ?_
          refine g_iload C 4 dX6_seat_49 rfl ?_
          refine g_iload C 5 dX6_seat_51 rfl ?_
          obtain ⟨x_414397, hx_414397, rx_414397⟩ := ex_any (z0 := v_414383 - v_414384)
          refine g_isub C (v := x_414397) dX6_seat_53 hx_414397 ?_
          refine g_callSI C K (c_X6_leastFor W9 hb_414376L hb_414376k v_414382 v_414385 x_414397 (r_414396) (rv_414385) hU_414379) s_6_38 rfl ⟨rfl, rfl⟩ ⟨Nat.le_of_ble_eq_true rfl, Nat.le_of_ble_eq_true rfl⟩ (Nat.le_of_ble_eq_true rfl) ⟨Nat.le_of_ble_eq_true rfl, Nat.le_of_ble_eq_true rfl⟩ dX6_seat_54 rfl (st := []) (fun x_414398 I_414399 J_414400 h_414401 => ?_)
          obtain ⟨rfl, rfl, rx_414398⟩ := h_414401
          refine g_istore C dX6_seat_57 (by decide) (lo2 := [(8, .int x_414398), (0, .ref x), (1, .ref a0), (2, .ref b_414376), (3, .int v_414382), (4, .int v_414383), (5, .int v_414384), (6, .int v_414385), (7, .int v_414386)]) rfl ?_
          refine g_iload C 0 dX6_seat_59 rfl ?_
          refine g_iconst C (v := (-1)) dX6_seat_61 (by decide) ?_
          refine g_icmp_eq C (tgt := 74) dX6_seat_62 (by decide) (fun h_414402 => ?_) (fun h_414402 => ?_)
          · skip
            have r_414403 := (⟨(rx_414398).1, (eq_rg (h_414402) rc_m1).2⟩ : Rg (-1) (-1) x_414398)
            refine g_iload C 6 dX6_seat_74 rfl ?_
            exact g_zret (ty := .int) (r := v_414384) B K rfl (rfl) ⟨hU_414379, hF_414380, hG_414381, (rg_all v_414384)⟩ dX6_seat_76
          · skip
            have n_414404 : ¬ x_414398 = (-1) := h_414402
            have r_414405 := ne_lo (lo := 0) n_414404 rx_414398 rc_m1 rfl (by decide)
            refine g_aload_n C 1 dX6_seat_65 rfl rfl ?_
            refine g_getI C K hLx hkx f_6_15 (v := v_414386) q_414387 dX6_seat_66 ?_
            refine g_bipush C (v := 7) dX6_seat_69 (by decide) ?_
            refine g_icmp_lt C (tgt := 77) dX6_seat_71 (by decide) (fun h_414406 => ?_) (fun h_414406 => ?_)
            · skip
              refine g_iload C 6 dX6_seat_77 rfl ?_
              refine g_aload_n C 3 dX6_seat_79 rfl rfl ?_
              refine g_iload C 0 dX6_seat_80 rfl ?_
              refine g_iload C 7 dX6_seat_82 rfl ?_
              refine g_callSI C K (c_X6_isChild W9 hb_414376L hb_414376k x_414398 v_414385 (r_414405) (rv_414385) hU_414379) s_6_42 rfl ⟨rfl, rfl⟩ ⟨Nat.le_of_ble_eq_true rfl, Nat.le_of_ble_eq_true rfl⟩ (Nat.le_of_ble_eq_true rfl) ⟨Nat.le_of_ble_eq_true rfl, Nat.le_of_ble_eq_true rfl⟩ dX6_seat_84 rfl (st := [.int v_414384]) (fun x_414407 I_414408 J_414409 h_414410 => ?_)
              obtain ⟨rfl, rfl, rx_414407⟩ := h_414410
              obtain ⟨x_414411, hx_414411, rx_414411⟩ := ex_any (z0 := v_414384 + x_414407)
              refine g_iadd C (v := x_414411) dX6_seat_87 hx_414411 ?_
              refine g_istore C dX6_seat_88 (by decide) (lo2 := [(5, .int x_414411), (8, .int x_414398), (0, .ref x), (1, .ref a0), (2, .ref b_414376), (3, .int v_414382), (4, .int v_414383), (6, .int v_414385), (7, .int v_414386)]) rfl ?_
              refine g_aload_n C 2 dX6_seat_90 rfl rfl ?_
              refine g_getR C K hLx hkx f_6_9 hb_414375 dX6_seat_91 ?_
              refine g_aload_n C 2 dX6_seat_94 rfl rfl ?_
              refine g_getI C K hLx hkx f_6_15 (v := v_414386) q_414387 dX6_seat_95 ?_
              refine g_iload C 1 dX6_seat_98 rfl ?_
              refine h_iast C K hb_414375L hb_414375k (v_414386.toNatClampNeg) (rfl) (ix_0 r_414391 (by decide)) (ix_lt r_414391 (by decide) hb_414375n (by decide)) dX6_seat_100 (fun I_414412 hI_414412 => ?_)
              have hU_414413 := uv_put hU_414379 hI_414412 (ro_a hb_414375k (by decide) hb_414375o hkx rfl) (lo := (-2147483648)) (hi := 2147483647) (rfl) (rg_all _)
              have hF_414414 := fq_puta hF_414380 hI_414412 (ro_a hb_414375k (by decide) hb_414375o hkx rfl) (by decide) (by decide)
              refine g_aload_n C 2 dX6_seat_101 rfl rfl ?_
              refine g_dup C dX6_seat_102 rfl ?_
              refine g_getI C K hLx hkx f_6_15 (v := v_414386) (kp_k hI_414412 (by rw [hkx, hb_414375k]; decide) q_414387) dX6_seat_103 ?_
              refine g_iconst C (v := 1) dX6_seat_106 (by decide) ?_
              obtain ⟨x_414415, hx_414415, rx_414415, tx_414415⟩ := ex_add 1 7 r_414391 rc_1 (by decide) (by decide) (by decide) (by decide)
              refine g_iadd C (v := x_414415) dX6_seat_107 hx_414415 ?_
              refine h_putI C K hLx hkx f_6_15 p_6_1 dX6_seat_108 (fun I_414416 hI_414416 => ?_)
              have hU_414417 := uv_put hU_414413 hI_414416 (ro_o hkx (by decide)) (lo := 0) (hi := 7) rfl (rg_w rx_414415 (by decide) (by decide))
              have hF_414418 := fq_puto hF_414414 hI_414416 hkx (by decide) (by decide)
              refine g_iload_n C 5 dX6_seat_111 rfl rfl ?_
              refine g_iconst C (v := 1) dX6_seat_112 (by decide) ?_
              refine g_iload C 1 dX6_seat_113 rfl ?_
              obtain ⟨x_414419, hx_414419, rx_414419⟩ := ex_shl (x := 1) (y := x_414398) 6 64 rfl (r_414405) (by decide)
              refine g_ishl C (v := x_414419) dX6_seat_115 hx_414419 ?_
              refine g_iconst C (v := (-1)) dX6_seat_116 (by decide) ?_
              obtain ⟨x_414420, hx_414420, rx_414420⟩ := ex_any (z0 := x_414419 ^^^ (-1))
              refine g_ixor C (v := x_414420) dX6_seat_117 hx_414420 ?_
              obtain ⟨x_414421, hx_414421, rx_414421⟩ := ex_andl (x := v_414382) (y := x_414420) (b := 127) (rg_w r_414396 (by decide) (by decide))
              refine g_iand C (v := x_414421) dX6_seat_118 hx_414421 ?_
              refine g_istore_n C dX6_seat_119 rfl (by decide) (lo2 := [(3, .int x_414421), (5, .int x_414411), (8, .int x_414398), (0, .ref x), (1, .ref a0), (2, .ref b_414376), (4, .int v_414383), (6, .int v_414385), (7, .int v_414386)]) rfl ?_
              refine g_iload C 2 dX6_seat_120 rfl ?_
              refine g_istore C dX6_seat_122 (by decide) (lo2 := [(6, .int x_414398), (3, .int x_414421), (5, .int x_414411), (8, .int x_414398), (0, .ref x), (1, .ref a0), (2, .ref b_414376), (4, .int v_414383), (7, .int v_414386)]) rfl ?_
              refine g_iinc C dX6_seat_124 (k := 8) (v := x_414415) rfl hx_414415 (by decide) (lo2 := [(7, .int x_414415), (6, .int x_414398), (3, .int x_414421), (5, .int x_414411), (8, .int x_414398), (0, .ref x), (1, .ref a0), (2, .ref b_414376), (4, .int v_414383)]) rfl ?_
              refine g_goto C (tgt := 32) dX6_seat_127 (by decide) ?_
              refine g_lo (is := [5, 6, 7, 2, 8, 3, 1, 0]) (lo2 := [(0, .ref x), (1, .ref a0), (2, .ref b_414376), (3, .int x_414421), (4, .int v_414383), (5, .int x_414411), (6, .int x_414398), (7, .int x_414415)]) rfl ?_
              exact ih_32 I_414416 J_414378 hU_414417 hF_414418 hG_414381 x_414421 (rx_414421) v_414383 x_414411 x_414398 (rg_w r_414405 (by decide) (by decide)) x_414415 (rg_w rx_414415 (by decide) (by decide)) (kp_s hI_414416) (ms_1 hm_414388 (ti_k tx_414415 rc_1) (by decide))
            · skip
              have r_414422 := le_r (nlt h_414406) rc_7 r_414391
              exact rg_no r_414422 (by decide)
  refine g_aload_n C 1 dX6_seat_0 rfl rfl ?_
  refine g_getR C K hLa0 hka0 f_6_19 hb_414376 dX6_seat_1 ?_
  refine g_astore_n C dX6_seat_4 rfl (by decide) (lo2 := [(2, .ref b_414376), (0, .ref x), (1, .ref a0)]) rfl ?_
  refine g_aload_n C 2 dX6_seat_5 rfl rfl ?_
  refine g_callVI C K (c_X1_living W9 hLa0 hka0   hU) hLa0 hka0 (by decide) rfl v_6_25 rfl ⟨rfl, rfl⟩ ⟨Nat.le_of_ble_eq_true rfl, Nat.le_of_ble_eq_true rfl⟩ (Nat.le_of_ble_eq_true rfl) ⟨Nat.le_of_ble_eq_true rfl, Nat.le_of_ble_eq_true rfl⟩ dX6_seat_6 rfl (st := []) (fun x_414423 I_414424 J_414425 h_414426 => ?_)
  obtain ⟨rfl, rfl, rx_414423⟩ := h_414426
  refine g_istore_n C dX6_seat_9 rfl (by decide) (lo2 := [(3, .int x_414423), (2, .ref b_414376), (0, .ref x), (1, .ref a0)]) rfl ?_
  refine g_aload_n C 1 dX6_seat_10 rfl rfl ?_
  refine g_iload_n C 0 dX6_seat_11 rfl rfl ?_
  refine g_iload_n C 0 dX6_seat_12 rfl rfl ?_
  refine g_callSI C K (c_X6_parentsAmong W9 hb_414376L hb_414376k x_414423 x_414423 (rx_414423) (rx_414423) hU) s_6_29 rfl ⟨rfl, rfl⟩ ⟨Nat.le_of_ble_eq_true rfl, Nat.le_of_ble_eq_true rfl⟩ (Nat.le_of_ble_eq_true rfl) ⟨Nat.le_of_ble_eq_true rfl, Nat.le_of_ble_eq_true rfl⟩ dX6_seat_13 rfl (st := []) (fun x_414427 I_414428 J_414429 h_414430 => ?_)
  obtain ⟨rfl, rfl, rx_414427⟩ := h_414430
  refine g_istore C dX6_seat_16 (by decide) (lo2 := [(4, .int x_414427), (3, .int x_414423), (2, .ref b_414376), (0, .ref x), (1, .ref a0)]) rfl ?_
  refine g_iconst C (v := 0) dX6_seat_18 (by decide) ?_
  refine g_istore C dX6_seat_19 (by decide) (lo2 := [(5, .int 0), (4, .int x_414427), (3, .int x_414423), (2, .ref b_414376), (0, .ref x), (1, .ref a0)]) rfl ?_
  refine g_iconst C (v := (-1)) dX6_seat_21 (by decide) ?_
  refine g_istore C dX6_seat_22 (by decide) (lo2 := [(6, .int (-1)), (5, .int 0), (4, .int x_414427), (3, .int x_414423), (2, .ref b_414376), (0, .ref x), (1, .ref a0)]) rfl ?_
  refine g_aload_n C 5 dX6_seat_24 rfl rfl ?_
  refine g_iconst C (v := 0) dX6_seat_25 (by decide) ?_
  refine h_putI C K hLx hkx f_6_15 p_6_1 dX6_seat_26 (fun I_414431 hI_414431 => ?_)
  have hU_414432 := uv_put hU hI_414431 (ro_o hkx (by decide)) (lo := 0) (hi := 7) rfl (rg_w rc_0 (by decide) (by decide))
  have hF_414433 := fq_puto hF hI_414431 hkx (by decide) (by decide)
  refine g_iconst C (v := 0) dX6_seat_29 (by decide) ?_
  refine g_istore C dX6_seat_30 (by decide) (lo2 := [(7, .int 0), (6, .int (-1)), (5, .int 0), (4, .int x_414427), (3, .int x_414423), (2, .ref b_414376), (0, .ref x), (1, .ref a0)]) rfl ?_
  refine g_lo (is := [6, 7, 5, 4, 3, 2, 1, 0]) (lo2 := [(0, .ref x), (1, .ref a0), (2, .ref b_414376), (3, .int x_414423), (4, .int x_414427), (5, .int 0), (6, .int (-1)), (7, .int 0)]) rfl ?_
  exact l_32 8 I_414431 J hU_414432 hF_414433 hG x_414423 (rx_414423) x_414427 0 (-1) (rg_w rc_m1 (by decide) (by decide)) 0 (rg_w rc_0 (by decide) (by decide)) (kp_s hI_414431) (ms_s (N := 8) (rg_w rc_0 (by decide) (by decide)) (by decide))
set_option maxRecDepth 100000 in
set_option maxHeartbeats 8000000 in
theorem c_X11_seats {l : Launch} {D : va_G} {cy : Nat → ClassId} {L : List Nat} {κ ln : Nat → Nat} {R : Nat → Nat → Option Nat} {I : Nat → Nat → Int32} {J : Nat → Nat → Int64} {ow : Nat → Nat × Nat} (W9 : ∀ a ∈ L, Shp L κ ln R ow a) {x : Nat} (hLx : x ∈ L) (hkx : κ x = 11) (hU : Uv L κ ow I) : CtI l yX11_seats cX11_seats 1 (some .int) { frames := 4, cells := 0, slots := 0, locals := 100 } D cy L κ ln R I J [.ref x] (fun r I2 J2 => Uv L κ ow I2 ∧ Fq L κ ow [601, 46000] I I2 ∧ Fq L κ ow [] J J2 ∧ Rg (-2147483648) 2147483647 r) := by
  refine CtI.of (by decide +kernel) (Nat.le_of_ble_eq_true rfl) ?_
  intro p e s m below meth c B K
  have C := B.1
  have hF : Fq L κ ow [601, 46000] I I := fq_rf
  have hG : Fq L κ ow [] J J := fq_rf
  obtain ⟨b_414450, hb_414450, hb_414450L, hb_414450k⟩ := shp_o (W9 x hLx) hkx 2 1 rfl (by decide)
  obtain ⟨b_414451, hb_414451, hb_414451L, hb_414451k⟩ := shp_o (W9 x hLx) hkx 10 6 rfl (by decide)
  refine g_lo (is := [0]) (lo2 := [(0, .ref x)]) rfl ?_
  refine g_aload_n C 0 dX11_seats_0 rfl rfl ?_
  refine g_getR C K hLx hkx f_11_76 hb_414451 dX11_seats_1 ?_
  refine g_aload_n C 0 dX11_seats_4 rfl rfl ?_
  refine g_getR C K hLx hkx f_11_28 hb_414450 dX11_seats_5 ?_
  refine g_callVI C K (c_X6_seat W9 hb_414451L hb_414451k hb_414450L hb_414450k  hU) hb_414451L hb_414451k (by decide) rfl v_11_291 rfl ⟨rfl, rfl⟩ ⟨Nat.le_of_ble_eq_true rfl, Nat.le_of_ble_eq_true rfl⟩ (Nat.le_of_ble_eq_true rfl) ⟨Nat.le_of_ble_eq_true rfl, Nat.le_of_ble_eq_true rfl⟩ dX11_seats_8 rfl (st := []) (fun x_414452 I_414453 J_414454 h_414455 => ?_)
  obtain ⟨hUI_414453, hFI_414453, hGJ_414454, rx_414452⟩ := h_414455
  have hF_414456 := fq_tr hF hFI_414453 (by decide)
  have hG_414457 := fq_tr hG hGJ_414454 (by decide)
  exact g_zret (ty := .int) (r := x_414452) B K rfl (rfl) ⟨hUI_414453, hF_414456, hG_414457, rx_414452⟩ dX11_seats_11
