theorem dX10_byteOf_0 : decode cX10_byteOf 0 = .ok (.iload_n 1, 1) := by decide +kernel
theorem dX10_byteOf_1 : decode cX10_byteOf 1 = .ok (.ifCond .lt 33, 3) := by decide +kernel
theorem dX10_byteOf_4 : decode cX10_byteOf 4 = .ok (.iload_n 1, 1) := by decide +kernel
theorem dX10_byteOf_5 : decode cX10_byteOf 5 = .ok (.aload_n 0, 1) := by decide +kernel
theorem dX10_byteOf_6 : decode cX10_byteOf 6 = .ok (.getfield 29, 3) := by decide +kernel
theorem dX10_byteOf_9 : decode cX10_byteOf 9 = .ok (.if_icmp .ge 25, 3) := by decide +kernel
theorem dX10_byteOf_12 : decode cX10_byteOf 12 = .ok (.iload_n 1, 1) := by decide +kernel
theorem dX10_byteOf_13 : decode cX10_byteOf 13 = .ok (.aload_n 0, 1) := by decide +kernel
theorem dX10_byteOf_14 : decode cX10_byteOf 14 = .ok (.getfield 9, 3) := by decide +kernel
theorem dX10_byteOf_17 : decode cX10_byteOf 17 = .ok (.arraylength, 1) := by decide +kernel
theorem dX10_byteOf_18 : decode cX10_byteOf 18 = .ok (.if_icmp .ge 16, 3) := by decide +kernel
theorem dX10_byteOf_21 : decode cX10_byteOf 21 = .ok (.aload_n 0, 1) := by decide +kernel
theorem dX10_byteOf_22 : decode cX10_byteOf 22 = .ok (.getfield 9, 3) := by decide +kernel
theorem dX10_byteOf_25 : decode cX10_byteOf 25 = .ok (.iload_n 1, 1) := by decide +kernel
theorem dX10_byteOf_26 : decode cX10_byteOf 26 = .ok (.baload, 1) := by decide +kernel
theorem dX10_byteOf_27 : decode cX10_byteOf 27 = .ok (.sipush 255, 3) := by decide +kernel
theorem dX10_byteOf_30 : decode cX10_byteOf 30 = .ok (.iand, 1) := by decide +kernel
theorem dX10_byteOf_31 : decode cX10_byteOf 31 = .ok (.goto 4, 3) := by decide +kernel
theorem dX10_byteOf_34 : decode cX10_byteOf 34 = .ok (.iconst (-1), 1) := by decide +kernel
theorem dX10_byteOf_35 : decode cX10_byteOf 35 = .ok (.ireturn, 1) := by decide +kernel
theorem dX11_eaters_0 : decode cX11_eaters 0 = .ok (.aload_n 0, 1) := by decide +kernel
theorem dX11_eaters_1 : decode cX11_eaters 1 = .ok (.getfield 10, 3) := by decide +kernel
theorem dX11_eaters_4 : decode cX11_eaters 4 = .ok (.getfield 102, 3) := by decide +kernel
theorem dX11_eaters_7 : decode cX11_eaters 7 = .ok (.iconst 2, 1) := by decide +kernel
theorem dX11_eaters_8 : decode cX11_eaters 8 = .ok (.if_icmp .ne 7, 3) := by decide +kernel
theorem dX11_eaters_11 : decode cX11_eaters 11 = .ok (.iconst 1, 1) := by decide +kernel
theorem dX11_eaters_12 : decode cX11_eaters 12 = .ok (.goto 4, 3) := by decide +kernel
theorem dX11_eaters_15 : decode cX11_eaters 15 = .ok (.iconst 0, 1) := by decide +kernel
theorem dX11_eaters_16 : decode cX11_eaters 16 = .ok (.istore_n 1, 1) := by decide +kernel
theorem dX11_eaters_17 : decode cX11_eaters 17 = .ok (.aload_n 0, 1) := by decide +kernel
theorem dX11_eaters_18 : decode cX11_eaters 18 = .ok (.getfield 10, 3) := by decide +kernel
theorem dX11_eaters_21 : decode cX11_eaters 21 = .ok (.iconst 0, 1) := by decide +kernel
theorem dX11_eaters_22 : decode cX11_eaters 22 = .ok (.invokevirtual 275, 3) := by decide +kernel
theorem dX11_eaters_25 : decode cX11_eaters 25 = .ok (.istore_n 2, 1) := by decide +kernel
theorem dX11_eaters_26 : decode cX11_eaters 26 = .ok (.aload_n 0, 1) := by decide +kernel
theorem dX11_eaters_27 : decode cX11_eaters 27 = .ok (.getfield 10, 3) := by decide +kernel
theorem dX11_eaters_30 : decode cX11_eaters 30 = .ok (.iconst 1, 1) := by decide +kernel
theorem dX11_eaters_31 : decode cX11_eaters 31 = .ok (.invokevirtual 275, 3) := by decide +kernel
theorem dX11_eaters_34 : decode cX11_eaters 34 = .ok (.istore_n 3, 1) := by decide +kernel
theorem dX11_eaters_35 : decode cX11_eaters 35 = .ok (.aload_n 0, 1) := by decide +kernel
theorem dX11_eaters_36 : decode cX11_eaters 36 = .ok (.getfield 10, 3) := by decide +kernel
theorem dX11_eaters_39 : decode cX11_eaters 39 = .ok (.iconst 0, 1) := by decide +kernel
theorem dX11_eaters_40 : decode cX11_eaters 40 = .ok (.putfield 102, 3) := by decide +kernel
theorem dX11_eaters_43 : decode cX11_eaters 43 = .ok (.iload_n 1, 1) := by decide +kernel
theorem dX11_eaters_44 : decode cX11_eaters 44 = .ok (.ifCond .eq 30, 3) := by decide +kernel
theorem dX11_eaters_47 : decode cX11_eaters 47 = .ok (.aload_n 0, 1) := by decide +kernel
theorem dX11_eaters_48 : decode cX11_eaters 48 = .ok (.getfield 19, 3) := by decide +kernel
theorem dX11_eaters_51 : decode cX11_eaters 51 = .ok (.iload_n 2, 1) := by decide +kernel
theorem dX11_eaters_52 : decode cX11_eaters 52 = .ok (.invokevirtual 175, 3) := by decide +kernel
theorem dX11_eaters_55 : decode cX11_eaters 55 = .ok (.ifCond .eq 19, 3) := by decide +kernel
theorem dX11_eaters_58 : decode cX11_eaters 58 = .ok (.aload_n 0, 1) := by decide +kernel
theorem dX11_eaters_59 : decode cX11_eaters 59 = .ok (.getfield 83, 3) := by decide +kernel
theorem dX11_eaters_62 : decode cX11_eaters 62 = .ok (.aload_n 0, 1) := by decide +kernel
theorem dX11_eaters_63 : decode cX11_eaters 63 = .ok (.getfield 28, 3) := by decide +kernel
theorem dX11_eaters_66 : decode cX11_eaters 66 = .ok (.iload_n 2, 1) := by decide +kernel
theorem dX11_eaters_67 : decode cX11_eaters 67 = .ok (.iload_n 3, 1) := by decide +kernel
theorem dX11_eaters_68 : decode cX11_eaters 68 = .ok (.invokevirtual 278, 3) := by decide +kernel
theorem dX11_eaters_71 : decode cX11_eaters 71 = .ok (.goto 4, 3) := by decide +kernel
theorem dX11_eaters_74 : decode cX11_eaters 74 = .ok (.iconst (-1), 1) := by decide +kernel
theorem dX11_eaters_75 : decode cX11_eaters 75 = .ok (.ireturn, 1) := by decide +kernel
theorem dX11_order_0 : decode cX11_order 0 = .ok (.aload_n 0, 1) := by decide +kernel
theorem dX11_order_1 : decode cX11_order 1 = .ok (.getfield 69, 3) := by decide +kernel
theorem dX11_order_4 : decode cX11_order 4 = .ok (.aload_n 0, 1) := by decide +kernel
theorem dX11_order_5 : decode cX11_order 5 = .ok (.getfield 28, 3) := by decide +kernel
theorem dX11_order_8 : decode cX11_order 8 = .ok (.invokevirtual 266, 3) := by decide +kernel
theorem dX11_order_11 : decode cX11_order 11 = .ok (.ireturn, 1) := by decide +kernel
theorem dX11_orderAt_0 : decode cX11_orderAt 0 = .ok (.iload_n 1, 1) := by decide +kernel
theorem dX11_orderAt_1 : decode cX11_orderAt 1 = .ok (.ifCond .lt 26, 3) := by decide +kernel
theorem dX11_orderAt_4 : decode cX11_orderAt 4 = .ok (.iload_n 1, 1) := by decide +kernel
theorem dX11_orderAt_5 : decode cX11_orderAt 5 = .ok (.aload_n 0, 1) := by decide +kernel
theorem dX11_orderAt_6 : decode cX11_orderAt 6 = .ok (.getfield 69, 3) := by decide +kernel
theorem dX11_orderAt_9 : decode cX11_orderAt 9 = .ok (.getfield 269, 3) := by decide +kernel
theorem dX11_orderAt_12 : decode cX11_orderAt 12 = .ok (.if_icmp .ge 15, 3) := by decide +kernel
theorem dX11_orderAt_15 : decode cX11_orderAt 15 = .ok (.aload_n 0, 1) := by decide +kernel
theorem dX11_orderAt_16 : decode cX11_orderAt 16 = .ok (.getfield 69, 3) := by decide +kernel
theorem dX11_orderAt_19 : decode cX11_orderAt 19 = .ok (.getfield 272, 3) := by decide +kernel
theorem dX11_orderAt_22 : decode cX11_orderAt 22 = .ok (.iload_n 1, 1) := by decide +kernel
theorem dX11_orderAt_23 : decode cX11_orderAt 23 = .ok (.iaload, 1) := by decide +kernel
theorem dX11_orderAt_24 : decode cX11_orderAt 24 = .ok (.goto 4, 3) := by decide +kernel
theorem dX11_orderAt_27 : decode cX11_orderAt 27 = .ok (.iconst (-1), 1) := by decide +kernel
theorem dX11_orderAt_28 : decode cX11_orderAt 28 = .ok (.ireturn, 1) := by decide +kernel
theorem dX11_surely_0 : decode cX11_surely 0 = .ok (.aload_n 0, 1) := by decide +kernel
theorem dX11_surely_1 : decode cX11_surely 1 = .ok (.getfield 83, 3) := by decide +kernel
theorem dX11_surely_4 : decode cX11_surely 4 = .ok (.getfield 282, 3) := by decide +kernel
theorem dX11_surely_7 : decode cX11_surely 7 = .ok (.ireturn, 1) := by decide +kernel
theorem dX2_countIn_0 : decode cX2_countIn 0 = .ok (.iconst 0, 1) := by decide +kernel
theorem dX2_countIn_1 : decode cX2_countIn 1 = .ok (.istore_n 2, 1) := by decide +kernel
theorem dX2_countIn_2 : decode cX2_countIn 2 = .ok (.iload_n 2, 1) := by decide +kernel
theorem dX2_countIn_3 : decode cX2_countIn 3 = .ok (.bipush 7, 2) := by decide +kernel
theorem dX2_countIn_5 : decode cX2_countIn 5 = .ok (.if_icmp .ge 23, 3) := by decide +kernel
theorem dX2_countIn_8 : decode cX2_countIn 8 = .ok (.aload_n 0, 1) := by decide +kernel
theorem dX2_countIn_9 : decode cX2_countIn 9 = .ok (.getfield 9, 3) := by decide +kernel
theorem dX2_countIn_12 : decode cX2_countIn 12 = .ok (.iload_n 2, 1) := by decide +kernel
theorem dX2_countIn_13 : decode cX2_countIn 13 = .ok (.dup2, 1) := by decide +kernel
theorem dX2_countIn_14 : decode cX2_countIn 14 = .ok (.iaload, 1) := by decide +kernel
theorem dX2_countIn_15 : decode cX2_countIn 15 = .ok (.iload_n 1, 1) := by decide +kernel
theorem dX2_countIn_16 : decode cX2_countIn 16 = .ok (.iload_n 2, 1) := by decide +kernel
theorem dX2_countIn_17 : decode cX2_countIn 17 = .ok (.ishr, 1) := by decide +kernel
theorem dX2_countIn_18 : decode cX2_countIn 18 = .ok (.iconst 1, 1) := by decide +kernel
theorem dX2_countIn_19 : decode cX2_countIn 19 = .ok (.iand, 1) := by decide +kernel
theorem dX2_countIn_20 : decode cX2_countIn 20 = .ok (.iadd, 1) := by decide +kernel
theorem dX2_countIn_21 : decode cX2_countIn 21 = .ok (.iastore, 1) := by decide +kernel
theorem dX2_countIn_22 : decode cX2_countIn 22 = .ok (.iinc 2 1, 3) := by decide +kernel
theorem dX2_countIn_25 : decode cX2_countIn 25 = .ok (.goto (-23), 3) := by decide +kernel
theorem dX2_countIn_28 : decode cX2_countIn 28 = .ok (.return_, 1) := by decide +kernel
theorem dX2_nearestToHalf_0 : decode cX2_nearestToHalf 0 = .ok (.iconst (-1), 1) := by decide +kernel
theorem dX2_nearestToHalf_1 : decode cX2_nearestToHalf 1 = .ok (.istore_n 3, 1) := by decide +kernel
theorem dX2_nearestToHalf_2 : decode cX2_nearestToHalf 2 = .ok (.sipush 1000, 3) := by decide +kernel
theorem dX2_nearestToHalf_5 : decode cX2_nearestToHalf 5 = .ok (.istore 4, 2) := by decide +kernel
theorem dX2_nearestToHalf_7 : decode cX2_nearestToHalf 7 = .ok (.iconst 0, 1) := by decide +kernel
theorem dX2_nearestToHalf_8 : decode cX2_nearestToHalf 8 = .ok (.istore 5, 2) := by decide +kernel
theorem dX2_nearestToHalf_10 : decode cX2_nearestToHalf 10 = .ok (.iload 5, 2) := by decide +kernel
theorem dX2_nearestToHalf_12 : decode cX2_nearestToHalf 12 = .ok (.iload_n 1, 1) := by decide +kernel
theorem dX2_nearestToHalf_13 : decode cX2_nearestToHalf 13 = .ok (.if_icmp .ge 39, 3) := by decide +kernel
theorem dX2_nearestToHalf_16 : decode cX2_nearestToHalf 16 = .ok (.iconst 2, 1) := by decide +kernel
theorem dX2_nearestToHalf_17 : decode cX2_nearestToHalf 17 = .ok (.aload_n 0, 1) := by decide +kernel
theorem dX2_nearestToHalf_18 : decode cX2_nearestToHalf 18 = .ok (.getfield 9, 3) := by decide +kernel
theorem dX2_nearestToHalf_21 : decode cX2_nearestToHalf 21 = .ok (.iload 5, 2) := by decide +kernel
theorem dX2_nearestToHalf_23 : decode cX2_nearestToHalf 23 = .ok (.iaload, 1) := by decide +kernel
theorem dX2_nearestToHalf_24 : decode cX2_nearestToHalf 24 = .ok (.imul, 1) := by decide +kernel
theorem dX2_nearestToHalf_25 : decode cX2_nearestToHalf 25 = .ok (.iload_n 2, 1) := by decide +kernel
theorem dX2_nearestToHalf_26 : decode cX2_nearestToHalf 26 = .ok (.isub, 1) := by decide +kernel
theorem dX2_nearestToHalf_27 : decode cX2_nearestToHalf 27 = .ok (.invokestatic 48, 3) := by decide +kernel
theorem dX2_nearestToHalf_30 : decode cX2_nearestToHalf 30 = .ok (.istore 6, 2) := by decide +kernel
theorem dX2_nearestToHalf_32 : decode cX2_nearestToHalf 32 = .ok (.iload 6, 2) := by decide +kernel
theorem dX2_nearestToHalf_34 : decode cX2_nearestToHalf 34 = .ok (.iload 4, 2) := by decide +kernel
theorem dX2_nearestToHalf_36 : decode cX2_nearestToHalf 36 = .ok (.if_icmp .ge 10, 3) := by decide +kernel
theorem dX2_nearestToHalf_39 : decode cX2_nearestToHalf 39 = .ok (.iload 6, 2) := by decide +kernel
theorem dX2_nearestToHalf_41 : decode cX2_nearestToHalf 41 = .ok (.istore 4, 2) := by decide +kernel
theorem dX2_nearestToHalf_43 : decode cX2_nearestToHalf 43 = .ok (.iload 5, 2) := by decide +kernel
theorem dX2_nearestToHalf_45 : decode cX2_nearestToHalf 45 = .ok (.istore_n 3, 1) := by decide +kernel
theorem dX2_nearestToHalf_46 : decode cX2_nearestToHalf 46 = .ok (.iinc 5 1, 3) := by decide +kernel
theorem dX2_nearestToHalf_49 : decode cX2_nearestToHalf 49 = .ok (.goto (-39), 3) := by decide +kernel
theorem dX2_nearestToHalf_52 : decode cX2_nearestToHalf 52 = .ok (.iload_n 3, 1) := by decide +kernel
theorem dX2_nearestToHalf_53 : decode cX2_nearestToHalf 53 = .ok (.ireturn, 1) := by decide +kernel
theorem dX2_setsWith_0 : decode cX2_setsWith 0 = .ok (.aload_n 1, 1) := by decide +kernel
theorem dX2_setsWith_1 : decode cX2_setsWith 1 = .ok (.getfield 22, 3) := by decide +kernel
theorem dX2_setsWith_4 : decode cX2_setsWith 4 = .ok (.invokevirtual 28, 3) := by decide +kernel
theorem dX2_setsWith_7 : decode cX2_setsWith 7 = .ok (.istore 4, 2) := by decide +kernel
theorem dX2_setsWith_9 : decode cX2_setsWith 9 = .ok (.iconst 0, 1) := by decide +kernel
theorem dX2_setsWith_10 : decode cX2_setsWith 10 = .ok (.istore 5, 2) := by decide +kernel
theorem dX2_setsWith_12 : decode cX2_setsWith 12 = .ok (.iload 4, 2) := by decide +kernel
theorem dX2_setsWith_14 : decode cX2_setsWith 14 = .ok (.istore 6, 2) := by decide +kernel
theorem dX2_setsWith_16 : decode cX2_setsWith 16 = .ok (.iconst 0, 1) := by decide +kernel
theorem dX2_setsWith_17 : decode cX2_setsWith 17 = .ok (.istore 7, 2) := by decide +kernel
theorem dX2_setsWith_19 : decode cX2_setsWith 19 = .ok (.iload 7, 2) := by decide +kernel
theorem dX2_setsWith_21 : decode cX2_setsWith 21 = .ok (.bipush 7, 2) := by decide +kernel
theorem dX2_setsWith_23 : decode cX2_setsWith 23 = .ok (.if_icmp .ge 17, 3) := by decide +kernel
theorem dX2_setsWith_26 : decode cX2_setsWith 26 = .ok (.aload_n 0, 1) := by decide +kernel
theorem dX2_setsWith_27 : decode cX2_setsWith 27 = .ok (.getfield 9, 3) := by decide +kernel
theorem dX2_setsWith_30 : decode cX2_setsWith 30 = .ok (.iload 7, 2) := by decide +kernel
theorem dX2_setsWith_32 : decode cX2_setsWith 32 = .ok (.iconst 0, 1) := by decide +kernel
theorem dX2_setsWith_33 : decode cX2_setsWith 33 = .ok (.iastore, 1) := by decide +kernel
theorem dX2_setsWith_34 : decode cX2_setsWith 34 = .ok (.iinc 7 1, 3) := by decide +kernel
theorem dX2_setsWith_37 : decode cX2_setsWith 37 = .ok (.goto (-18), 3) := by decide +kernel
theorem dX2_setsWith_40 : decode cX2_setsWith 40 = .ok (.iconst 0, 1) := by decide +kernel
theorem dX2_setsWith_41 : decode cX2_setsWith 41 = .ok (.istore 7, 2) := by decide +kernel
theorem dX2_setsWith_43 : decode cX2_setsWith 43 = .ok (.iload 7, 2) := by decide +kernel
theorem dX2_setsWith_45 : decode cX2_setsWith 45 = .ok (.iload 4, 2) := by decide +kernel
theorem dX2_setsWith_47 : decode cX2_setsWith 47 = .ok (.if_icmp .gt 36, 3) := by decide +kernel
theorem dX2_setsWith_50 : decode cX2_setsWith 50 = .ok (.aload_n 1, 1) := by decide +kernel
theorem dX2_setsWith_51 : decode cX2_setsWith 51 = .ok (.iload 7, 2) := by decide +kernel
theorem dX2_setsWith_53 : decode cX2_setsWith 53 = .ok (.iload_n 2, 1) := by decide +kernel
theorem dX2_setsWith_54 : decode cX2_setsWith 54 = .ok (.invokevirtual 34, 3) := by decide +kernel
theorem dX2_setsWith_57 : decode cX2_setsWith 57 = .ok (.iload_n 3, 1) := by decide +kernel
theorem dX2_setsWith_58 : decode cX2_setsWith 58 = .ok (.if_icmp .ne 19, 3) := by decide +kernel
theorem dX2_setsWith_61 : decode cX2_setsWith 61 = .ok (.iinc 5 1, 3) := by decide +kernel
theorem dX2_setsWith_64 : decode cX2_setsWith 64 = .ok (.iload 6, 2) := by decide +kernel
theorem dX2_setsWith_66 : decode cX2_setsWith 66 = .ok (.iload 7, 2) := by decide +kernel
theorem dX2_setsWith_68 : decode cX2_setsWith 68 = .ok (.iand, 1) := by decide +kernel
theorem dX2_setsWith_69 : decode cX2_setsWith 69 = .ok (.istore 6, 2) := by decide +kernel
theorem dX2_setsWith_71 : decode cX2_setsWith 71 = .ok (.aload_n 0, 1) := by decide +kernel
theorem dX2_setsWith_72 : decode cX2_setsWith 72 = .ok (.iload 7, 2) := by decide +kernel
theorem dX2_setsWith_74 : decode cX2_setsWith 74 = .ok (.invokevirtual 38, 3) := by decide +kernel
theorem dX2_setsWith_77 : decode cX2_setsWith 77 = .ok (.iinc 7 1, 3) := by decide +kernel
theorem dX2_setsWith_80 : decode cX2_setsWith 80 = .ok (.goto (-37), 3) := by decide +kernel
theorem dX2_setsWith_83 : decode cX2_setsWith 83 = .ok (.iload 5, 2) := by decide +kernel
theorem dX2_setsWith_85 : decode cX2_setsWith 85 = .ok (.ifCond .le 26, 3) := by decide +kernel
theorem dX2_setsWith_88 : decode cX2_setsWith 88 = .ok (.aload_n 0, 1) := by decide +kernel
theorem dX2_setsWith_89 : decode cX2_setsWith 89 = .ok (.iload 6, 2) := by decide +kernel
theorem dX2_setsWith_91 : decode cX2_setsWith 91 = .ok (.putfield 15, 3) := by decide +kernel
theorem dX2_setsWith_94 : decode cX2_setsWith 94 = .ok (.aload_n 0, 1) := by decide +kernel
theorem dX2_setsWith_95 : decode cX2_setsWith 95 = .ok (.aload_n 0, 1) := by decide +kernel
theorem dX2_setsWith_96 : decode cX2_setsWith 96 = .ok (.aload_n 1, 1) := by decide +kernel
theorem dX2_setsWith_97 : decode cX2_setsWith 97 = .ok (.getfield 22, 3) := by decide +kernel
theorem dX2_setsWith_100 : decode cX2_setsWith 100 = .ok (.getfield 42, 3) := by decide +kernel
theorem dX2_setsWith_103 : decode cX2_setsWith 103 = .ok (.iload 5, 2) := by decide +kernel
theorem dX2_setsWith_105 : decode cX2_setsWith 105 = .ok (.invokevirtual 45, 3) := by decide +kernel
theorem dX2_setsWith_108 : decode cX2_setsWith 108 = .ok (.putfield 19, 3) := by decide +kernel
theorem dX2_setsWith_111 : decode cX2_setsWith 111 = .ok (.iload 5, 2) := by decide +kernel
theorem dX2_setsWith_113 : decode cX2_setsWith 113 = .ok (.ireturn, 1) := by decide +kernel
theorem dX4_findFrom_0 : decode cX4_findFrom 0 = .ok (.aload_n 0, 1) := by decide +kernel
theorem dX4_findFrom_1 : decode cX4_findFrom 1 = .ok (.aload_n 1, 1) := by decide +kernel
theorem dX4_findFrom_2 : decode cX4_findFrom 2 = .ok (.invokevirtual 34, 3) := by decide +kernel
theorem dX4_findFrom_5 : decode cX4_findFrom 5 = .ok (.invokestatic 38, 3) := by decide +kernel
theorem dX4_findFrom_8 : decode cX4_findFrom 8 = .ok (.putfield 24, 3) := by decide +kernel
theorem dX4_findFrom_11 : decode cX4_findFrom 11 = .ok (.aload_n 0, 1) := by decide +kernel
theorem dX4_findFrom_12 : decode cX4_findFrom 12 = .ok (.sipush 1000, 3) := by decide +kernel
theorem dX4_findFrom_15 : decode cX4_findFrom 15 = .ok (.putfield 28, 3) := by decide +kernel
theorem dX4_findFrom_18 : decode cX4_findFrom 18 = .ok (.aload_n 0, 1) := by decide +kernel
theorem dX4_findFrom_19 : decode cX4_findFrom 19 = .ok (.getfield 11, 3) := by decide +kernel
theorem dX4_findFrom_22 : decode cX4_findFrom 22 = .ok (.iconst 0, 1) := by decide +kernel
theorem dX4_findFrom_23 : decode cX4_findFrom 23 = .ok (.aaload, 1) := by decide +kernel
theorem dX4_findFrom_24 : decode cX4_findFrom 24 = .ok (.aload_n 1, 1) := by decide +kernel
theorem dX4_findFrom_25 : decode cX4_findFrom 25 = .ok (.invokevirtual 44, 3) := by decide +kernel
theorem dX4_findFrom_28 : decode cX4_findFrom 28 = .ok (.aload_n 0, 1) := by decide +kernel
theorem dX4_findFrom_29 : decode cX4_findFrom 29 = .ok (.iconst 0, 1) := by decide +kernel
theorem dX4_findFrom_30 : decode cX4_findFrom 30 = .ok (.aload_n 1, 1) := by decide +kernel
theorem dX4_findFrom_31 : decode cX4_findFrom 31 = .ok (.invokevirtual 34, 3) := by decide +kernel
theorem dX4_findFrom_34 : decode cX4_findFrom 34 = .ok (.iconst 0, 1) := by decide +kernel
theorem dX4_findFrom_35 : decode cX4_findFrom 35 = .ok (.invokevirtual 48, 3) := by decide +kernel
theorem dX4_findFrom_38 : decode cX4_findFrom 38 = .ok (.aload_n 0, 1) := by decide +kernel
theorem dX4_findFrom_39 : decode cX4_findFrom 39 = .ok (.getfield 28, 3) := by decide +kernel
theorem dX4_findFrom_42 : decode cX4_findFrom 42 = .ok (.ireturn, 1) := by decide +kernel
theorem dX4_goOn_0 : decode cX4_goOn 0 = .ok (.iload_n 2, 1) := by decide +kernel
theorem dX4_goOn_1 : decode cX4_goOn 1 = .ok (.ifCond .eq 9, 3) := by decide +kernel
theorem dX4_goOn_4 : decode cX4_goOn 4 = .ok (.iload_n 1, 1) := by decide +kernel
theorem dX4_goOn_5 : decode cX4_goOn 5 = .ok (.bipush 7, 2) := by decide +kernel
theorem dX4_goOn_7 : decode cX4_goOn 7 = .ok (.if_icmp .lt 24, 3) := by decide +kernel
theorem dX4_goOn_10 : decode cX4_goOn 10 = .ok (.aload_n 0, 1) := by decide +kernel
theorem dX4_goOn_11 : decode cX4_goOn 11 = .ok (.iload_n 3, 1) := by decide +kernel
theorem dX4_goOn_12 : decode cX4_goOn 12 = .ok (.putfield 28, 3) := by decide +kernel
theorem dX4_goOn_15 : decode cX4_goOn 15 = .ok (.aload_n 0, 1) := by decide +kernel
theorem dX4_goOn_16 : decode cX4_goOn 16 = .ok (.getfield 17, 3) := by decide +kernel
theorem dX4_goOn_19 : decode cX4_goOn 19 = .ok (.iconst 0, 1) := by decide +kernel
theorem dX4_goOn_20 : decode cX4_goOn 20 = .ok (.aload_n 0, 1) := by decide +kernel
theorem dX4_goOn_21 : decode cX4_goOn 21 = .ok (.getfield 21, 3) := by decide +kernel
theorem dX4_goOn_24 : decode cX4_goOn 24 = .ok (.iconst 0, 1) := by decide +kernel
theorem dX4_goOn_25 : decode cX4_goOn 25 = .ok (.bipush 7, 2) := by decide +kernel
theorem dX4_goOn_27 : decode cX4_goOn 27 = .ok (.invokestatic 52, 3) := by decide +kernel
theorem dX4_goOn_30 : decode cX4_goOn 30 = .ok (.return_, 1) := by decide +kernel
theorem dX4_goOn_31 : decode cX4_goOn 31 = .ok (.aload_n 0, 1) := by decide +kernel
theorem dX4_goOn_32 : decode cX4_goOn 32 = .ok (.getfield 11, 3) := by decide +kernel
theorem dX4_goOn_35 : decode cX4_goOn 35 = .ok (.iload_n 1, 1) := by decide +kernel
theorem dX4_goOn_36 : decode cX4_goOn 36 = .ok (.aaload, 1) := by decide +kernel
theorem dX4_goOn_37 : decode cX4_goOn 37 = .ok (.astore 4, 2) := by decide +kernel
theorem dX4_goOn_39 : decode cX4_goOn 39 = .ok (.aload_n 0, 1) := by decide +kernel
theorem dX4_goOn_40 : decode cX4_goOn 40 = .ok (.getfield 11, 3) := by decide +kernel
theorem dX4_goOn_43 : decode cX4_goOn 43 = .ok (.iload_n 1, 1) := by decide +kernel
theorem dX4_goOn_44 : decode cX4_goOn 44 = .ok (.iconst 1, 1) := by decide +kernel
theorem dX4_goOn_45 : decode cX4_goOn 45 = .ok (.iadd, 1) := by decide +kernel
theorem dX4_goOn_46 : decode cX4_goOn 46 = .ok (.aaload, 1) := by decide +kernel
theorem dX4_goOn_47 : decode cX4_goOn 47 = .ok (.astore 5, 2) := by decide +kernel
theorem dX4_goOn_49 : decode cX4_goOn 49 = .ok (.iconst 0, 1) := by decide +kernel
theorem dX4_goOn_50 : decode cX4_goOn 50 = .ok (.istore 6, 2) := by decide +kernel
theorem dX4_goOn_52 : decode cX4_goOn 52 = .ok (.iload 6, 2) := by decide +kernel
theorem dX4_goOn_54 : decode cX4_goOn 54 = .ok (.bipush 7, 2) := by decide +kernel
theorem dX4_goOn_56 : decode cX4_goOn 56 = .ok (.if_icmp .ge 97, 3) := by decide +kernel
theorem dX4_goOn_59 : decode cX4_goOn 59 = .ok (.iload_n 2, 1) := by decide +kernel
theorem dX4_goOn_60 : decode cX4_goOn 60 = .ok (.iload 6, 2) := by decide +kernel
theorem dX4_goOn_62 : decode cX4_goOn 62 = .ok (.ishr, 1) := by decide +kernel
theorem dX4_goOn_63 : decode cX4_goOn 63 = .ok (.iconst 1, 1) := by decide +kernel
theorem dX4_goOn_64 : decode cX4_goOn 64 = .ok (.iand, 1) := by decide +kernel
theorem dX4_goOn_65 : decode cX4_goOn 65 = .ok (.ifCond .eq 82, 3) := by decide +kernel
theorem dX4_goOn_68 : decode cX4_goOn 68 = .ok (.aload 5, 2) := by decide +kernel
theorem dX4_goOn_70 : decode cX4_goOn 70 = .ok (.aload 4, 2) := by decide +kernel
theorem dX4_goOn_72 : decode cX4_goOn 72 = .ok (.invokevirtual 44, 3) := by decide +kernel
theorem dX4_goOn_75 : decode cX4_goOn 75 = .ok (.aload 5, 2) := by decide +kernel
theorem dX4_goOn_77 : decode cX4_goOn 77 = .ok (.iload 6, 2) := by decide +kernel
theorem dX4_goOn_79 : decode cX4_goOn 79 = .ok (.invokevirtual 58, 3) := by decide +kernel
theorem dX4_goOn_82 : decode cX4_goOn 82 = .ok (.aload 5, 2) := by decide +kernel
theorem dX4_goOn_84 : decode cX4_goOn 84 = .ok (.iload 6, 2) := by decide +kernel
theorem dX4_goOn_86 : decode cX4_goOn 86 = .ok (.invokevirtual 62, 3) := by decide +kernel
theorem dX4_goOn_89 : decode cX4_goOn 89 = .ok (.pop, 1) := by decide +kernel
theorem dX4_goOn_90 : decode cX4_goOn 90 = .ok (.aload_n 0, 1) := by decide +kernel
theorem dX4_goOn_91 : decode cX4_goOn 91 = .ok (.getfield 17, 3) := by decide +kernel
theorem dX4_goOn_94 : decode cX4_goOn 94 = .ok (.iload_n 1, 1) := by decide +kernel
theorem dX4_goOn_95 : decode cX4_goOn 95 = .ok (.iload 6, 2) := by decide +kernel
theorem dX4_goOn_97 : decode cX4_goOn 97 = .ok (.iastore, 1) := by decide +kernel
theorem dX4_goOn_98 : decode cX4_goOn 98 = .ok (.iload_n 2, 1) := by decide +kernel
theorem dX4_goOn_99 : decode cX4_goOn 99 = .ok (.iconst 1, 1) := by decide +kernel
theorem dX4_goOn_100 : decode cX4_goOn 100 = .ok (.iload 6, 2) := by decide +kernel
theorem dX4_goOn_102 : decode cX4_goOn 102 = .ok (.ishl, 1) := by decide +kernel
theorem dX4_goOn_103 : decode cX4_goOn 103 = .ok (.iconst (-1), 1) := by decide +kernel
theorem dX4_goOn_104 : decode cX4_goOn 104 = .ok (.ixor, 1) := by decide +kernel
theorem dX4_goOn_105 : decode cX4_goOn 105 = .ok (.iand, 1) := by decide +kernel
theorem dX4_goOn_106 : decode cX4_goOn 106 = .ok (.istore 7, 2) := by decide +kernel
theorem dX4_goOn_108 : decode cX4_goOn 108 = .ok (.iload_n 3, 1) := by decide +kernel
theorem dX4_goOn_109 : decode cX4_goOn 109 = .ok (.aload 5, 2) := by decide +kernel
theorem dX4_goOn_111 : decode cX4_goOn 111 = .ok (.iload 6, 2) := by decide +kernel
theorem dX4_goOn_113 : decode cX4_goOn 113 = .ok (.invokevirtual 65, 3) := by decide +kernel
theorem dX4_goOn_116 : decode cX4_goOn 116 = .ok (.iadd, 1) := by decide +kernel
theorem dX4_goOn_117 : decode cX4_goOn 117 = .ok (.istore 8, 2) := by decide +kernel
theorem dX4_goOn_119 : decode cX4_goOn 119 = .ok (.iload 8, 2) := by decide +kernel
theorem dX4_goOn_121 : decode cX4_goOn 121 = .ok (.aload 5, 2) := by decide +kernel
theorem dX4_goOn_123 : decode cX4_goOn 123 = .ok (.iload 7, 2) := by decide +kernel
theorem dX4_goOn_125 : decode cX4_goOn 125 = .ok (.invokestatic 68, 3) := by decide +kernel
theorem dX4_goOn_128 : decode cX4_goOn 128 = .ok (.iadd, 1) := by decide +kernel
theorem dX4_goOn_129 : decode cX4_goOn 129 = .ok (.aload_n 0, 1) := by decide +kernel
theorem dX4_goOn_130 : decode cX4_goOn 130 = .ok (.getfield 28, 3) := by decide +kernel
theorem dX4_goOn_133 : decode cX4_goOn 133 = .ok (.if_icmp .ge 14, 3) := by decide +kernel
theorem dX4_goOn_136 : decode cX4_goOn 136 = .ok (.aload_n 0, 1) := by decide +kernel
theorem dX4_goOn_137 : decode cX4_goOn 137 = .ok (.iload_n 1, 1) := by decide +kernel
theorem dX4_goOn_138 : decode cX4_goOn 138 = .ok (.iconst 1, 1) := by decide +kernel
theorem dX4_goOn_139 : decode cX4_goOn 139 = .ok (.iadd, 1) := by decide +kernel
theorem dX4_goOn_140 : decode cX4_goOn 140 = .ok (.iload 7, 2) := by decide +kernel
theorem dX4_goOn_142 : decode cX4_goOn 142 = .ok (.iload 8, 2) := by decide +kernel
theorem dX4_goOn_144 : decode cX4_goOn 144 = .ok (.invokevirtual 48, 3) := by decide +kernel
theorem dX4_goOn_147 : decode cX4_goOn 147 = .ok (.iinc 6 1, 3) := by decide +kernel
theorem dX4_goOn_150 : decode cX4_goOn 150 = .ok (.goto (-98), 3) := by decide +kernel
theorem dX4_goOn_153 : decode cX4_goOn 153 = .ok (.return_, 1) := by decide +kernel
theorem rc_255 : Rg 255 255 255 := ⟨by decide, by decide⟩
theorem rc_1000 : Rg 1000 1000 1000 := ⟨by decide, by decide⟩
set_option maxRecDepth 100000 in
set_option maxHeartbeats 8000000 in
theorem c_X4_goOn_4 {l : Launch} {D : va_G} {cy : Nat → ClassId} {L : List Nat} {κ ln : Nat → Nat} {R : Nat → Nat → Option Nat} {I : Nat → Nat → Int32} {J : Nat → Nat → Int64} {ow : Nat → Nat × Nat} (W9 : ∀ a ∈ L, Shp L κ ln R ow a) {x : Nat} (hLx : x ∈ L) (hkx : κ x = 4) (a0 : Int32) (a1 : Int32) (a2 : Int32) (ra0 : Rg 4 4 a0) (ra1 : Rg 0 127 a1) (hU : Iv L κ R ow I) : CtV l yX4_goOn cX4_goOn 9 none { frames := 6, cells := 0, slots := 0, locals := 163 } D cy L κ ln R I J [.ref x, .int a0, .int a1, .int a2] (fun I2 J2 => Iv L κ R ow I2 ∧ Fq L κ ow [107, 108, 109, 110, 111, 112, 404, 16100, 16200, 16300, 16400, 16500, 16600, 34100, 34200] I I2 ∧ Fq L κ ow [] J J2) := by
  refine CtV.of (by decide +kernel) (Nat.le_of_ble_eq_true rfl) ?_
  intro p e s m below meth c B K
  have C := B.1
  have hF : Fq L κ ow [107, 108, 109, 110, 111, 112, 404, 16100, 16200, 16300, 16400, 16500, 16600, 34100, 34200] I I := fq_rf
  have hG : Fq L κ ow [] J J := fq_rf
  obtain ⟨b_487518, hb_487518, hb_487518L, hb_487518k, hb_487518n, hb_487518o⟩ := shp_a (W9 x hLx) hkx 0 17 8 rfl (by decide)
  obtain ⟨b_487519, hb_487519, hb_487519L, hb_487519k, hb_487519n, hb_487519o⟩ := shp_a (W9 x hLx) hkx 1 14 7 rfl (by decide)
  obtain ⟨b_487520, hb_487520, hb_487520L, hb_487520k, hb_487520n, hb_487520o⟩ := shp_a (W9 x hLx) hkx 2 14 7 rfl (by decide)
  refine g_lo (is := [0, 1, 2, 3]) (lo2 := [(0, .ref x), (1, .int a0), (2, .int a1), (3, .int a2)]) rfl ?_
  have j_10 : ∀ (I_487521 : Nat → Nat → Int32) (J_487522 : Nat → Nat → Int64) (hU_487523 : Iv L κ R ow I_487521) (hF_487524 : Fq L κ ow [107, 108, 109, 110, 111, 112, 404, 16100, 16200, 16300, 16400, 16500, 16600, 34100, 34200] I I_487521) (hG_487525 : Fq L κ ow [] J J_487522) (v_487526 : Int32) (rv_487526 : Rg 4 4 v_487526) (v_487527 : Int32) (rv_487527 : Rg 0 0 v_487527) (v_487528 : Int32), WG p l e { frames := 6, cells := 0, slots := 0, locals := 163 } s m ([.ref x, .int a0, .int a1, .int a2] : List Value).toArray below meth c 9 0 0 (MQ below (Qv_ D cy L κ ln R (fun I2 J2 => Iv L κ R ow I2 ∧ Fq L κ ow [107, 108, 109, 110, 111, 112, 404, 16100, 16200, 16300, 16400, 16500, 16600, 34100, 34200] I I2 ∧ Fq L κ ow [] J J2)) ([.ref x, .int a0, .int a1, .int a2] : List Value).toArray s 0 0 (Al_ L)) D cy (Al_ L) s.heap L κ ln R I_487521 J_487522 10 [(0, .ref x), (1, .int v_487526), (2, .int v_487527), (3, .int v_487528)] [] := by
    intro I_487521 J_487522 hU_487523 hF_487524 hG_487525 v_487526 rv_487526 v_487527 rv_487527 v_487528
    refine g_aload_n C 0 dX4_goOn_10 rfl rfl ?_
    refine g_iload_n C 3 dX4_goOn_11 rfl rfl ?_
    refine h_putI C K hLx hkx f_4_28 p_4_4 dX4_goOn_12 (fun I_487529 hI_487529 => ?_)
    have hU_487530 := iv_put W9 hU_487523 hI_487529 (ro_o hkx (by decide)) (lo := (-2147483648)) (hi := 2147483647) (rfl) ((rg_all v_487528)) rfl
    have hF_487531 := fq_puto hF_487524 hI_487529 hkx (by decide) (by decide)
    refine g_aload_n C 0 dX4_goOn_15 rfl rfl ?_
    refine g_getR C K hLx hkx f_4_17 hb_487519 dX4_goOn_16 ?_
    refine g_iconst C (v := 0) dX4_goOn_19 (by decide) ?_
    refine g_aload_n C 0 dX4_goOn_20 rfl rfl ?_
    refine g_getR C K hLx hkx f_4_21 hb_487520 dX4_goOn_21 ?_
    refine g_iconst C (v := 0) dX4_goOn_24 (by decide) ?_
    refine g_bipush C (v := 7) dX4_goOn_25 (by decide) ?_
    refine h_copyI C K hb_487520L hb_487520k hb_487519L hb_487519k ac_4_52 7 (by decide) (by decide) (by rw [hb_487519n]; decide) (by rw [hb_487520n]; decide) w_cp (Nat.le_of_ble_eq_true rfl) (Nat.le_of_ble_eq_true rfl) dX4_goOn_27 (fun I_487532 hI_487532 => ?_)
    have hU_487533 := iv_cp W9 hU_487530 (uv_cpf hU_487530.1 hI_487532 (ro_a hb_487520k (by decide) hb_487520o hkx rfl) (fun _ => rfl)) hI_487532 (ro_a hb_487520k (by decide) hb_487520o hkx rfl) rfl
    have hF_487534 := fq_cp hF_487531 hI_487532 (ro_a hb_487520k (by decide) hb_487520o hkx rfl) (by decide) (by decide)
    exact g_vret B K rfl ⟨hU_487533, hF_487534, hG_487525⟩ dX4_goOn_30
  have l_52 : ∀ (n_52 : Nat) (I_487535 : Nat → Nat → Int32) (J_487536 : Nat → Nat → Int64) (hU_487537 : Iv L κ R ow I_487535) (hF_487538 : Fq L κ ow [107, 108, 109, 110, 111, 112, 404, 16100, 16200, 16300, 16400, 16500, 16600, 34100, 34200] I I_487535) (hG_487539 : Fq L κ ow [] J J_487536) (v_487540 : Int32) (rv_487540 : Rg 4 4 v_487540) (v_487541 : Int32) (rv_487541 : Rg 1 127 v_487541) (nv_487541_0 : ¬ v_487541 = 0) (v_487542 : Int32) {b_487543 : Nat} (hb_487543L : b_487543 ∈ L) (hb_487543k : κ b_487543 = 1) {b_487544 : Nat} (hb_487544L : b_487544 ∈ L) (hb_487544k : κ b_487544 = 1) (v_487545 : Int32) (rv_487545 : Rg 0 7 v_487545) (hm_487546 : 7 < (v_487545 : Int32).toInt + (n_52 : Int)), WG p l e { frames := 6, cells := 0, slots := 0, locals := 163 } s m ([.ref x, .int a0, .int a1, .int a2] : List Value).toArray below meth c 9 0 0 (MQ below (Qv_ D cy L κ ln R (fun I2 J2 => Iv L κ R ow I2 ∧ Fq L κ ow [107, 108, 109, 110, 111, 112, 404, 16100, 16200, 16300, 16400, 16500, 16600, 34100, 34200] I I2 ∧ Fq L κ ow [] J J2)) ([.ref x, .int a0, .int a1, .int a2] : List Value).toArray s 0 0 (Al_ L)) D cy (Al_ L) s.heap L κ ln R I_487535 J_487536 52 [(0, .ref x), (1, .int v_487540), (2, .int v_487541), (3, .int v_487542), (4, .ref b_487543), (5, .ref b_487544), (6, .int v_487545)] [] := by
    intro n_52
    induction n_52 with
    | zero =>
      intro I_487535 J_487536 hU_487537 hF_487538 hG_487539 v_487540 rv_487540 v_487541 rv_487541 nv_487541_0 v_487542 b_487543 hb_487543L hb_487543k b_487544 hb_487544L hb_487544k v_487545 rv_487545 hm_487546
      exact ms_0 rv_487545 hm_487546
    | succ n_52 ih_52 =>
      intro I_487535 J_487536 hU_487537 hF_487538 hG_487539 v_487540 rv_487540 v_487541 rv_487541 nv_487541_0 v_487542 b_487543 hb_487543L hb_487543k b_487544 hb_487544L hb_487544k v_487545 rv_487545 hm_487546
      have j_147 : ∀ (I_487547 : Nat → Nat → Int32) (J_487548 : Nat → Nat → Int64) (hU_487549 : Iv L κ R ow I_487547) (hF_487550 : Fq L κ ow [107, 108, 109, 110, 111, 112, 404, 16100, 16200, 16300, 16400, 16500, 16600, 34100, 34200] I I_487547) (hG_487551 : Fq L κ ow [] J J_487548) (v_487552 : Int32) (rv_487552 : Rg 4 4 v_487552) (v_487553 : Int32) (rv_487553 : Rg 1 127 v_487553) (nv_487553_0 : ¬ v_487553 = 0) (v_487554 : Int32) {b_487555 : Nat} (hb_487555L : b_487555 ∈ L) (hb_487555k : κ b_487555 = 1) {b_487556 : Nat} (hb_487556L : b_487556 ∈ L) (hb_487556k : κ b_487556 = 1) (v_487557 : Int32) (rv_487557 : Rg 0 6 v_487557) (hm_487558 : 7 < (v_487557 : Int32).toInt + ((n_52 + 1 : Nat) : Int)), WG p l e { frames := 6, cells := 0, slots := 0, locals := 163 } s m ([.ref x, .int a0, .int a1, .int a2] : List Value).toArray below meth c 9 0 0 (MQ below (Qv_ D cy L κ ln R (fun I2 J2 => Iv L κ R ow I2 ∧ Fq L κ ow [107, 108, 109, 110, 111, 112, 404, 16100, 16200, 16300, 16400, 16500, 16600, 34100, 34200] I I2 ∧ Fq L κ ow [] J J2)) ([.ref x, .int a0, .int a1, .int a2] : List Value).toArray s 0 0 (Al_ L)) D cy (Al_ L) s.heap L κ ln R I_487547 J_487548 147 [(0, .ref x), (1, .int v_487552), (2, .int v_487553), (3, .int v_487554), (4, .ref b_487555), (5, .ref b_487556), (6, .int v_487557)] [] := by
        intro I_487547 J_487548 hU_487549 hF_487550 hG_487551 v_487552 rv_487552 v_487553 rv_487553 nv_487553_0 v_487554 b_487555 hb_487555L hb_487555k b_487556 hb_487556L hb_487556k v_487557 rv_487557 hm_487558
        obtain ⟨x_487559, hx_487559, rx_487559, tx_487559⟩ := ex_add (y := 1) 1 7 rv_487557 rc_1 (by decide) (by decide) (by decide) (by decide)
        refine g_iinc C dX4_goOn_147 (k := 6) (v := x_487559) rfl hx_487559 (by decide) (lo2 := [(6, .int x_487559), (0, .ref x), (1, .int v_487552), (2, .int v_487553), (3, .int v_487554), (4, .ref b_487555), (5, .ref b_487556)]) rfl ?_
        refine g_goto C (tgt := 52) dX4_goOn_150 (by decide) ?_
        refine g_lo (is := [1, 2, 3, 4, 5, 6, 0]) (lo2 := [(0, .ref x), (1, .int v_487552), (2, .int v_487553), (3, .int v_487554), (4, .ref b_487555), (5, .ref b_487556), (6, .int x_487559)]) rfl ?_
        exact ih_52 I_487547 J_487548 hU_487549 hF_487550 hG_487551 v_487552 (rv_487552) v_487553 (rv_487553) (nv_487553_0) v_487554 hb_487555L hb_487555k hb_487556L hb_487556k x_487559 (rg_w rx_487559 (by decide) (by decide)) (ms_1 hm_487558 (ti_k tx_487559 rc_1) (by decide))
      refine g_iload C 6 dX4_goOn_52 rfl ?_
      refine g_bipush C (v := 7) dX4_goOn_54 (by decide) ?_
      refine g_icmp_ge C (tgt := 153) dX4_goOn_56 (by decide) (fun h_487560 => ?_) (fun h_487560 => ?_)
      · skip
        have r_487561 := le_r (h_487560) rc_7 rv_487545
        exact g_vret B K rfl ⟨hU_487537, hF_487538, hG_487539⟩ dX4_goOn_153
      · skip
        have r_487562 := lt_l (hi := 6) (nle h_487560) rv_487545 rc_7 (by decide)
        refine g_iload_n C 2 dX4_goOn_59 rfl rfl ?_
        refine g_iload C 6 dX4_goOn_60 rfl ?_
        obtain ⟨x_487563, hx_487563, rx_487563⟩ := ex_shr (x := v_487541) (y := v_487545) (b := 127) (rg_w rv_487541 (by decide) (by decide))
        refine g_ishr C (v := x_487563) dX4_goOn_62 hx_487563 ?_
        refine g_iconst C (v := 1) dX4_goOn_63 (by decide) ?_
        obtain ⟨x_487564, hx_487564, rx_487564⟩ := ex_andr (x := x_487563) (y := 1) (b := 1) (rg_w rc_1 (by decide) (by decide))
        refine g_iand C (v := x_487564) dX4_goOn_64 hx_487564 ?_
        refine g_if_eq C (tgt := 147) dX4_goOn_65 (by decide) (fun h_487565 => ?_) (fun h_487565 => ?_)
        · skip
          have r_487566 := (⟨(rx_487564).1, (eq_rg (h_487565) rc_0).2⟩ : Rg 0 0 x_487564)
          refine g_lo (is := [0, 1, 2, 3, 4, 5, 6]) (lo2 := [(0, .ref x), (1, .int v_487540), (2, .int v_487541), (3, .int v_487542), (4, .ref b_487543), (5, .ref b_487544), (6, .int v_487545)]) rfl ?_
          exact j_147 I_487535 J_487536 hU_487537 hF_487538 hG_487539 v_487540 (rv_487540) v_487541 (rv_487541) (nv_487541_0) v_487542 hb_487543L hb_487543k hb_487544L hb_487544k v_487545 (r_487562) hm_487546
        · skip
          have n_487567 : ¬ x_487564 = 0 := h_487565
          have r_487568 := ne_lo (lo := 1) n_487567 rx_487564 rc_0 rfl (by decide)
          refine g_aload C 5 dX4_goOn_68 rfl ?_
          refine g_aload C 4 dX4_goOn_70 rfl ?_
          refine g_callVV C K (c_X1_become W9 hb_487544L hb_487544k hb_487543L hb_487543k  hU_487537) hb_487544L hb_487544k (by decide) rfl v_4_44 rfl ⟨rfl, rfl⟩ ⟨Nat.le_of_ble_eq_true rfl, Nat.le_of_ble_eq_true rfl⟩ (Nat.le_of_ble_eq_true rfl) ⟨Nat.le_of_ble_eq_true rfl, Nat.le_of_ble_eq_true rfl⟩ dX4_goOn_72 rfl (st := []) (fun I_487570 J_487571 h_487572 => ?_)
          obtain ⟨hUI_487570, hFI_487570, hGJ_487571⟩ := h_487572
          have hF_487573 := fq_tr hF_487538 hFI_487570 (by decide)
          have hG_487574 := fq_tr hG_487539 hGJ_487571 (by decide)
          refine g_aload C 5 dX4_goOn_75 rfl ?_
          refine g_iload C 6 dX4_goOn_77 rfl ?_
          refine g_callVV C K (c_X1_eatAll W9 hb_487544L hb_487544k v_487545 (r_487562) hUI_487570) hb_487544L hb_487544k (by decide) rfl v_4_58 rfl ⟨rfl, rfl⟩ ⟨Nat.le_of_ble_eq_true rfl, Nat.le_of_ble_eq_true rfl⟩ (Nat.le_of_ble_eq_true rfl) ⟨Nat.le_of_ble_eq_true rfl, Nat.le_of_ble_eq_true rfl⟩ dX4_goOn_79 rfl (st := []) (fun I_487576 J_487577 h_487578 => ?_)
          obtain ⟨hUI_487576, hFI_487576, hGJ_487577⟩ := h_487578
          have hF_487579 := fq_tr hF_487573 hFI_487576 (by decide)
          have hG_487580 := fq_tr hG_487574 hGJ_487577 (by decide)
          refine g_aload C 5 dX4_goOn_82 rfl ?_
          refine g_iload C 6 dX4_goOn_84 rfl ?_
          refine g_callVI C K (c_X1_tryToRise W9 hb_487544L hb_487544k v_487545 (r_487562) hUI_487576) hb_487544L hb_487544k (by decide) rfl v_4_62 rfl ⟨rfl, rfl⟩ ⟨Nat.le_of_ble_eq_true rfl, Nat.le_of_ble_eq_true rfl⟩ (Nat.le_of_ble_eq_true rfl) ⟨Nat.le_of_ble_eq_true rfl, Nat.le_of_ble_eq_true rfl⟩ dX4_goOn_86 rfl (st := []) (fun x_487581 I_487582 J_487583 h_487584 => ?_)
          obtain ⟨hUI_487582, hFI_487582, hGJ_487583, rx_487581⟩ := h_487584
          have hF_487585 := fq_tr hF_487579 hFI_487582 (by decide)
          have hG_487586 := fq_tr hG_487580 hGJ_487583 (by decide)
          refine g_pop C dX4_goOn_89 rfl ?_
          refine g_aload_n C 0 dX4_goOn_90 rfl rfl ?_
          refine g_getR C K hLx hkx f_4_17 hb_487519 dX4_goOn_91 ?_
          refine g_iload_n C 1 dX4_goOn_94 rfl rfl ?_
          refine g_iload C 6 dX4_goOn_95 rfl ?_
          refine h_iast C K hb_487519L hb_487519k (v_487540.toNatClampNeg) (rfl) (ix_0 rv_487540 (by decide)) (ix_lt rv_487540 (by decide) hb_487519n (by decide)) dX4_goOn_97 (fun I_487587 hI_487587 => ?_)
          have hU_487588 := iv_put W9 hUI_487582 hI_487587 (ro_a hb_487519k (by decide) hb_487519o hkx rfl) (lo := (-2147483648)) (hi := 2147483647) (rfl) (rg_all _) rfl
          have hF_487589 := fq_puta hF_487585 hI_487587 (ro_a hb_487519k (by decide) hb_487519o hkx rfl) (by decide) (by decide)
          refine g_iload_n C 2 dX4_goOn_98 rfl rfl ?_
          refine g_iconst C (v := 1) dX4_goOn_99 (by decide) ?_
          refine g_iload C 6 dX4_goOn_100 rfl ?_
          obtain ⟨x_487590, hx_487590, rx_487590⟩ := ex_shl (x := 1) (y := v_487545) 6 64 rfl (r_487562) (by decide)
          refine g_ishl C (v := x_487590) dX4_goOn_102 hx_487590 ?_
          refine g_iconst C (v := (-1)) dX4_goOn_103 (by decide) ?_
          obtain ⟨x_487591, hx_487591, rx_487591⟩ := ex_any (z0 := x_487590 ^^^ (-1))
          refine g_ixor C (v := x_487591) dX4_goOn_104 hx_487591 ?_
          obtain ⟨x_487592, hx_487592, rx_487592⟩ := ex_andl (x := v_487541) (y := x_487591) (b := 127) (rg_w rv_487541 (by decide) (by decide))
          refine g_iand C (v := x_487592) dX4_goOn_105 hx_487592 ?_
          refine g_istore C dX4_goOn_106 (by decide) (lo2 := [(7, .int x_487592), (0, .ref x), (1, .int v_487540), (2, .int v_487541), (3, .int v_487542), (4, .ref b_487543), (5, .ref b_487544), (6, .int v_487545)]) rfl ?_
          refine g_iload_n C 4 dX4_goOn_108 rfl rfl ?_
          refine g_aload C 6 dX4_goOn_109 rfl ?_
          refine g_iload C 7 dX4_goOn_111 rfl ?_
          refine g_callVI C K (c_X1_wantsYet W9 hb_487544L hb_487544k v_487545 (r_487562) hU_487588) hb_487544L hb_487544k (by decide) rfl v_4_65 rfl ⟨rfl, rfl⟩ ⟨Nat.le_of_ble_eq_true rfl, Nat.le_of_ble_eq_true rfl⟩ (Nat.le_of_ble_eq_true rfl) ⟨Nat.le_of_ble_eq_true rfl, Nat.le_of_ble_eq_true rfl⟩ dX4_goOn_113 rfl (st := [.int v_487542]) (fun x_487593 I_487594 J_487595 h_487596 => ?_)
          obtain ⟨rfl, rfl, rx_487593⟩ := h_487596
          obtain ⟨x_487597, hx_487597, rx_487597⟩ := ex_any (z0 := v_487542 + x_487593)
          refine g_iadd C (v := x_487597) dX4_goOn_116 hx_487597 ?_
          refine g_istore C dX4_goOn_117 (by decide) (lo2 := [(8, .int x_487597), (7, .int x_487592), (0, .ref x), (1, .int v_487540), (2, .int v_487541), (3, .int v_487542), (4, .ref b_487543), (5, .ref b_487544), (6, .int v_487545)]) rfl ?_
          refine g_iload C 0 dX4_goOn_119 rfl ?_
          refine g_aload C 7 dX4_goOn_121 rfl ?_
          refine g_iload C 1 dX4_goOn_123 rfl ?_
          refine g_callSI C K (c_X4_atLeastWanted W9 hb_487544L hb_487544k x_487592 (rx_487592) hU_487588) s_4_68 rfl ⟨rfl, rfl⟩ ⟨Nat.le_of_ble_eq_true rfl, Nat.le_of_ble_eq_true rfl⟩ (Nat.le_of_ble_eq_true rfl) ⟨Nat.le_of_ble_eq_true rfl, Nat.le_of_ble_eq_true rfl⟩ dX4_goOn_125 rfl (st := [.int x_487597]) (fun x_487598 I_487599 J_487600 h_487601 => ?_)
          obtain ⟨rfl, rfl, rx_487598⟩ := h_487601
          obtain ⟨x_487602, hx_487602, rx_487602⟩ := ex_any (z0 := x_487597 + x_487598)
          refine g_iadd C (v := x_487602) dX4_goOn_128 hx_487602 ?_
          refine g_aload_n C 2 dX4_goOn_129 rfl rfl ?_
          obtain ⟨x_487603, hx_487603, rx_487603⟩ := ex_get (I := I_487587) (a := x) (j := 4) (lo := (-2147483648)) (hi := 2147483647) hU_487588.1 hLx (ro_o hkx (by decide)) rfl
          refine g_getI C K hLx hkx f_4_28 (v := x_487603) hx_487603 dX4_goOn_130 ?_
          refine g_icmp_ge C (tgt := 147) dX4_goOn_133 (by decide) (fun h_487604 => ?_) (fun h_487604 => ?_)
          · skip
            refine g_lo (is := [2, 3, 4, 5, 6, 7, 8]) (lo2 := [(0, .ref x), (1, .int v_487540), (2, .int v_487541), (3, .int v_487542), (4, .ref b_487543), (5, .ref b_487544), (6, .int v_487545)]) rfl ?_
            exact j_147 I_487587 J_487583 hU_487588 hF_487589 hG_487586 v_487540 (rv_487540) v_487541 (rv_487541) (nv_487541_0) v_487542 hb_487543L hb_487543k hb_487544L hb_487544k v_487545 (r_487562) hm_487546
          · skip
            have r_487605 := lt_l (hi := 2147483646) (nle h_487604) rx_487602 rx_487603 (by decide)
            have r_487606 := lt_r (lo := (-2147483647)) (nle h_487604) rx_487602 rx_487603 (by decide)
            refine g_aload_n C 2 dX4_goOn_136 rfl rfl ?_
            refine g_iload_n C 3 dX4_goOn_137 rfl rfl ?_
            refine g_iconst C (v := 1) dX4_goOn_138 (by decide) ?_
            obtain ⟨x_487607, hx_487607, rx_487607, tx_487607⟩ := ex_add 5 5 rv_487540 rc_1 (by decide) (by decide) (by decide) (by decide)
            refine g_iadd C (v := x_487607) dX4_goOn_139 hx_487607 ?_
            refine g_iload C 1 dX4_goOn_140 rfl ?_
            refine g_iload C 0 dX4_goOn_142 rfl ?_
            refine g_callVV C K (c_X4_goOn_5 W9 hLx hkx x_487607 x_487592 x_487597 (rx_487607) (rx_487592) hU_487588) hLx hkx (by decide) rfl v_4_48 rfl ⟨rfl, rfl⟩ ⟨Nat.le_of_ble_eq_true rfl, Nat.le_of_ble_eq_true rfl⟩ (Nat.le_of_ble_eq_true rfl) ⟨Nat.le_of_ble_eq_true rfl, Nat.le_of_ble_eq_true rfl⟩ dX4_goOn_144 rfl (st := []) (fun I_487609 J_487610 h_487611 => ?_)
            obtain ⟨hUI_487609, hFI_487609, hGJ_487610⟩ := h_487611
            have hF_487612 := fq_tr hF_487589 hFI_487609 (by decide)
            have hG_487613 := fq_tr hG_487586 hGJ_487610 (by decide)
            refine g_lo (is := [2, 3, 4, 5, 6, 7, 8]) (lo2 := [(0, .ref x), (1, .int v_487540), (2, .int v_487541), (3, .int v_487542), (4, .ref b_487543), (5, .ref b_487544), (6, .int v_487545)]) rfl ?_
            exact j_147 I_487609 J_487610 hUI_487609 hF_487612 hG_487613 v_487540 (rv_487540) v_487541 (rv_487541) (nv_487541_0) v_487542 hb_487543L hb_487543k hb_487544L hb_487544k v_487545 (r_487562) hm_487546
  refine g_iload_n C 2 dX4_goOn_0 rfl rfl ?_
  refine g_if_eq C (tgt := 10) dX4_goOn_1 (by decide) (fun h_487614 => ?_) (fun h_487614 => ?_)
  · skip
    have r_487615 := (⟨(ra1).1, (eq_rg (h_487614) rc_0).2⟩ : Rg 0 0 a1)
    refine g_lo (is := [0, 1, 2, 3]) (lo2 := [(0, .ref x), (1, .int a0), (2, .int a1), (3, .int a2)]) rfl ?_
    exact j_10 I J hU hF hG a0 (ra0) a1 (r_487615) a2
  · skip
    have n_487616 : ¬ a1 = 0 := h_487614
    have r_487617 := ne_lo (lo := 1) n_487616 ra1 rc_0 rfl (by decide)
    refine g_iload_n C 1 dX4_goOn_4 rfl rfl ?_
    refine g_bipush C (v := 7) dX4_goOn_5 (by decide) ?_
    refine g_icmp_lt C (tgt := 31) dX4_goOn_7 (by decide) (fun h_487618 => ?_) (fun h_487618 => ?_)
    · skip
      refine g_aload_n C 0 dX4_goOn_31 rfl rfl ?_
      refine g_getR C K hLx hkx f_4_11 hb_487518 dX4_goOn_32 ?_
      refine g_iload_n C 1 dX4_goOn_35 rfl rfl ?_
      obtain ⟨b_487619, hb_487619, hb_487619L, hb_487619k⟩ := (W9 b_487518 hb_487518L).2.1 hb_487518k (a0.toNatClampNeg) (ix_lt ra0 (by decide) hb_487518n (by decide))
      refine h_aaldC C K hb_487518L hb_487518k (a0.toNatClampNeg) (rfl) (ix_0 ra0 (by decide)) (ix_lt ra0 (by decide) hb_487518n (by decide)) hb_487619 dX4_goOn_36 ?_
      refine g_astore C dX4_goOn_37 (by decide) (lo2 := [(4, .ref b_487619), (0, .ref x), (1, .int a0), (2, .int a1), (3, .int a2)]) rfl ?_
      refine g_aload_n C 1 dX4_goOn_39 rfl rfl ?_
      refine g_getR C K hLx hkx f_4_11 hb_487518 dX4_goOn_40 ?_
      refine g_iload_n C 2 dX4_goOn_43 rfl rfl ?_
      refine g_iconst C (v := 1) dX4_goOn_44 (by decide) ?_
      obtain ⟨x_487620, hx_487620, rx_487620, tx_487620⟩ := ex_add 5 5 ra0 rc_1 (by decide) (by decide) (by decide) (by decide)
      refine g_iadd C (v := x_487620) dX4_goOn_45 hx_487620 ?_
      obtain ⟨b_487621, hb_487621, hb_487621L, hb_487621k⟩ := (W9 b_487518 hb_487518L).2.1 hb_487518k (x_487620.toNatClampNeg) (ix_lt rx_487620 (by decide) hb_487518n (by decide))
      refine h_aaldC C K hb_487518L hb_487518k (x_487620.toNatClampNeg) (rfl) (ix_0 rx_487620 (by decide)) (ix_lt rx_487620 (by decide) hb_487518n (by decide)) hb_487621 dX4_goOn_46 ?_
      refine g_astore C dX4_goOn_47 (by decide) (lo2 := [(5, .ref b_487621), (4, .ref b_487619), (0, .ref x), (1, .int a0), (2, .int a1), (3, .int a2)]) rfl ?_
      refine g_iconst C (v := 0) dX4_goOn_49 (by decide) ?_
      refine g_istore C dX4_goOn_50 (by decide) (lo2 := [(6, .int 0), (5, .ref b_487621), (4, .ref b_487619), (0, .ref x), (1, .int a0), (2, .int a1), (3, .int a2)]) rfl ?_
      refine g_lo (is := [3, 4, 5, 6, 2, 1, 0]) (lo2 := [(0, .ref x), (1, .int a0), (2, .int a1), (3, .int a2), (4, .ref b_487619), (5, .ref b_487621), (6, .int 0)]) rfl ?_
      exact l_52 8 I J hU hF hG a0 (ra0) a1 (r_487617) (n_487616) a2 hb_487619L hb_487619k hb_487621L hb_487621k 0 (rg_w rc_0 (by decide) (by decide)) (ms_s (a := 0) (b := 7) (N := 8) (rg_w rc_0 (by decide) (by decide)) (by decide))
    · skip
      have r_487622 := le_r (nlt h_487618) rc_7 ra0
      exact rg_no r_487622 (by decide)
set_option maxRecDepth 100000 in
set_option maxHeartbeats 8000000 in
theorem c_X4_goOn_3 {l : Launch} {D : va_G} {cy : Nat → ClassId} {L : List Nat} {κ ln : Nat → Nat} {R : Nat → Nat → Option Nat} {I : Nat → Nat → Int32} {J : Nat → Nat → Int64} {ow : Nat → Nat × Nat} (W9 : ∀ a ∈ L, Shp L κ ln R ow a) {x : Nat} (hLx : x ∈ L) (hkx : κ x = 4) (a0 : Int32) (a1 : Int32) (a2 : Int32) (ra0 : Rg 3 3 a0) (ra1 : Rg 0 127 a1) (hU : Iv L κ R ow I) : CtV l yX4_goOn cX4_goOn 9 none { frames := 7, cells := 0, slots := 0, locals := 191 } D cy L κ ln R I J [.ref x, .int a0, .int a1, .int a2] (fun I2 J2 => Iv L κ R ow I2 ∧ Fq L κ ow [107, 108, 109, 110, 111, 112, 404, 16100, 16200, 16300, 16400, 16500, 16600, 34100, 34200] I I2 ∧ Fq L κ ow [] J J2) := by
  refine CtV.of (by decide +kernel) (Nat.le_of_ble_eq_true rfl) ?_
  intro p e s m below meth c B K
  have C := B.1
  have hF : Fq L κ ow [107, 108, 109, 110, 111, 112, 404, 16100, 16200, 16300, 16400, 16500, 16600, 34100, 34200] I I := fq_rf
  have hG : Fq L κ ow [] J J := fq_rf
  obtain ⟨b_488151, hb_488151, hb_488151L, hb_488151k, hb_488151n, hb_488151o⟩ := shp_a (W9 x hLx) hkx 0 17 8 rfl (by decide)
  obtain ⟨b_488152, hb_488152, hb_488152L, hb_488152k, hb_488152n, hb_488152o⟩ := shp_a (W9 x hLx) hkx 1 14 7 rfl (by decide)
  obtain ⟨b_488153, hb_488153, hb_488153L, hb_488153k, hb_488153n, hb_488153o⟩ := shp_a (W9 x hLx) hkx 2 14 7 rfl (by decide)
  refine g_lo (is := [0, 1, 2, 3]) (lo2 := [(0, .ref x), (1, .int a0), (2, .int a1), (3, .int a2)]) rfl ?_
  have j_10 : ∀ (I_488154 : Nat → Nat → Int32) (J_488155 : Nat → Nat → Int64) (hU_488156 : Iv L κ R ow I_488154) (hF_488157 : Fq L κ ow [107, 108, 109, 110, 111, 112, 404, 16100, 16200, 16300, 16400, 16500, 16600, 34100, 34200] I I_488154) (hG_488158 : Fq L κ ow [] J J_488155) (v_488159 : Int32) (rv_488159 : Rg 3 3 v_488159) (v_488160 : Int32) (rv_488160 : Rg 0 0 v_488160) (v_488161 : Int32), WG p l e { frames := 7, cells := 0, slots := 0, locals := 191 } s m ([.ref x, .int a0, .int a1, .int a2] : List Value).toArray below meth c 9 0 0 (MQ below (Qv_ D cy L κ ln R (fun I2 J2 => Iv L κ R ow I2 ∧ Fq L κ ow [107, 108, 109, 110, 111, 112, 404, 16100, 16200, 16300, 16400, 16500, 16600, 34100, 34200] I I2 ∧ Fq L κ ow [] J J2)) ([.ref x, .int a0, .int a1, .int a2] : List Value).toArray s 0 0 (Al_ L)) D cy (Al_ L) s.heap L κ ln R I_488154 J_488155 10 [(0, .ref x), (1, .int v_488159), (2, .int v_488160), (3, .int v_488161)] [] := by
    intro I_488154 J_488155 hU_488156 hF_488157 hG_488158 v_488159 rv_488159 v_488160 rv_488160 v_488161
    refine g_aload_n C 0 dX4_goOn_10 rfl rfl ?_
    refine g_iload_n C 3 dX4_goOn_11 rfl rfl ?_
    refine h_putI C K hLx hkx f_4_28 p_4_4 dX4_goOn_12 (fun I_488162 hI_488162 => ?_)
    have hU_488163 := iv_put W9 hU_488156 hI_488162 (ro_o hkx (by decide)) (lo := (-2147483648)) (hi := 2147483647) (rfl) ((rg_all v_488161)) rfl
    have hF_488164 := fq_puto hF_488157 hI_488162 hkx (by decide) (by decide)
    refine g_aload_n C 0 dX4_goOn_15 rfl rfl ?_
    refine g_getR C K hLx hkx f_4_17 hb_488152 dX4_goOn_16 ?_
    refine g_iconst C (v := 0) dX4_goOn_19 (by decide) ?_
    refine g_aload_n C 0 dX4_goOn_20 rfl rfl ?_
    refine g_getR C K hLx hkx f_4_21 hb_488153 dX4_goOn_21 ?_
    refine g_iconst C (v := 0) dX4_goOn_24 (by decide) ?_
    refine g_bipush C (v := 7) dX4_goOn_25 (by decide) ?_
    refine h_copyI C K hb_488153L hb_488153k hb_488152L hb_488152k ac_4_52 7 (by decide) (by decide) (by rw [hb_488152n]; decide) (by rw [hb_488153n]; decide) w_cp (Nat.le_of_ble_eq_true rfl) (Nat.le_of_ble_eq_true rfl) dX4_goOn_27 (fun I_488165 hI_488165 => ?_)
    have hU_488166 := iv_cp W9 hU_488163 (uv_cpf hU_488163.1 hI_488165 (ro_a hb_488153k (by decide) hb_488153o hkx rfl) (fun _ => rfl)) hI_488165 (ro_a hb_488153k (by decide) hb_488153o hkx rfl) rfl
    have hF_488167 := fq_cp hF_488164 hI_488165 (ro_a hb_488153k (by decide) hb_488153o hkx rfl) (by decide) (by decide)
    exact g_vret B K rfl ⟨hU_488166, hF_488167, hG_488158⟩ dX4_goOn_30
  have l_52 : ∀ (n_52 : Nat) (I_488168 : Nat → Nat → Int32) (J_488169 : Nat → Nat → Int64) (hU_488170 : Iv L κ R ow I_488168) (hF_488171 : Fq L κ ow [107, 108, 109, 110, 111, 112, 404, 16100, 16200, 16300, 16400, 16500, 16600, 34100, 34200] I I_488168) (hG_488172 : Fq L κ ow [] J J_488169) (v_488173 : Int32) (rv_488173 : Rg 3 3 v_488173) (v_488174 : Int32) (rv_488174 : Rg 1 127 v_488174) (nv_488174_0 : ¬ v_488174 = 0) (v_488175 : Int32) {b_488176 : Nat} (hb_488176L : b_488176 ∈ L) (hb_488176k : κ b_488176 = 1) {b_488177 : Nat} (hb_488177L : b_488177 ∈ L) (hb_488177k : κ b_488177 = 1) (v_488178 : Int32) (rv_488178 : Rg 0 7 v_488178) (hm_488179 : 7 < (v_488178 : Int32).toInt + (n_52 : Int)), WG p l e { frames := 7, cells := 0, slots := 0, locals := 191 } s m ([.ref x, .int a0, .int a1, .int a2] : List Value).toArray below meth c 9 0 0 (MQ below (Qv_ D cy L κ ln R (fun I2 J2 => Iv L κ R ow I2 ∧ Fq L κ ow [107, 108, 109, 110, 111, 112, 404, 16100, 16200, 16300, 16400, 16500, 16600, 34100, 34200] I I2 ∧ Fq L κ ow [] J J2)) ([.ref x, .int a0, .int a1, .int a2] : List Value).toArray s 0 0 (Al_ L)) D cy (Al_ L) s.heap L κ ln R I_488168 J_488169 52 [(0, .ref x), (1, .int v_488173), (2, .int v_488174), (3, .int v_488175), (4, .ref b_488176), (5, .ref b_488177), (6, .int v_488178)] [] := by
    intro n_52
    induction n_52 with
    | zero =>
      intro I_488168 J_488169 hU_488170 hF_488171 hG_488172 v_488173 rv_488173 v_488174 rv_488174 nv_488174_0 v_488175 b_488176 hb_488176L hb_488176k b_488177 hb_488177L hb_488177k v_488178 rv_488178 hm_488179
      exact ms_0 rv_488178 hm_488179
    | succ n_52 ih_52 =>
      intro I_488168 J_488169 hU_488170 hF_488171 hG_488172 v_488173 rv_488173 v_488174 rv_488174 nv_488174_0 v_488175 b_488176 hb_488176L hb_488176k b_488177 hb_488177L hb_488177k v_488178 rv_488178 hm_488179
      have j_147 : ∀ (I_488180 : Nat → Nat → Int32) (J_488181 : Nat → Nat → Int64) (hU_488182 : Iv L κ R ow I_488180) (hF_488183 : Fq L κ ow [107, 108, 109, 110, 111, 112, 404, 16100, 16200, 16300, 16400, 16500, 16600, 34100, 34200] I I_488180) (hG_488184 : Fq L κ ow [] J J_488181) (v_488185 : Int32) (rv_488185 : Rg 3 3 v_488185) (v_488186 : Int32) (rv_488186 : Rg 1 127 v_488186) (nv_488186_0 : ¬ v_488186 = 0) (v_488187 : Int32) {b_488188 : Nat} (hb_488188L : b_488188 ∈ L) (hb_488188k : κ b_488188 = 1) {b_488189 : Nat} (hb_488189L : b_488189 ∈ L) (hb_488189k : κ b_488189 = 1) (v_488190 : Int32) (rv_488190 : Rg 0 6 v_488190) (hm_488191 : 7 < (v_488190 : Int32).toInt + ((n_52 + 1 : Nat) : Int)), WG p l e { frames := 7, cells := 0, slots := 0, locals := 191 } s m ([.ref x, .int a0, .int a1, .int a2] : List Value).toArray below meth c 9 0 0 (MQ below (Qv_ D cy L κ ln R (fun I2 J2 => Iv L κ R ow I2 ∧ Fq L κ ow [107, 108, 109, 110, 111, 112, 404, 16100, 16200, 16300, 16400, 16500, 16600, 34100, 34200] I I2 ∧ Fq L κ ow [] J J2)) ([.ref x, .int a0, .int a1, .int a2] : List Value).toArray s 0 0 (Al_ L)) D cy (Al_ L) s.heap L κ ln R I_488180 J_488181 147 [(0, .ref x), (1, .int v_488185), (2, .int v_488186), (3, .int v_488187), (4, .ref b_488188), (5, .ref b_488189), (6, .int v_488190)] [] := by
        intro I_488180 J_488181 hU_488182 hF_488183 hG_488184 v_488185 rv_488185 v_488186 rv_488186 nv_488186_0 v_488187 b_488188 hb_488188L hb_488188k b_488189 hb_488189L hb_488189k v_488190 rv_488190 hm_488191
        obtain ⟨x_488192, hx_488192, rx_488192, tx_488192⟩ := ex_add (y := 1) 1 7 rv_488190 rc_1 (by decide) (by decide) (by decide) (by decide)
        refine g_iinc C dX4_goOn_147 (k := 6) (v := x_488192) rfl hx_488192 (by decide) (lo2 := [(6, .int x_488192), (0, .ref x), (1, .int v_488185), (2, .int v_488186), (3, .int v_488187), (4, .ref b_488188), (5, .ref b_488189)]) rfl ?_
        refine g_goto C (tgt := 52) dX4_goOn_150 (by decide) ?_
        refine g_lo (is := [1, 2, 3, 4, 5, 6, 0]) (lo2 := [(0, .ref x), (1, .int v_488185), (2, .int v_488186), (3, .int v_488187), (4, .ref b_488188), (5, .ref b_488189), (6, .int x_488192)]) rfl ?_
        exact ih_52 I_488180 J_488181 hU_488182 hF_488183 hG_488184 v_488185 (rv_488185) v_488186 (rv_488186) (nv_488186_0) v_488187 hb_488188L hb_488188k hb_488189L hb_488189k x_488192 (rg_w rx_488192 (by decide) (by decide)) (ms_1 hm_488191 (ti_k tx_488192 rc_1) (by decide))
      refine g_iload C 6 dX4_goOn_52 rfl ?_
      refine g_bipush C (v := 7) dX4_goOn_54 (by decide) ?_
      refine g_icmp_ge C (tgt := 153) dX4_goOn_56 (by decide) (fun h_488193 => ?_) (fun h_488193 => ?_)
      · skip
        have r_488194 := le_r (h_488193) rc_7 rv_488178
        exact g_vret B K rfl ⟨hU_488170, hF_488171, hG_488172⟩ dX4_goOn_153
      · skip
        have r_488195 := lt_l (hi := 6) (nle h_488193) rv_488178 rc_7 (by decide)
        refine g_iload_n C 2 dX4_goOn_59 rfl rfl ?_
        refine g_iload C 6 dX4_goOn_60 rfl ?_
        obtain ⟨x_488196, hx_488196, rx_488196⟩ := ex_shr (x := v_488174) (y := v_488178) (b := 127) (rg_w rv_488174 (by decide) (by decide))
        refine g_ishr C (v := x_488196) dX4_goOn_62 hx_488196 ?_
        refine g_iconst C (v := 1) dX4_goOn_63 (by decide) ?_
        obtain ⟨x_488197, hx_488197, rx_488197⟩ := ex_andr (x := x_488196) (y := 1) (b := 1) (rg_w rc_1 (by decide) (by decide))
        refine g_iand C (v := x_488197) dX4_goOn_64 hx_488197 ?_
        refine g_if_eq C (tgt := 147) dX4_goOn_65 (by decide) (fun h_488198 => ?_) (fun h_488198 => ?_)
        · skip
          have r_488199 := (⟨(rx_488197).1, (eq_rg (h_488198) rc_0).2⟩ : Rg 0 0 x_488197)
          refine g_lo (is := [0, 1, 2, 3, 4, 5, 6]) (lo2 := [(0, .ref x), (1, .int v_488173), (2, .int v_488174), (3, .int v_488175), (4, .ref b_488176), (5, .ref b_488177), (6, .int v_488178)]) rfl ?_
          exact j_147 I_488168 J_488169 hU_488170 hF_488171 hG_488172 v_488173 (rv_488173) v_488174 (rv_488174) (nv_488174_0) v_488175 hb_488176L hb_488176k hb_488177L hb_488177k v_488178 (r_488195) hm_488179
        · skip
          have n_488200 : ¬ x_488197 = 0 := h_488198
          have r_488201 := ne_lo (lo := 1) n_488200 rx_488197 rc_0 rfl (by decide)
          refine g_aload C 5 dX4_goOn_68 rfl ?_
          refine g_aload C 4 dX4_goOn_70 rfl ?_
          refine g_callVV C K (c_X1_become W9 hb_488177L hb_488177k hb_488176L hb_488176k  hU_488170) hb_488177L hb_488177k (by decide) rfl v_4_44 rfl ⟨rfl, rfl⟩ ⟨Nat.le_of_ble_eq_true rfl, Nat.le_of_ble_eq_true rfl⟩ (Nat.le_of_ble_eq_true rfl) ⟨Nat.le_of_ble_eq_true rfl, Nat.le_of_ble_eq_true rfl⟩ dX4_goOn_72 rfl (st := []) (fun I_488203 J_488204 h_488205 => ?_)
          obtain ⟨hUI_488203, hFI_488203, hGJ_488204⟩ := h_488205
          have hF_488206 := fq_tr hF_488171 hFI_488203 (by decide)
          have hG_488207 := fq_tr hG_488172 hGJ_488204 (by decide)
          refine g_aload C 5 dX4_goOn_75 rfl ?_
          refine g_iload C 6 dX4_goOn_77 rfl ?_
          refine g_callVV C K (c_X1_eatAll W9 hb_488177L hb_488177k v_488178 (r_488195) hUI_488203) hb_488177L hb_488177k (by decide) rfl v_4_58 rfl ⟨rfl, rfl⟩ ⟨Nat.le_of_ble_eq_true rfl, Nat.le_of_ble_eq_true rfl⟩ (Nat.le_of_ble_eq_true rfl) ⟨Nat.le_of_ble_eq_true rfl, Nat.le_of_ble_eq_true rfl⟩ dX4_goOn_79 rfl (st := []) (fun I_488209 J_488210 h_488211 => ?_)
          obtain ⟨hUI_488209, hFI_488209, hGJ_488210⟩ := h_488211
          have hF_488212 := fq_tr hF_488206 hFI_488209 (by decide)
          have hG_488213 := fq_tr hG_488207 hGJ_488210 (by decide)
          refine g_aload C 5 dX4_goOn_82 rfl ?_
          refine g_iload C 6 dX4_goOn_84 rfl ?_
          refine g_callVI C K (c_X1_tryToRise W9 hb_488177L hb_488177k v_488178 (r_488195) hUI_488209) hb_488177L hb_488177k (by decide) rfl v_4_62 rfl ⟨rfl, rfl⟩ ⟨Nat.le_of_ble_eq_true rfl, Nat.le_of_ble_eq_true rfl⟩ (Nat.le_of_ble_eq_true rfl) ⟨Nat.le_of_ble_eq_true rfl, Nat.le_of_ble_eq_true rfl⟩ dX4_goOn_86 rfl (st := []) (fun x_488214 I_488215 J_488216 h_488217 => ?_)
          obtain ⟨hUI_488215, hFI_488215, hGJ_488216, rx_488214⟩ := h_488217
          have hF_488218 := fq_tr hF_488212 hFI_488215 (by decide)
          have hG_488219 := fq_tr hG_488213 hGJ_488216 (by decide)
          refine g_pop C dX4_goOn_89 rfl ?_
          refine g_aload_n C 0 dX4_goOn_90 rfl rfl ?_
          refine g_getR C K hLx hkx f_4_17 hb_488152 dX4_goOn_91 ?_
          refine g_iload_n C 1 dX4_goOn_94 rfl rfl ?_
          refine g_iload C 6 dX4_goOn_95 rfl ?_
          refine h_iast C K hb_488152L hb_488152k (v_488173.toNatClampNeg) (rfl) (ix_0 rv_488173 (by decide)) (ix_lt rv_488173 (by decide) hb_488152n (by decide)) dX4_goOn_97 (fun I_488220 hI_488220 => ?_)
          have hU_488221 := iv_put W9 hUI_488215 hI_488220 (ro_a hb_488152k (by decide) hb_488152o hkx rfl) (lo := (-2147483648)) (hi := 2147483647) (rfl) (rg_all _) rfl
          have hF_488222 := fq_puta hF_488218 hI_488220 (ro_a hb_488152k (by decide) hb_488152o hkx rfl) (by decide) (by decide)
          refine g_iload_n C 2 dX4_goOn_98 rfl rfl ?_
          refine g_iconst C (v := 1) dX4_goOn_99 (by decide) ?_
          refine g_iload C 6 dX4_goOn_100 rfl ?_
          obtain ⟨x_488223, hx_488223, rx_488223⟩ := ex_shl (x := 1) (y := v_488178) 6 64 rfl (r_488195) (by decide)
          refine g_ishl C (v := x_488223) dX4_goOn_102 hx_488223 ?_
          refine g_iconst C (v := (-1)) dX4_goOn_103 (by decide) ?_
          obtain ⟨x_488224, hx_488224, rx_488224⟩ := ex_any (z0 := x_488223 ^^^ (-1))
          refine g_ixor C (v := x_488224) dX4_goOn_104 hx_488224 ?_
          obtain ⟨x_488225, hx_488225, rx_488225⟩ := ex_andl (x := v_488174) (y := x_488224) (b := 127) (rg_w rv_488174 (by decide) (by decide))
          refine g_iand C (v := x_488225) dX4_goOn_105 hx_488225 ?_
          refine g_istore C dX4_goOn_106 (by decide) (lo2 := [(7, .int x_488225), (0, .ref x), (1, .int v_488173), (2, .int v_488174), (3, .int v_488175), (4, .ref b_488176), (5, .ref b_488177), (6, .int v_488178)]) rfl ?_
          refine g_iload_n C 4 dX4_goOn_108 rfl rfl ?_
          refine g_aload C 6 dX4_goOn_109 rfl ?_
          refine g_iload C 7 dX4_goOn_111 rfl ?_
          refine g_callVI C K (c_X1_wantsYet W9 hb_488177L hb_488177k v_488178 (r_488195) hU_488221) hb_488177L hb_488177k (by decide) rfl v_4_65 rfl ⟨rfl, rfl⟩ ⟨Nat.le_of_ble_eq_true rfl, Nat.le_of_ble_eq_true rfl⟩ (Nat.le_of_ble_eq_true rfl) ⟨Nat.le_of_ble_eq_true rfl, Nat.le_of_ble_eq_true rfl⟩ dX4_goOn_113 rfl (st := [.int v_488175]) (fun x_488226 I_488227 J_488228 h_488229 => ?_)
          obtain ⟨rfl, rfl, rx_488226⟩ := h_488229
          obtain ⟨x_488230, hx_488230, rx_488230⟩ := ex_any (z0 := v_488175 + x_488226)
          refine g_iadd C (v := x_488230) dX4_goOn_116 hx_488230 ?_
          refine g_istore C dX4_goOn_117 (by decide) (lo2 := [(8, .int x_488230), (7, .int x_488225), (0, .ref x), (1, .int v_488173), (2, .int v_488174), (3, .int v_488175), (4, .ref b_488176), (5, .ref b_488177), (6, .int v_488178)]) rfl ?_
          refine g_iload C 0 dX4_goOn_119 rfl ?_
          refine g_aload C 7 dX4_goOn_121 rfl ?_
          refine g_iload C 1 dX4_goOn_123 rfl ?_
          refine g_callSI C K (c_X4_atLeastWanted W9 hb_488177L hb_488177k x_488225 (rx_488225) hU_488221) s_4_68 rfl ⟨rfl, rfl⟩ ⟨Nat.le_of_ble_eq_true rfl, Nat.le_of_ble_eq_true rfl⟩ (Nat.le_of_ble_eq_true rfl) ⟨Nat.le_of_ble_eq_true rfl, Nat.le_of_ble_eq_true rfl⟩ dX4_goOn_125 rfl (st := [.int x_488230]) (fun x_488231 I_488232 J_488233 h_488234 => ?_)
          obtain ⟨rfl, rfl, rx_488231⟩ := h_488234
          obtain ⟨x_488235, hx_488235, rx_488235⟩ := ex_any (z0 := x_488230 + x_488231)
          refine g_iadd C (v := x_488235) dX4_goOn_128 hx_488235 ?_
          refine g_aload_n C 2 dX4_goOn_129 rfl rfl ?_
          obtain ⟨x_488236, hx_488236, rx_488236⟩ := ex_get (I := I_488220) (a := x) (j := 4) (lo := (-2147483648)) (hi := 2147483647) hU_488221.1 hLx (ro_o hkx (by decide)) rfl
          refine g_getI C K hLx hkx f_4_28 (v := x_488236) hx_488236 dX4_goOn_130 ?_
          refine g_icmp_ge C (tgt := 147) dX4_goOn_133 (by decide) (fun h_488237 => ?_) (fun h_488237 => ?_)
          · skip
            refine g_lo (is := [2, 3, 4, 5, 6, 7, 8]) (lo2 := [(0, .ref x), (1, .int v_488173), (2, .int v_488174), (3, .int v_488175), (4, .ref b_488176), (5, .ref b_488177), (6, .int v_488178)]) rfl ?_
            exact j_147 I_488220 J_488216 hU_488221 hF_488222 hG_488219 v_488173 (rv_488173) v_488174 (rv_488174) (nv_488174_0) v_488175 hb_488176L hb_488176k hb_488177L hb_488177k v_488178 (r_488195) hm_488179
          · skip
            have r_488238 := lt_l (hi := 2147483646) (nle h_488237) rx_488235 rx_488236 (by decide)
            have r_488239 := lt_r (lo := (-2147483647)) (nle h_488237) rx_488235 rx_488236 (by decide)
            refine g_aload_n C 2 dX4_goOn_136 rfl rfl ?_
            refine g_iload_n C 3 dX4_goOn_137 rfl rfl ?_
            refine g_iconst C (v := 1) dX4_goOn_138 (by decide) ?_
            obtain ⟨x_488240, hx_488240, rx_488240, tx_488240⟩ := ex_add 4 4 rv_488173 rc_1 (by decide) (by decide) (by decide) (by decide)
            refine g_iadd C (v := x_488240) dX4_goOn_139 hx_488240 ?_
            refine g_iload C 1 dX4_goOn_140 rfl ?_
            refine g_iload C 0 dX4_goOn_142 rfl ?_
            refine g_callVV C K (c_X4_goOn_4 W9 hLx hkx x_488240 x_488225 x_488230 (rx_488240) (rx_488225) hU_488221) hLx hkx (by decide) rfl v_4_48 rfl ⟨rfl, rfl⟩ ⟨Nat.le_of_ble_eq_true rfl, Nat.le_of_ble_eq_true rfl⟩ (Nat.le_of_ble_eq_true rfl) ⟨Nat.le_of_ble_eq_true rfl, Nat.le_of_ble_eq_true rfl⟩ dX4_goOn_144 rfl (st := []) (fun I_488242 J_488243 h_488244 => ?_)
            obtain ⟨hUI_488242, hFI_488242, hGJ_488243⟩ := h_488244
            have hF_488245 := fq_tr hF_488222 hFI_488242 (by decide)
            have hG_488246 := fq_tr hG_488219 hGJ_488243 (by decide)
            refine g_lo (is := [2, 3, 4, 5, 6, 7, 8]) (lo2 := [(0, .ref x), (1, .int v_488173), (2, .int v_488174), (3, .int v_488175), (4, .ref b_488176), (5, .ref b_488177), (6, .int v_488178)]) rfl ?_
            exact j_147 I_488242 J_488243 hUI_488242 hF_488245 hG_488246 v_488173 (rv_488173) v_488174 (rv_488174) (nv_488174_0) v_488175 hb_488176L hb_488176k hb_488177L hb_488177k v_488178 (r_488195) hm_488179
  refine g_iload_n C 2 dX4_goOn_0 rfl rfl ?_
  refine g_if_eq C (tgt := 10) dX4_goOn_1 (by decide) (fun h_488247 => ?_) (fun h_488247 => ?_)
  · skip
    have r_488248 := (⟨(ra1).1, (eq_rg (h_488247) rc_0).2⟩ : Rg 0 0 a1)
    refine g_lo (is := [0, 1, 2, 3]) (lo2 := [(0, .ref x), (1, .int a0), (2, .int a1), (3, .int a2)]) rfl ?_
    exact j_10 I J hU hF hG a0 (ra0) a1 (r_488248) a2
  · skip
    have n_488249 : ¬ a1 = 0 := h_488247
    have r_488250 := ne_lo (lo := 1) n_488249 ra1 rc_0 rfl (by decide)
    refine g_iload_n C 1 dX4_goOn_4 rfl rfl ?_
    refine g_bipush C (v := 7) dX4_goOn_5 (by decide) ?_
    refine g_icmp_lt C (tgt := 31) dX4_goOn_7 (by decide) (fun h_488251 => ?_) (fun h_488251 => ?_)
    · skip
      refine g_aload_n C 0 dX4_goOn_31 rfl rfl ?_
      refine g_getR C K hLx hkx f_4_11 hb_488151 dX4_goOn_32 ?_
      refine g_iload_n C 1 dX4_goOn_35 rfl rfl ?_
      obtain ⟨b_488252, hb_488252, hb_488252L, hb_488252k⟩ := (W9 b_488151 hb_488151L).2.1 hb_488151k (a0.toNatClampNeg) (ix_lt ra0 (by decide) hb_488151n (by decide))
      refine h_aaldC C K hb_488151L hb_488151k (a0.toNatClampNeg) (rfl) (ix_0 ra0 (by decide)) (ix_lt ra0 (by decide) hb_488151n (by decide)) hb_488252 dX4_goOn_36 ?_
      refine g_astore C dX4_goOn_37 (by decide) (lo2 := [(4, .ref b_488252), (0, .ref x), (1, .int a0), (2, .int a1), (3, .int a2)]) rfl ?_
      refine g_aload_n C 1 dX4_goOn_39 rfl rfl ?_
      refine g_getR C K hLx hkx f_4_11 hb_488151 dX4_goOn_40 ?_
      refine g_iload_n C 2 dX4_goOn_43 rfl rfl ?_
      refine g_iconst C (v := 1) dX4_goOn_44 (by decide) ?_
      obtain ⟨x_488253, hx_488253, rx_488253, tx_488253⟩ := ex_add 4 4 ra0 rc_1 (by decide) (by decide) (by decide) (by decide)
      refine g_iadd C (v := x_488253) dX4_goOn_45 hx_488253 ?_
      obtain ⟨b_488254, hb_488254, hb_488254L, hb_488254k⟩ := (W9 b_488151 hb_488151L).2.1 hb_488151k (x_488253.toNatClampNeg) (ix_lt rx_488253 (by decide) hb_488151n (by decide))
      refine h_aaldC C K hb_488151L hb_488151k (x_488253.toNatClampNeg) (rfl) (ix_0 rx_488253 (by decide)) (ix_lt rx_488253 (by decide) hb_488151n (by decide)) hb_488254 dX4_goOn_46 ?_
      refine g_astore C dX4_goOn_47 (by decide) (lo2 := [(5, .ref b_488254), (4, .ref b_488252), (0, .ref x), (1, .int a0), (2, .int a1), (3, .int a2)]) rfl ?_
      refine g_iconst C (v := 0) dX4_goOn_49 (by decide) ?_
      refine g_istore C dX4_goOn_50 (by decide) (lo2 := [(6, .int 0), (5, .ref b_488254), (4, .ref b_488252), (0, .ref x), (1, .int a0), (2, .int a1), (3, .int a2)]) rfl ?_
      refine g_lo (is := [3, 4, 5, 6, 2, 1, 0]) (lo2 := [(0, .ref x), (1, .int a0), (2, .int a1), (3, .int a2), (4, .ref b_488252), (5, .ref b_488254), (6, .int 0)]) rfl ?_
      exact l_52 8 I J hU hF hG a0 (ra0) a1 (r_488250) (n_488249) a2 hb_488252L hb_488252k hb_488254L hb_488254k 0 (rg_w rc_0 (by decide) (by decide)) (ms_s (a := 0) (b := 7) (N := 8) (rg_w rc_0 (by decide) (by decide)) (by decide))
    · skip
      have r_488255 := le_r (nlt h_488251) rc_7 ra0
      exact rg_no r_488255 (by decide)
set_option maxRecDepth 100000 in
set_option maxHeartbeats 8000000 in
theorem c_X4_goOn_2 {l : Launch} {D : va_G} {cy : Nat → ClassId} {L : List Nat} {κ ln : Nat → Nat} {R : Nat → Nat → Option Nat} {I : Nat → Nat → Int32} {J : Nat → Nat → Int64} {ow : Nat → Nat × Nat} (W9 : ∀ a ∈ L, Shp L κ ln R ow a) {x : Nat} (hLx : x ∈ L) (hkx : κ x = 4) (a0 : Int32) (a1 : Int32) (a2 : Int32) (ra0 : Rg 2 2 a0) (ra1 : Rg 0 127 a1) (hU : Iv L κ R ow I) : CtV l yX4_goOn cX4_goOn 9 none { frames := 8, cells := 0, slots := 0, locals := 219 } D cy L κ ln R I J [.ref x, .int a0, .int a1, .int a2] (fun I2 J2 => Iv L κ R ow I2 ∧ Fq L κ ow [107, 108, 109, 110, 111, 112, 404, 16100, 16200, 16300, 16400, 16500, 16600, 34100, 34200] I I2 ∧ Fq L κ ow [] J J2) := by
  refine CtV.of (by decide +kernel) (Nat.le_of_ble_eq_true rfl) ?_
  intro p e s m below meth c B K
  have C := B.1
  have hF : Fq L κ ow [107, 108, 109, 110, 111, 112, 404, 16100, 16200, 16300, 16400, 16500, 16600, 34100, 34200] I I := fq_rf
  have hG : Fq L κ ow [] J J := fq_rf
  obtain ⟨b_488784, hb_488784, hb_488784L, hb_488784k, hb_488784n, hb_488784o⟩ := shp_a (W9 x hLx) hkx 0 17 8 rfl (by decide)
  obtain ⟨b_488785, hb_488785, hb_488785L, hb_488785k, hb_488785n, hb_488785o⟩ := shp_a (W9 x hLx) hkx 1 14 7 rfl (by decide)
  obtain ⟨b_488786, hb_488786, hb_488786L, hb_488786k, hb_488786n, hb_488786o⟩ := shp_a (W9 x hLx) hkx 2 14 7 rfl (by decide)
  refine g_lo (is := [0, 1, 2, 3]) (lo2 := [(0, .ref x), (1, .int a0), (2, .int a1), (3, .int a2)]) rfl ?_
  have j_10 : ∀ (I_488787 : Nat → Nat → Int32) (J_488788 : Nat → Nat → Int64) (hU_488789 : Iv L κ R ow I_488787) (hF_488790 : Fq L κ ow [107, 108, 109, 110, 111, 112, 404, 16100, 16200, 16300, 16400, 16500, 16600, 34100, 34200] I I_488787) (hG_488791 : Fq L κ ow [] J J_488788) (v_488792 : Int32) (rv_488792 : Rg 2 2 v_488792) (v_488793 : Int32) (rv_488793 : Rg 0 0 v_488793) (v_488794 : Int32), WG p l e { frames := 8, cells := 0, slots := 0, locals := 219 } s m ([.ref x, .int a0, .int a1, .int a2] : List Value).toArray below meth c 9 0 0 (MQ below (Qv_ D cy L κ ln R (fun I2 J2 => Iv L κ R ow I2 ∧ Fq L κ ow [107, 108, 109, 110, 111, 112, 404, 16100, 16200, 16300, 16400, 16500, 16600, 34100, 34200] I I2 ∧ Fq L κ ow [] J J2)) ([.ref x, .int a0, .int a1, .int a2] : List Value).toArray s 0 0 (Al_ L)) D cy (Al_ L) s.heap L κ ln R I_488787 J_488788 10 [(0, .ref x), (1, .int v_488792), (2, .int v_488793), (3, .int v_488794)] [] := by
    intro I_488787 J_488788 hU_488789 hF_488790 hG_488791 v_488792 rv_488792 v_488793 rv_488793 v_488794
    refine g_aload_n C 0 dX4_goOn_10 rfl rfl ?_
    refine g_iload_n C 3 dX4_goOn_11 rfl rfl ?_
    refine h_putI C K hLx hkx f_4_28 p_4_4 dX4_goOn_12 (fun I_488795 hI_488795 => ?_)
    have hU_488796 := iv_put W9 hU_488789 hI_488795 (ro_o hkx (by decide)) (lo := (-2147483648)) (hi := 2147483647) (rfl) ((rg_all v_488794)) rfl
    have hF_488797 := fq_puto hF_488790 hI_488795 hkx (by decide) (by decide)
    refine g_aload_n C 0 dX4_goOn_15 rfl rfl ?_
    refine g_getR C K hLx hkx f_4_17 hb_488785 dX4_goOn_16 ?_
    refine g_iconst C (v := 0) dX4_goOn_19 (by decide) ?_
    refine g_aload_n C 0 dX4_goOn_20 rfl rfl ?_
    refine g_getR C K hLx hkx f_4_21 hb_488786 dX4_goOn_21 ?_
    refine g_iconst C (v := 0) dX4_goOn_24 (by decide) ?_
    refine g_bipush C (v := 7) dX4_goOn_25 (by decide) ?_
    refine h_copyI C K hb_488786L hb_488786k hb_488785L hb_488785k ac_4_52 7 (by decide) (by decide) (by rw [hb_488785n]; decide) (by rw [hb_488786n]; decide) w_cp (Nat.le_of_ble_eq_true rfl) (Nat.le_of_ble_eq_true rfl) dX4_goOn_27 (fun I_488798 hI_488798 => ?_)
    have hU_488799 := iv_cp W9 hU_488796 (uv_cpf hU_488796.1 hI_488798 (ro_a hb_488786k (by decide) hb_488786o hkx rfl) (fun _ => rfl)) hI_488798 (ro_a hb_488786k (by decide) hb_488786o hkx rfl) rfl
    have hF_488800 := fq_cp hF_488797 hI_488798 (ro_a hb_488786k (by decide) hb_488786o hkx rfl) (by decide) (by decide)
    exact g_vret B K rfl ⟨hU_488799, hF_488800, hG_488791⟩ dX4_goOn_30
  have l_52 : ∀ (n_52 : Nat) (I_488801 : Nat → Nat → Int32) (J_488802 : Nat → Nat → Int64) (hU_488803 : Iv L κ R ow I_488801) (hF_488804 : Fq L κ ow [107, 108, 109, 110, 111, 112, 404, 16100, 16200, 16300, 16400, 16500, 16600, 34100, 34200] I I_488801) (hG_488805 : Fq L κ ow [] J J_488802) (v_488806 : Int32) (rv_488806 : Rg 2 2 v_488806) (v_488807 : Int32) (rv_488807 : Rg 1 127 v_488807) (nv_488807_0 : ¬ v_488807 = 0) (v_488808 : Int32) {b_488809 : Nat} (hb_488809L : b_488809 ∈ L) (hb_488809k : κ b_488809 = 1) {b_488810 : Nat} (hb_488810L : b_488810 ∈ L) (hb_488810k : κ b_488810 = 1) (v_488811 : Int32) (rv_488811 : Rg 0 7 v_488811) (hm_488812 : 7 < (v_488811 : Int32).toInt + (n_52 : Int)), WG p l e { frames := 8, cells := 0, slots := 0, locals := 219 } s m ([.ref x, .int a0, .int a1, .int a2] : List Value).toArray below meth c 9 0 0 (MQ below (Qv_ D cy L κ ln R (fun I2 J2 => Iv L κ R ow I2 ∧ Fq L κ ow [107, 108, 109, 110, 111, 112, 404, 16100, 16200, 16300, 16400, 16500, 16600, 34100, 34200] I I2 ∧ Fq L κ ow [] J J2)) ([.ref x, .int a0, .int a1, .int a2] : List Value).toArray s 0 0 (Al_ L)) D cy (Al_ L) s.heap L κ ln R I_488801 J_488802 52 [(0, .ref x), (1, .int v_488806), (2, .int v_488807), (3, .int v_488808), (4, .ref b_488809), (5, .ref b_488810), (6, .int v_488811)] [] := by
    intro n_52
    induction n_52 with
    | zero =>
      intro I_488801 J_488802 hU_488803 hF_488804 hG_488805 v_488806 rv_488806 v_488807 rv_488807 nv_488807_0 v_488808 b_488809 hb_488809L hb_488809k b_488810 hb_488810L hb_488810k v_488811 rv_488811 hm_488812
      exact ms_0 rv_488811 hm_488812
    | succ n_52 ih_52 =>
      intro I_488801 J_488802 hU_488803 hF_488804 hG_488805 v_488806 rv_488806 v_488807 rv_488807 nv_488807_0 v_488808 b_488809 hb_488809L hb_488809k b_488810 hb_488810L hb_488810k v_488811 rv_488811 hm_488812
      have j_147 : ∀ (I_488813 : Nat → Nat → Int32) (J_488814 : Nat → Nat → Int64) (hU_488815 : Iv L κ R ow I_488813) (hF_488816 : Fq L κ ow [107, 108, 109, 110, 111, 112, 404, 16100, 16200, 16300, 16400, 16500, 16600, 34100, 34200] I I_488813) (hG_488817 : Fq L κ ow [] J J_488814) (v_488818 : Int32) (rv_488818 : Rg 2 2 v_488818) (v_488819 : Int32) (rv_488819 : Rg 1 127 v_488819) (nv_488819_0 : ¬ v_488819 = 0) (v_488820 : Int32) {b_488821 : Nat} (hb_488821L : b_488821 ∈ L) (hb_488821k : κ b_488821 = 1) {b_488822 : Nat} (hb_488822L : b_488822 ∈ L) (hb_488822k : κ b_488822 = 1) (v_488823 : Int32) (rv_488823 : Rg 0 6 v_488823) (hm_488824 : 7 < (v_488823 : Int32).toInt + ((n_52 + 1 : Nat) : Int)), WG p l e { frames := 8, cells := 0, slots := 0, locals := 219 } s m ([.ref x, .int a0, .int a1, .int a2] : List Value).toArray below meth c 9 0 0 (MQ below (Qv_ D cy L κ ln R (fun I2 J2 => Iv L κ R ow I2 ∧ Fq L κ ow [107, 108, 109, 110, 111, 112, 404, 16100, 16200, 16300, 16400, 16500, 16600, 34100, 34200] I I2 ∧ Fq L κ ow [] J J2)) ([.ref x, .int a0, .int a1, .int a2] : List Value).toArray s 0 0 (Al_ L)) D cy (Al_ L) s.heap L κ ln R I_488813 J_488814 147 [(0, .ref x), (1, .int v_488818), (2, .int v_488819), (3, .int v_488820), (4, .ref b_488821), (5, .ref b_488822), (6, .int v_488823)] [] := by
        intro I_488813 J_488814 hU_488815 hF_488816 hG_488817 v_488818 rv_488818 v_488819 rv_488819 nv_488819_0 v_488820 b_488821 hb_488821L hb_488821k b_488822 hb_488822L hb_488822k v_488823 rv_488823 hm_488824
        obtain ⟨x_488825, hx_488825, rx_488825, tx_488825⟩ := ex_add (y := 1) 1 7 rv_488823 rc_1 (by decide) (by decide) (by decide) (by decide)
        refine g_iinc C dX4_goOn_147 (k := 6) (v := x_488825) rfl hx_488825 (by decide) (lo2 := [(6, .int x_488825), (0, .ref x), (1, .int v_488818), (2, .int v_488819), (3, .int v_488820), (4, .ref b_488821), (5, .ref b_488822)]) rfl ?_
        refine g_goto C (tgt := 52) dX4_goOn_150 (by decide) ?_
        refine g_lo (is := [1, 2, 3, 4, 5, 6, 0]) (lo2 := [(0, .ref x), (1, .int v_488818), (2, .int v_488819), (3, .int v_488820), (4, .ref b_488821), (5, .ref b_488822), (6, .int x_488825)]) rfl ?_
        exact ih_52 I_488813 J_488814 hU_488815 hF_488816 hG_488817 v_488818 (rv_488818) v_488819 (rv_488819) (nv_488819_0) v_488820 hb_488821L hb_488821k hb_488822L hb_488822k x_488825 (rg_w rx_488825 (by decide) (by decide)) (ms_1 hm_488824 (ti_k tx_488825 rc_1) (by decide))
      refine g_iload C 6 dX4_goOn_52 rfl ?_
      refine g_bipush C (v := 7) dX4_goOn_54 (by decide) ?_
      refine g_icmp_ge C (tgt := 153) dX4_goOn_56 (by decide) (fun h_488826 => ?_) (fun h_488826 => ?_)
      · skip
        have r_488827 := le_r (h_488826) rc_7 rv_488811
        exact g_vret B K rfl ⟨hU_488803, hF_488804, hG_488805⟩ dX4_goOn_153
      · skip
        have r_488828 := lt_l (hi := 6) (nle h_488826) rv_488811 rc_7 (by decide)
        refine g_iload_n C 2 dX4_goOn_59 rfl rfl ?_
        refine g_iload C 6 dX4_goOn_60 rfl ?_
        obtain ⟨x_488829, hx_488829, rx_488829⟩ := ex_shr (x := v_488807) (y := v_488811) (b := 127) (rg_w rv_488807 (by decide) (by decide))
        refine g_ishr C (v := x_488829) dX4_goOn_62 hx_488829 ?_
        refine g_iconst C (v := 1) dX4_goOn_63 (by decide) ?_
        obtain ⟨x_488830, hx_488830, rx_488830⟩ := ex_andr (x := x_488829) (y := 1) (b := 1) (rg_w rc_1 (by decide) (by decide))
        refine g_iand C (v := x_488830) dX4_goOn_64 hx_488830 ?_
        refine g_if_eq C (tgt := 147) dX4_goOn_65 (by decide) (fun h_488831 => ?_) (fun h_488831 => ?_)
        · skip
          have r_488832 := (⟨(rx_488830).1, (eq_rg (h_488831) rc_0).2⟩ : Rg 0 0 x_488830)
          refine g_lo (is := [0, 1, 2, 3, 4, 5, 6]) (lo2 := [(0, .ref x), (1, .int v_488806), (2, .int v_488807), (3, .int v_488808), (4, .ref b_488809), (5, .ref b_488810), (6, .int v_488811)]) rfl ?_
          exact j_147 I_488801 J_488802 hU_488803 hF_488804 hG_488805 v_488806 (rv_488806) v_488807 (rv_488807) (nv_488807_0) v_488808 hb_488809L hb_488809k hb_488810L hb_488810k v_488811 (r_488828) hm_488812
        · skip
          have n_488833 : ¬ x_488830 = 0 := h_488831
          have r_488834 := ne_lo (lo := 1) n_488833 rx_488830 rc_0 rfl (by decide)
          refine g_aload C 5 dX4_goOn_68 rfl ?_
          refine g_aload C 4 dX4_goOn_70 rfl ?_
          refine g_callVV C K (c_X1_become W9 hb_488810L hb_488810k hb_488809L hb_488809k  hU_488803) hb_488810L hb_488810k (by decide) rfl v_4_44 rfl ⟨rfl, rfl⟩ ⟨Nat.le_of_ble_eq_true rfl, Nat.le_of_ble_eq_true rfl⟩ (Nat.le_of_ble_eq_true rfl) ⟨Nat.le_of_ble_eq_true rfl, Nat.le_of_ble_eq_true rfl⟩ dX4_goOn_72 rfl (st := []) (fun I_488836 J_488837 h_488838 => ?_)
          obtain ⟨hUI_488836, hFI_488836, hGJ_488837⟩ := h_488838
          have hF_488839 := fq_tr hF_488804 hFI_488836 (by decide)
          have hG_488840 := fq_tr hG_488805 hGJ_488837 (by decide)
          refine g_aload C 5 dX4_goOn_75 rfl ?_
          refine g_iload C 6 dX4_goOn_77 rfl ?_
          refine g_callVV C K (c_X1_eatAll W9 hb_488810L hb_488810k v_488811 (r_488828) hUI_488836) hb_488810L hb_488810k (by decide) rfl v_4_58 rfl ⟨rfl, rfl⟩ ⟨Nat.le_of_ble_eq_true rfl, Nat.le_of_ble_eq_true rfl⟩ (Nat.le_of_ble_eq_true rfl) ⟨Nat.le_of_ble_eq_true rfl, Nat.le_of_ble_eq_true rfl⟩ dX4_goOn_79 rfl (st := []) (fun I_488842 J_488843 h_488844 => ?_)
          obtain ⟨hUI_488842, hFI_488842, hGJ_488843⟩ := h_488844
          have hF_488845 := fq_tr hF_488839 hFI_488842 (by decide)
          have hG_488846 := fq_tr hG_488840 hGJ_488843 (by decide)
          refine g_aload C 5 dX4_goOn_82 rfl ?_
          refine g_iload C 6 dX4_goOn_84 rfl ?_
          refine g_callVI C K (c_X1_tryToRise W9 hb_488810L hb_488810k v_488811 (r_488828) hUI_488842) hb_488810L hb_488810k (by decide) rfl v_4_62 rfl ⟨rfl, rfl⟩ ⟨Nat.le_of_ble_eq_true rfl, Nat.le_of_ble_eq_true rfl⟩ (Nat.le_of_ble_eq_true rfl) ⟨Nat.le_of_ble_eq_true rfl, Nat.le_of_ble_eq_true rfl⟩ dX4_goOn_86 rfl (st := []) (fun x_488847 I_488848 J_488849 h_488850 => ?_)
          obtain ⟨hUI_488848, hFI_488848, hGJ_488849, rx_488847⟩ := h_488850
          have hF_488851 := fq_tr hF_488845 hFI_488848 (by decide)
          have hG_488852 := fq_tr hG_488846 hGJ_488849 (by decide)
          refine g_pop C dX4_goOn_89 rfl ?_
          refine g_aload_n C 0 dX4_goOn_90 rfl rfl ?_
          refine g_getR C K hLx hkx f_4_17 hb_488785 dX4_goOn_91 ?_
          refine g_iload_n C 1 dX4_goOn_94 rfl rfl ?_
          refine g_iload C 6 dX4_goOn_95 rfl ?_
          refine h_iast C K hb_488785L hb_488785k (v_488806.toNatClampNeg) (rfl) (ix_0 rv_488806 (by decide)) (ix_lt rv_488806 (by decide) hb_488785n (by decide)) dX4_goOn_97 (fun I_488853 hI_488853 => ?_)
          have hU_488854 := iv_put W9 hUI_488848 hI_488853 (ro_a hb_488785k (by decide) hb_488785o hkx rfl) (lo := (-2147483648)) (hi := 2147483647) (rfl) (rg_all _) rfl
          have hF_488855 := fq_puta hF_488851 hI_488853 (ro_a hb_488785k (by decide) hb_488785o hkx rfl) (by decide) (by decide)
          refine g_iload_n C 2 dX4_goOn_98 rfl rfl ?_
          refine g_iconst C (v := 1) dX4_goOn_99 (by decide) ?_
          refine g_iload C 6 dX4_goOn_100 rfl ?_
          obtain ⟨x_488856, hx_488856, rx_488856⟩ := ex_shl (x := 1) (y := v_488811) 6 64 rfl (r_488828) (by decide)
          refine g_ishl C (v := x_488856) dX4_goOn_102 hx_488856 ?_
          refine g_iconst C (v := (-1)) dX4_goOn_103 (by decide) ?_
          obtain ⟨x_488857, hx_488857, rx_488857⟩ := ex_any (z0 := x_488856 ^^^ (-1))
          refine g_ixor C (v := x_488857) dX4_goOn_104 hx_488857 ?_
          obtain ⟨x_488858, hx_488858, rx_488858⟩ := ex_andl (x := v_488807) (y := x_488857) (b := 127) (rg_w rv_488807 (by decide) (by decide))
          refine g_iand C (v := x_488858) dX4_goOn_105 hx_488858 ?_
          refine g_istore C dX4_goOn_106 (by decide) (lo2 := [(7, .int x_488858), (0, .ref x), (1, .int v_488806), (2, .int v_488807), (3, .int v_488808), (4, .ref b_488809), (5, .ref b_488810), (6, .int v_488811)]) rfl ?_
          refine g_iload_n C 4 dX4_goOn_108 rfl rfl ?_
          refine g_aload C 6 dX4_goOn_109 rfl ?_
          refine g_iload C 7 dX4_goOn_111 rfl ?_
          refine g_callVI C K (c_X1_wantsYet W9 hb_488810L hb_488810k v_488811 (r_488828) hU_488854) hb_488810L hb_488810k (by decide) rfl v_4_65 rfl ⟨rfl, rfl⟩ ⟨Nat.le_of_ble_eq_true rfl, Nat.le_of_ble_eq_true rfl⟩ (Nat.le_of_ble_eq_true rfl) ⟨Nat.le_of_ble_eq_true rfl, Nat.le_of_ble_eq_true rfl⟩ dX4_goOn_113 rfl (st := [.int v_488808]) (fun x_488859 I_488860 J_488861 h_488862 => ?_)
          obtain ⟨rfl, rfl, rx_488859⟩ := h_488862
          obtain ⟨x_488863, hx_488863, rx_488863⟩ := ex_any (z0 := v_488808 + x_488859)
          refine g_iadd C (v := x_488863) dX4_goOn_116 hx_488863 ?_
          refine g_istore C dX4_goOn_117 (by decide) (lo2 := [(8, .int x_488863), (7, .int x_488858), (0, .ref x), (1, .int v_488806), (2, .int v_488807), (3, .int v_488808), (4, .ref b_488809), (5, .ref b_488810), (6, .int v_488811)]) rfl ?_
          refine g_iload C 0 dX4_goOn_119 rfl ?_
          refine g_aload C 7 dX4_goOn_121 rfl ?_
          refine g_iload C 1 dX4_goOn_123 rfl ?_
          refine g_callSI C K (c_X4_atLeastWanted W9 hb_488810L hb_488810k x_488858 (rx_488858) hU_488854) s_4_68 rfl ⟨rfl, rfl⟩ ⟨Nat.le_of_ble_eq_true rfl, Nat.le_of_ble_eq_true rfl⟩ (Nat.le_of_ble_eq_true rfl) ⟨Nat.le_of_ble_eq_true rfl, Nat.le_of_ble_eq_true rfl⟩ dX4_goOn_125 rfl (st := [.int x_488863]) (fun x_488864 I_488865 J_488866 h_488867 => ?_)
          obtain ⟨rfl, rfl, rx_488864⟩ := h_488867
          obtain ⟨x_488868, hx_488868, rx_488868⟩ := ex_any (z0 := x_488863 + x_488864)
          refine g_iadd C (v := x_488868) dX4_goOn_128 hx_488868 ?_
          refine g_aload_n C 2 dX4_goOn_129 rfl rfl ?_
          obtain ⟨x_488869, hx_488869, rx_488869⟩ := ex_get (I := I_488853) (a := x) (j := 4) (lo := (-2147483648)) (hi := 2147483647) hU_488854.1 hLx (ro_o hkx (by decide)) rfl
          refine g_getI C K hLx hkx f_4_28 (v := x_488869) hx_488869 dX4_goOn_130 ?_
          refine g_icmp_ge C (tgt := 147) dX4_goOn_133 (by decide) (fun h_488870 => ?_) (fun h_488870 => ?_)
          · skip
            refine g_lo (is := [2, 3, 4, 5, 6, 7, 8]) (lo2 := [(0, .ref x), (1, .int v_488806), (2, .int v_488807), (3, .int v_488808), (4, .ref b_488809), (5, .ref b_488810), (6, .int v_488811)]) rfl ?_
            exact j_147 I_488853 J_488849 hU_488854 hF_488855 hG_488852 v_488806 (rv_488806) v_488807 (rv_488807) (nv_488807_0) v_488808 hb_488809L hb_488809k hb_488810L hb_488810k v_488811 (r_488828) hm_488812
          · skip
            have r_488871 := lt_l (hi := 2147483646) (nle h_488870) rx_488868 rx_488869 (by decide)
            have r_488872 := lt_r (lo := (-2147483647)) (nle h_488870) rx_488868 rx_488869 (by decide)
            refine g_aload_n C 2 dX4_goOn_136 rfl rfl ?_
            refine g_iload_n C 3 dX4_goOn_137 rfl rfl ?_
            refine g_iconst C (v := 1) dX4_goOn_138 (by decide) ?_
            obtain ⟨x_488873, hx_488873, rx_488873, tx_488873⟩ := ex_add 3 3 rv_488806 rc_1 (by decide) (by decide) (by decide) (by decide)
            refine g_iadd C (v := x_488873) dX4_goOn_139 hx_488873 ?_
            refine g_iload C 1 dX4_goOn_140 rfl ?_
            refine g_iload C 0 dX4_goOn_142 rfl ?_
            refine g_callVV C K (c_X4_goOn_3 W9 hLx hkx x_488873 x_488858 x_488863 (rx_488873) (rx_488858) hU_488854) hLx hkx (by decide) rfl v_4_48 rfl ⟨rfl, rfl⟩ ⟨Nat.le_of_ble_eq_true rfl, Nat.le_of_ble_eq_true rfl⟩ (Nat.le_of_ble_eq_true rfl) ⟨Nat.le_of_ble_eq_true rfl, Nat.le_of_ble_eq_true rfl⟩ dX4_goOn_144 rfl (st := []) (fun I_488875 J_488876 h_488877 => ?_)
            obtain ⟨hUI_488875, hFI_488875, hGJ_488876⟩ := h_488877
            have hF_488878 := fq_tr hF_488855 hFI_488875 (by decide)
            have hG_488879 := fq_tr hG_488852 hGJ_488876 (by decide)
            refine g_lo (is := [2, 3, 4, 5, 6, 7, 8]) (lo2 := [(0, .ref x), (1, .int v_488806), (2, .int v_488807), (3, .int v_488808), (4, .ref b_488809), (5, .ref b_488810), (6, .int v_488811)]) rfl ?_
            exact j_147 I_488875 J_488876 hUI_488875 hF_488878 hG_488879 v_488806 (rv_488806) v_488807 (rv_488807) (nv_488807_0) v_488808 hb_488809L hb_488809k hb_488810L hb_488810k v_488811 (r_488828) hm_488812
  refine g_iload_n C 2 dX4_goOn_0 rfl rfl ?_
  refine g_if_eq C (tgt := 10) dX4_goOn_1 (by decide) (fun h_488880 => ?_) (fun h_488880 => ?_)
  · skip
    have r_488881 := (⟨(ra1).1, (eq_rg (h_488880) rc_0).2⟩ : Rg 0 0 a1)
    refine g_lo (is := [0, 1, 2, 3]) (lo2 := [(0, .ref x), (1, .int a0), (2, .int a1), (3, .int a2)]) rfl ?_
    exact j_10 I J hU hF hG a0 (ra0) a1 (r_488881) a2
  · skip
    have n_488882 : ¬ a1 = 0 := h_488880
    have r_488883 := ne_lo (lo := 1) n_488882 ra1 rc_0 rfl (by decide)
    refine g_iload_n C 1 dX4_goOn_4 rfl rfl ?_
    refine g_bipush C (v := 7) dX4_goOn_5 (by decide) ?_
    refine g_icmp_lt C (tgt := 31) dX4_goOn_7 (by decide) (fun h_488884 => ?_) (fun h_488884 => ?_)
    · skip
      refine g_aload_n C 0 dX4_goOn_31 rfl rfl ?_
      refine g_getR C K hLx hkx f_4_11 hb_488784 dX4_goOn_32 ?_
      refine g_iload_n C 1 dX4_goOn_35 rfl rfl ?_
      obtain ⟨b_488885, hb_488885, hb_488885L, hb_488885k⟩ := (W9 b_488784 hb_488784L).2.1 hb_488784k (a0.toNatClampNeg) (ix_lt ra0 (by decide) hb_488784n (by decide))
      refine h_aaldC C K hb_488784L hb_488784k (a0.toNatClampNeg) (rfl) (ix_0 ra0 (by decide)) (ix_lt ra0 (by decide) hb_488784n (by decide)) hb_488885 dX4_goOn_36 ?_
      refine g_astore C dX4_goOn_37 (by decide) (lo2 := [(4, .ref b_488885), (0, .ref x), (1, .int a0), (2, .int a1), (3, .int a2)]) rfl ?_
      refine g_aload_n C 1 dX4_goOn_39 rfl rfl ?_
      refine g_getR C K hLx hkx f_4_11 hb_488784 dX4_goOn_40 ?_
      refine g_iload_n C 2 dX4_goOn_43 rfl rfl ?_
      refine g_iconst C (v := 1) dX4_goOn_44 (by decide) ?_
      obtain ⟨x_488886, hx_488886, rx_488886, tx_488886⟩ := ex_add 3 3 ra0 rc_1 (by decide) (by decide) (by decide) (by decide)
      refine g_iadd C (v := x_488886) dX4_goOn_45 hx_488886 ?_
      obtain ⟨b_488887, hb_488887, hb_488887L, hb_488887k⟩ := (W9 b_488784 hb_488784L).2.1 hb_488784k (x_488886.toNatClampNeg) (ix_lt rx_488886 (by decide) hb_488784n (by decide))
      refine h_aaldC C K hb_488784L hb_488784k (x_488886.toNatClampNeg) (rfl) (ix_0 rx_488886 (by decide)) (ix_lt rx_488886 (by decide) hb_488784n (by decide)) hb_488887 dX4_goOn_46 ?_
      refine g_astore C dX4_goOn_47 (by decide) (lo2 := [(5, .ref b_488887), (4, .ref b_488885), (0, .ref x), (1, .int a0), (2, .int a1), (3, .int a2)]) rfl ?_
      refine g_iconst C (v := 0) dX4_goOn_49 (by decide) ?_
      refine g_istore C dX4_goOn_50 (by decide) (lo2 := [(6, .int 0), (5, .ref b_488887), (4, .ref b_488885), (0, .ref x), (1, .int a0), (2, .int a1), (3, .int a2)]) rfl ?_
      refine g_lo (is := [3, 4, 5, 6, 2, 1, 0]) (lo2 := [(0, .ref x), (1, .int a0), (2, .int a1), (3, .int a2), (4, .ref b_488885), (5, .ref b_488887), (6, .int 0)]) rfl ?_
      exact l_52 8 I J hU hF hG a0 (ra0) a1 (r_488883) (n_488882) a2 hb_488885L hb_488885k hb_488887L hb_488887k 0 (rg_w rc_0 (by decide) (by decide)) (ms_s (a := 0) (b := 7) (N := 8) (rg_w rc_0 (by decide) (by decide)) (by decide))
    · skip
      have r_488888 := le_r (nlt h_488884) rc_7 ra0
      exact rg_no r_488888 (by decide)
set_option maxRecDepth 100000 in
set_option maxHeartbeats 8000000 in
theorem c_X4_goOn_1 {l : Launch} {D : va_G} {cy : Nat → ClassId} {L : List Nat} {κ ln : Nat → Nat} {R : Nat → Nat → Option Nat} {I : Nat → Nat → Int32} {J : Nat → Nat → Int64} {ow : Nat → Nat × Nat} (W9 : ∀ a ∈ L, Shp L κ ln R ow a) {x : Nat} (hLx : x ∈ L) (hkx : κ x = 4) (a0 : Int32) (a1 : Int32) (a2 : Int32) (ra0 : Rg 1 1 a0) (ra1 : Rg 0 127 a1) (hU : Iv L κ R ow I) : CtV l yX4_goOn cX4_goOn 9 none { frames := 9, cells := 0, slots := 0, locals := 247 } D cy L κ ln R I J [.ref x, .int a0, .int a1, .int a2] (fun I2 J2 => Iv L κ R ow I2 ∧ Fq L κ ow [107, 108, 109, 110, 111, 112, 404, 16100, 16200, 16300, 16400, 16500, 16600, 34100, 34200] I I2 ∧ Fq L κ ow [] J J2) := by
  refine CtV.of (by decide +kernel) (Nat.le_of_ble_eq_true rfl) ?_
  intro p e s m below meth c B K
  have C := B.1
  have hF : Fq L κ ow [107, 108, 109, 110, 111, 112, 404, 16100, 16200, 16300, 16400, 16500, 16600, 34100, 34200] I I := fq_rf
  have hG : Fq L κ ow [] J J := fq_rf
  obtain ⟨b_489417, hb_489417, hb_489417L, hb_489417k, hb_489417n, hb_489417o⟩ := shp_a (W9 x hLx) hkx 0 17 8 rfl (by decide)
  obtain ⟨b_489418, hb_489418, hb_489418L, hb_489418k, hb_489418n, hb_489418o⟩ := shp_a (W9 x hLx) hkx 1 14 7 rfl (by decide)
  obtain ⟨b_489419, hb_489419, hb_489419L, hb_489419k, hb_489419n, hb_489419o⟩ := shp_a (W9 x hLx) hkx 2 14 7 rfl (by decide)
  refine g_lo (is := [0, 1, 2, 3]) (lo2 := [(0, .ref x), (1, .int a0), (2, .int a1), (3, .int a2)]) rfl ?_
  have j_10 : ∀ (I_489420 : Nat → Nat → Int32) (J_489421 : Nat → Nat → Int64) (hU_489422 : Iv L κ R ow I_489420) (hF_489423 : Fq L κ ow [107, 108, 109, 110, 111, 112, 404, 16100, 16200, 16300, 16400, 16500, 16600, 34100, 34200] I I_489420) (hG_489424 : Fq L κ ow [] J J_489421) (v_489425 : Int32) (rv_489425 : Rg 1 1 v_489425) (v_489426 : Int32) (rv_489426 : Rg 0 0 v_489426) (v_489427 : Int32), WG p l e { frames := 9, cells := 0, slots := 0, locals := 247 } s m ([.ref x, .int a0, .int a1, .int a2] : List Value).toArray below meth c 9 0 0 (MQ below (Qv_ D cy L κ ln R (fun I2 J2 => Iv L κ R ow I2 ∧ Fq L κ ow [107, 108, 109, 110, 111, 112, 404, 16100, 16200, 16300, 16400, 16500, 16600, 34100, 34200] I I2 ∧ Fq L κ ow [] J J2)) ([.ref x, .int a0, .int a1, .int a2] : List Value).toArray s 0 0 (Al_ L)) D cy (Al_ L) s.heap L κ ln R I_489420 J_489421 10 [(0, .ref x), (1, .int v_489425), (2, .int v_489426), (3, .int v_489427)] [] := by
    intro I_489420 J_489421 hU_489422 hF_489423 hG_489424 v_489425 rv_489425 v_489426 rv_489426 v_489427
    refine g_aload_n C 0 dX4_goOn_10 rfl rfl ?_
    refine g_iload_n C 3 dX4_goOn_11 rfl rfl ?_
    refine h_putI C K hLx hkx f_4_28 p_4_4 dX4_goOn_12 (fun I_489428 hI_489428 => ?_)
    have hU_489429 := iv_put W9 hU_489422 hI_489428 (ro_o hkx (by decide)) (lo := (-2147483648)) (hi := 2147483647) (rfl) ((rg_all v_489427)) rfl
    have hF_489430 := fq_puto hF_489423 hI_489428 hkx (by decide) (by decide)
    refine g_aload_n C 0 dX4_goOn_15 rfl rfl ?_
    refine g_getR C K hLx hkx f_4_17 hb_489418 dX4_goOn_16 ?_
    refine g_iconst C (v := 0) dX4_goOn_19 (by decide) ?_
    refine g_aload_n C 0 dX4_goOn_20 rfl rfl ?_
    refine g_getR C K hLx hkx f_4_21 hb_489419 dX4_goOn_21 ?_
    refine g_iconst C (v := 0) dX4_goOn_24 (by decide) ?_
    refine g_bipush C (v := 7) dX4_goOn_25 (by decide) ?_
    refine h_copyI C K hb_489419L hb_489419k hb_489418L hb_489418k ac_4_52 7 (by decide) (by decide) (by rw [hb_489418n]; decide) (by rw [hb_489419n]; decide) w_cp (Nat.le_of_ble_eq_true rfl) (Nat.le_of_ble_eq_true rfl) dX4_goOn_27 (fun I_489431 hI_489431 => ?_)
    have hU_489432 := iv_cp W9 hU_489429 (uv_cpf hU_489429.1 hI_489431 (ro_a hb_489419k (by decide) hb_489419o hkx rfl) (fun _ => rfl)) hI_489431 (ro_a hb_489419k (by decide) hb_489419o hkx rfl) rfl
    have hF_489433 := fq_cp hF_489430 hI_489431 (ro_a hb_489419k (by decide) hb_489419o hkx rfl) (by decide) (by decide)
    exact g_vret B K rfl ⟨hU_489432, hF_489433, hG_489424⟩ dX4_goOn_30
  have l_52 : ∀ (n_52 : Nat) (I_489434 : Nat → Nat → Int32) (J_489435 : Nat → Nat → Int64) (hU_489436 : Iv L κ R ow I_489434) (hF_489437 : Fq L κ ow [107, 108, 109, 110, 111, 112, 404, 16100, 16200, 16300, 16400, 16500, 16600, 34100, 34200] I I_489434) (hG_489438 : Fq L κ ow [] J J_489435) (v_489439 : Int32) (rv_489439 : Rg 1 1 v_489439) (v_489440 : Int32) (rv_489440 : Rg 1 127 v_489440) (nv_489440_0 : ¬ v_489440 = 0) (v_489441 : Int32) {b_489442 : Nat} (hb_489442L : b_489442 ∈ L) (hb_489442k : κ b_489442 = 1) {b_489443 : Nat} (hb_489443L : b_489443 ∈ L) (hb_489443k : κ b_489443 = 1) (v_489444 : Int32) (rv_489444 : Rg 0 7 v_489444) (hm_489445 : 7 < (v_489444 : Int32).toInt + (n_52 : Int)), WG p l e { frames := 9, cells := 0, slots := 0, locals := 247 } s m ([.ref x, .int a0, .int a1, .int a2] : List Value).toArray below meth c 9 0 0 (MQ below (Qv_ D cy L κ ln R (fun I2 J2 => Iv L κ R ow I2 ∧ Fq L κ ow [107, 108, 109, 110, 111, 112, 404, 16100, 16200, 16300, 16400, 16500, 16600, 34100, 34200] I I2 ∧ Fq L κ ow [] J J2)) ([.ref x, .int a0, .int a1, .int a2] : List Value).toArray s 0 0 (Al_ L)) D cy (Al_ L) s.heap L κ ln R I_489434 J_489435 52 [(0, .ref x), (1, .int v_489439), (2, .int v_489440), (3, .int v_489441), (4, .ref b_489442), (5, .ref b_489443), (6, .int v_489444)] [] := by
    intro n_52
    induction n_52 with
    | zero =>
      intro I_489434 J_489435 hU_489436 hF_489437 hG_489438 v_489439 rv_489439 v_489440 rv_489440 nv_489440_0 v_489441 b_489442 hb_489442L hb_489442k b_489443 hb_489443L hb_489443k v_489444 rv_489444 hm_489445
      exact ms_0 rv_489444 hm_489445
    | succ n_52 ih_52 =>
      intro I_489434 J_489435 hU_489436 hF_489437 hG_489438 v_489439 rv_489439 v_489440 rv_489440 nv_489440_0 v_489441 b_489442 hb_489442L hb_489442k b_489443 hb_489443L hb_489443k v_489444 rv_489444 hm_489445
      have j_147 : ∀ (I_489446 : Nat → Nat → Int32) (J_489447 : Nat → Nat → Int64) (hU_489448 : Iv L κ R ow I_489446) (hF_489449 : Fq L κ ow [107, 108, 109, 110, 111, 112, 404, 16100, 16200, 16300, 16400, 16500, 16600, 34100, 34200] I I_489446) (hG_489450 : Fq L κ ow [] J J_489447) (v_489451 : Int32) (rv_489451 : Rg 1 1 v_489451) (v_489452 : Int32) (rv_489452 : Rg 1 127 v_489452) (nv_489452_0 : ¬ v_489452 = 0) (v_489453 : Int32) {b_489454 : Nat} (hb_489454L : b_489454 ∈ L) (hb_489454k : κ b_489454 = 1) {b_489455 : Nat} (hb_489455L : b_489455 ∈ L) (hb_489455k : κ b_489455 = 1) (v_489456 : Int32) (rv_489456 : Rg 0 6 v_489456) (hm_489457 : 7 < (v_489456 : Int32).toInt + ((n_52 + 1 : Nat) : Int)), WG p l e { frames := 9, cells := 0, slots := 0, locals := 247 } s m ([.ref x, .int a0, .int a1, .int a2] : List Value).toArray below meth c 9 0 0 (MQ below (Qv_ D cy L κ ln R (fun I2 J2 => Iv L κ R ow I2 ∧ Fq L κ ow [107, 108, 109, 110, 111, 112, 404, 16100, 16200, 16300, 16400, 16500, 16600, 34100, 34200] I I2 ∧ Fq L κ ow [] J J2)) ([.ref x, .int a0, .int a1, .int a2] : List Value).toArray s 0 0 (Al_ L)) D cy (Al_ L) s.heap L κ ln R I_489446 J_489447 147 [(0, .ref x), (1, .int v_489451), (2, .int v_489452), (3, .int v_489453), (4, .ref b_489454), (5, .ref b_489455), (6, .int v_489456)] [] := by
        intro I_489446 J_489447 hU_489448 hF_489449 hG_489450 v_489451 rv_489451 v_489452 rv_489452 nv_489452_0 v_489453 b_489454 hb_489454L hb_489454k b_489455 hb_489455L hb_489455k v_489456 rv_489456 hm_489457
        obtain ⟨x_489458, hx_489458, rx_489458, tx_489458⟩ := ex_add (y := 1) 1 7 rv_489456 rc_1 (by decide) (by decide) (by decide) (by decide)
        refine g_iinc C dX4_goOn_147 (k := 6) (v := x_489458) rfl hx_489458 (by decide) (lo2 := [(6, .int x_489458), (0, .ref x), (1, .int v_489451), (2, .int v_489452), (3, .int v_489453), (4, .ref b_489454), (5, .ref b_489455)]) rfl ?_
        refine g_goto C (tgt := 52) dX4_goOn_150 (by decide) ?_
        refine g_lo (is := [1, 2, 3, 4, 5, 6, 0]) (lo2 := [(0, .ref x), (1, .int v_489451), (2, .int v_489452), (3, .int v_489453), (4, .ref b_489454), (5, .ref b_489455), (6, .int x_489458)]) rfl ?_
        exact ih_52 I_489446 J_489447 hU_489448 hF_489449 hG_489450 v_489451 (rv_489451) v_489452 (rv_489452) (nv_489452_0) v_489453 hb_489454L hb_489454k hb_489455L hb_489455k x_489458 (rg_w rx_489458 (by decide) (by decide)) (ms_1 hm_489457 (ti_k tx_489458 rc_1) (by decide))
      refine g_iload C 6 dX4_goOn_52 rfl ?_
      refine g_bipush C (v := 7) dX4_goOn_54 (by decide) ?_
      refine g_icmp_ge C (tgt := 153) dX4_goOn_56 (by decide) (fun h_489459 => ?_) (fun h_489459 => ?_)
      · skip
        have r_489460 := le_r (h_489459) rc_7 rv_489444
        exact g_vret B K rfl ⟨hU_489436, hF_489437, hG_489438⟩ dX4_goOn_153
      · skip
        have r_489461 := lt_l (hi := 6) (nle h_489459) rv_489444 rc_7 (by decide)
        refine g_iload_n C 2 dX4_goOn_59 rfl rfl ?_
        refine g_iload C 6 dX4_goOn_60 rfl ?_
        obtain ⟨x_489462, hx_489462, rx_489462⟩ := ex_shr (x := v_489440) (y := v_489444) (b := 127) (rg_w rv_489440 (by decide) (by decide))
        refine g_ishr C (v := x_489462) dX4_goOn_62 hx_489462 ?_
        refine g_iconst C (v := 1) dX4_goOn_63 (by decide) ?_
        obtain ⟨x_489463, hx_489463, rx_489463⟩ := ex_andr (x := x_489462) (y := 1) (b := 1) (rg_w rc_1 (by decide) (by decide))
        refine g_iand C (v := x_489463) dX4_goOn_64 hx_489463 ?_
        refine g_if_eq C (tgt := 147) dX4_goOn_65 (by decide) (fun h_489464 => ?_) (fun h_489464 => ?_)
        · skip
          have r_489465 := (⟨(rx_489463).1, (eq_rg (h_489464) rc_0).2⟩ : Rg 0 0 x_489463)
          refine g_lo (is := [0, 1, 2, 3, 4, 5, 6]) (lo2 := [(0, .ref x), (1, .int v_489439), (2, .int v_489440), (3, .int v_489441), (4, .ref b_489442), (5, .ref b_489443), (6, .int v_489444)]) rfl ?_
          exact j_147 I_489434 J_489435 hU_489436 hF_489437 hG_489438 v_489439 (rv_489439) v_489440 (rv_489440) (nv_489440_0) v_489441 hb_489442L hb_489442k hb_489443L hb_489443k v_489444 (r_489461) hm_489445
        · skip
          have n_489466 : ¬ x_489463 = 0 := h_489464
          have r_489467 := ne_lo (lo := 1) n_489466 rx_489463 rc_0 rfl (by decide)
          refine g_aload C 5 dX4_goOn_68 rfl ?_
          refine g_aload C 4 dX4_goOn_70 rfl ?_
          refine g_callVV C K (c_X1_become W9 hb_489443L hb_489443k hb_489442L hb_489442k  hU_489436) hb_489443L hb_489443k (by decide) rfl v_4_44 rfl ⟨rfl, rfl⟩ ⟨Nat.le_of_ble_eq_true rfl, Nat.le_of_ble_eq_true rfl⟩ (Nat.le_of_ble_eq_true rfl) ⟨Nat.le_of_ble_eq_true rfl, Nat.le_of_ble_eq_true rfl⟩ dX4_goOn_72 rfl (st := []) (fun I_489469 J_489470 h_489471 => ?_)
          obtain ⟨hUI_489469, hFI_489469, hGJ_489470⟩ := h_489471
          have hF_489472 := fq_tr hF_489437 hFI_489469 (by decide)
          have hG_489473 := fq_tr hG_489438 hGJ_489470 (by decide)
          refine g_aload C 5 dX4_goOn_75 rfl ?_
          refine g_iload C 6 dX4_goOn_77 rfl ?_
          refine g_callVV C K (c_X1_eatAll W9 hb_489443L hb_489443k v_489444 (r_489461) hUI_489469) hb_489443L hb_489443k (by decide) rfl v_4_58 rfl ⟨rfl, rfl⟩ ⟨Nat.le_of_ble_eq_true rfl, Nat.le_of_ble_eq_true rfl⟩ (Nat.le_of_ble_eq_true rfl) ⟨Nat.le_of_ble_eq_true rfl, Nat.le_of_ble_eq_true rfl⟩ dX4_goOn_79 rfl (st := []) (fun I_489475 J_489476 h_489477 => ?_)
          obtain ⟨hUI_489475, hFI_489475, hGJ_489476⟩ := h_489477
          have hF_489478 := fq_tr hF_489472 hFI_489475 (by decide)
          have hG_489479 := fq_tr hG_489473 hGJ_489476 (by decide)
          refine g_aload C 5 dX4_goOn_82 rfl ?_
          refine g_iload C 6 dX4_goOn_84 rfl ?_
          refine g_callVI C K (c_X1_tryToRise W9 hb_489443L hb_489443k v_489444 (r_489461) hUI_489475) hb_489443L hb_489443k (by decide) rfl v_4_62 rfl ⟨rfl, rfl⟩ ⟨Nat.le_of_ble_eq_true rfl, Nat.le_of_ble_eq_true rfl⟩ (Nat.le_of_ble_eq_true rfl) ⟨Nat.le_of_ble_eq_true rfl, Nat.le_of_ble_eq_true rfl⟩ dX4_goOn_86 rfl (st := []) (fun x_489480 I_489481 J_489482 h_489483 => ?_)
          obtain ⟨hUI_489481, hFI_489481, hGJ_489482, rx_489480⟩ := h_489483
          have hF_489484 := fq_tr hF_489478 hFI_489481 (by decide)
          have hG_489485 := fq_tr hG_489479 hGJ_489482 (by decide)
          refine g_pop C dX4_goOn_89 rfl ?_
          refine g_aload_n C 0 dX4_goOn_90 rfl rfl ?_
          refine g_getR C K hLx hkx f_4_17 hb_489418 dX4_goOn_91 ?_
          refine g_iload_n C 1 dX4_goOn_94 rfl rfl ?_
          refine g_iload C 6 dX4_goOn_95 rfl ?_
          refine h_iast C K hb_489418L hb_489418k (v_489439.toNatClampNeg) (rfl) (ix_0 rv_489439 (by decide)) (ix_lt rv_489439 (by decide) hb_489418n (by decide)) dX4_goOn_97 (fun I_489486 hI_489486 => ?_)
          have hU_489487 := iv_put W9 hUI_489481 hI_489486 (ro_a hb_489418k (by decide) hb_489418o hkx rfl) (lo := (-2147483648)) (hi := 2147483647) (rfl) (rg_all _) rfl
          have hF_489488 := fq_puta hF_489484 hI_489486 (ro_a hb_489418k (by decide) hb_489418o hkx rfl) (by decide) (by decide)
          refine g_iload_n C 2 dX4_goOn_98 rfl rfl ?_
          refine g_iconst C (v := 1) dX4_goOn_99 (by decide) ?_
          refine g_iload C 6 dX4_goOn_100 rfl ?_
          obtain ⟨x_489489, hx_489489, rx_489489⟩ := ex_shl (x := 1) (y := v_489444) 6 64 rfl (r_489461) (by decide)
          refine g_ishl C (v := x_489489) dX4_goOn_102 hx_489489 ?_
          refine g_iconst C (v := (-1)) dX4_goOn_103 (by decide) ?_
          obtain ⟨x_489490, hx_489490, rx_489490⟩ := ex_any (z0 := x_489489 ^^^ (-1))
          refine g_ixor C (v := x_489490) dX4_goOn_104 hx_489490 ?_
          obtain ⟨x_489491, hx_489491, rx_489491⟩ := ex_andl (x := v_489440) (y := x_489490) (b := 127) (rg_w rv_489440 (by decide) (by decide))
          refine g_iand C (v := x_489491) dX4_goOn_105 hx_489491 ?_
          refine g_istore C dX4_goOn_106 (by decide) (lo2 := [(7, .int x_489491), (0, .ref x), (1, .int v_489439), (2, .int v_489440), (3, .int v_489441), (4, .ref b_489442), (5, .ref b_489443), (6, .int v_489444)]) rfl ?_
          refine g_iload_n C 4 dX4_goOn_108 rfl rfl ?_
          refine g_aload C 6 dX4_goOn_109 rfl ?_
          refine g_iload C 7 dX4_goOn_111 rfl ?_
          refine g_callVI C K (c_X1_wantsYet W9 hb_489443L hb_489443k v_489444 (r_489461) hU_489487) hb_489443L hb_489443k (by decide) rfl v_4_65 rfl ⟨rfl, rfl⟩ ⟨Nat.le_of_ble_eq_true rfl, Nat.le_of_ble_eq_true rfl⟩ (Nat.le_of_ble_eq_true rfl) ⟨Nat.le_of_ble_eq_true rfl, Nat.le_of_ble_eq_true rfl⟩ dX4_goOn_113 rfl (st := [.int v_489441]) (fun x_489492 I_489493 J_489494 h_489495 => ?_)
          obtain ⟨rfl, rfl, rx_489492⟩ := h_489495
          obtain ⟨x_489496, hx_489496, rx_489496⟩ := ex_any (z0 := v_489441 + x_489492)
          refine g_iadd C (v := x_489496) dX4_goOn_116 hx_489496 ?_
          refine g_istore C dX4_goOn_117 (by decide) (lo2 := [(8, .int x_489496), (7, .int x_489491), (0, .ref x), (1, .int v_489439), (2, .int v_489440), (3, .int v_489441), (4, .ref b_489442), (5, .ref b_489443), (6, .int v_489444)]) rfl ?_
          refine g_iload C 0 dX4_goOn_119 rfl ?_
          refine g_aload C 7 dX4_goOn_121 rfl ?_
          refine g_iload C 1 dX4_goOn_123 rfl ?_
          refine g_callSI C K (c_X4_atLeastWanted W9 hb_489443L hb_489443k x_489491 (rx_489491) hU_489487) s_4_68 rfl ⟨rfl, rfl⟩ ⟨Nat.le_of_ble_eq_true rfl, Nat.le_of_ble_eq_true rfl⟩ (Nat.le_of_ble_eq_true rfl) ⟨Nat.le_of_ble_eq_true rfl, Nat.le_of_ble_eq_true rfl⟩ dX4_goOn_125 rfl (st := [.int x_489496]) (fun x_489497 I_489498 J_489499 h_489500 => ?_)
          obtain ⟨rfl, rfl, rx_489497⟩ := h_489500
          obtain ⟨x_489501, hx_489501, rx_489501⟩ := ex_any (z0 := x_489496 + x_489497)
          refine g_iadd C (v := x_489501) dX4_goOn_128 hx_489501 ?_
          refine g_aload_n C 2 dX4_goOn_129 rfl rfl ?_
          obtain ⟨x_489502, hx_489502, rx_489502⟩ := ex_get (I := I_489486) (a := x) (j := 4) (lo := (-2147483648)) (hi := 2147483647) hU_489487.1 hLx (ro_o hkx (by decide)) rfl
          refine g_getI C K hLx hkx f_4_28 (v := x_489502) hx_489502 dX4_goOn_130 ?_
          refine g_icmp_ge C (tgt := 147) dX4_goOn_133 (by decide) (fun h_489503 => ?_) (fun h_489503 => ?_)
          · skip
            refine g_lo (is := [2, 3, 4, 5, 6, 7, 8]) (lo2 := [(0, .ref x), (1, .int v_489439), (2, .int v_489440), (3, .int v_489441), (4, .ref b_489442), (5, .ref b_489443), (6, .int v_489444)]) rfl ?_
            exact j_147 I_489486 J_489482 hU_489487 hF_489488 hG_489485 v_489439 (rv_489439) v_489440 (rv_489440) (nv_489440_0) v_489441 hb_489442L hb_489442k hb_489443L hb_489443k v_489444 (r_489461) hm_489445
          · skip
            have r_489504 := lt_l (hi := 2147483646) (nle h_489503) rx_489501 rx_489502 (by decide)
            have r_489505 := lt_r (lo := (-2147483647)) (nle h_489503) rx_489501 rx_489502 (by decide)
            refine g_aload_n C 2 dX4_goOn_136 rfl rfl ?_
            refine g_iload_n C 3 dX4_goOn_137 rfl rfl ?_
            refine g_iconst C (v := 1) dX4_goOn_138 (by decide) ?_
            obtain ⟨x_489506, hx_489506, rx_489506, tx_489506⟩ := ex_add 2 2 rv_489439 rc_1 (by decide) (by decide) (by decide) (by decide)
            refine g_iadd C (v := x_489506) dX4_goOn_139 hx_489506 ?_
            refine g_iload C 1 dX4_goOn_140 rfl ?_
            refine g_iload C 0 dX4_goOn_142 rfl ?_
            refine g_callVV C K (c_X4_goOn_2 W9 hLx hkx x_489506 x_489491 x_489496 (rx_489506) (rx_489491) hU_489487) hLx hkx (by decide) rfl v_4_48 rfl ⟨rfl, rfl⟩ ⟨Nat.le_of_ble_eq_true rfl, Nat.le_of_ble_eq_true rfl⟩ (Nat.le_of_ble_eq_true rfl) ⟨Nat.le_of_ble_eq_true rfl, Nat.le_of_ble_eq_true rfl⟩ dX4_goOn_144 rfl (st := []) (fun I_489508 J_489509 h_489510 => ?_)
            obtain ⟨hUI_489508, hFI_489508, hGJ_489509⟩ := h_489510
            have hF_489511 := fq_tr hF_489488 hFI_489508 (by decide)
            have hG_489512 := fq_tr hG_489485 hGJ_489509 (by decide)
            refine g_lo (is := [2, 3, 4, 5, 6, 7, 8]) (lo2 := [(0, .ref x), (1, .int v_489439), (2, .int v_489440), (3, .int v_489441), (4, .ref b_489442), (5, .ref b_489443), (6, .int v_489444)]) rfl ?_
            exact j_147 I_489508 J_489509 hUI_489508 hF_489511 hG_489512 v_489439 (rv_489439) v_489440 (rv_489440) (nv_489440_0) v_489441 hb_489442L hb_489442k hb_489443L hb_489443k v_489444 (r_489461) hm_489445
  refine g_iload_n C 2 dX4_goOn_0 rfl rfl ?_
  refine g_if_eq C (tgt := 10) dX4_goOn_1 (by decide) (fun h_489513 => ?_) (fun h_489513 => ?_)
  · skip
    have r_489514 := (⟨(ra1).1, (eq_rg (h_489513) rc_0).2⟩ : Rg 0 0 a1)
    refine g_lo (is := [0, 1, 2, 3]) (lo2 := [(0, .ref x), (1, .int a0), (2, .int a1), (3, .int a2)]) rfl ?_
    exact j_10 I J hU hF hG a0 (ra0) a1 (r_489514) a2
  · skip
    have n_489515 : ¬ a1 = 0 := h_489513
    have r_489516 := ne_lo (lo := 1) n_489515 ra1 rc_0 rfl (by decide)
    refine g_iload_n C 1 dX4_goOn_4 rfl rfl ?_
    refine g_bipush C (v := 7) dX4_goOn_5 (by decide) ?_
    refine g_icmp_lt C (tgt := 31) dX4_goOn_7 (by decide) (fun h_489517 => ?_) (fun h_489517 => ?_)
    · skip
      refine g_aload_n C 0 dX4_goOn_31 rfl rfl ?_
      refine g_getR C K hLx hkx f_4_11 hb_489417 dX4_goOn_32 ?_
      refine g_iload_n C 1 dX4_goOn_35 rfl rfl ?_
      obtain ⟨b_489518, hb_489518, hb_489518L, hb_489518k⟩ := (W9 b_489417 hb_489417L).2.1 hb_489417k (a0.toNatClampNeg) (ix_lt ra0 (by decide) hb_489417n (by decide))
      refine h_aaldC C K hb_489417L hb_489417k (a0.toNatClampNeg) (rfl) (ix_0 ra0 (by decide)) (ix_lt ra0 (by decide) hb_489417n (by decide)) hb_489518 dX4_goOn_36 ?_
      refine g_astore C dX4_goOn_37 (by decide) (lo2 := [(4, .ref b_489518), (0, .ref x), (1, .int a0), (2, .int a1), (3, .int a2)]) rfl ?_
      refine g_aload_n C 1 dX4_goOn_39 rfl rfl ?_
      refine g_getR C K hLx hkx f_4_11 hb_489417 dX4_goOn_40 ?_
      refine g_iload_n C 2 dX4_goOn_43 rfl rfl ?_
      refine g_iconst C (v := 1) dX4_goOn_44 (by decide) ?_
      obtain ⟨x_489519, hx_489519, rx_489519, tx_489519⟩ := ex_add 2 2 ra0 rc_1 (by decide) (by decide) (by decide) (by decide)
      refine g_iadd C (v := x_489519) dX4_goOn_45 hx_489519 ?_
      obtain ⟨b_489520, hb_489520, hb_489520L, hb_489520k⟩ := (W9 b_489417 hb_489417L).2.1 hb_489417k (x_489519.toNatClampNeg) (ix_lt rx_489519 (by decide) hb_489417n (by decide))
      refine h_aaldC C K hb_489417L hb_489417k (x_489519.toNatClampNeg) (rfl) (ix_0 rx_489519 (by decide)) (ix_lt rx_489519 (by decide) hb_489417n (by decide)) hb_489520 dX4_goOn_46 ?_
      refine g_astore C dX4_goOn_47 (by decide) (lo2 := [(5, .ref b_489520), (4, .ref b_489518), (0, .ref x), (1, .int a0), (2, .int a1), (3, .int a2)]) rfl ?_
      refine g_iconst C (v := 0) dX4_goOn_49 (by decide) ?_
      refine g_istore C dX4_goOn_50 (by decide) (lo2 := [(6, .int 0), (5, .ref b_489520), (4, .ref b_489518), (0, .ref x), (1, .int a0), (2, .int a1), (3, .int a2)]) rfl ?_
      refine g_lo (is := [3, 4, 5, 6, 2, 1, 0]) (lo2 := [(0, .ref x), (1, .int a0), (2, .int a1), (3, .int a2), (4, .ref b_489518), (5, .ref b_489520), (6, .int 0)]) rfl ?_
      exact l_52 8 I J hU hF hG a0 (ra0) a1 (r_489516) (n_489515) a2 hb_489518L hb_489518k hb_489520L hb_489520k 0 (rg_w rc_0 (by decide) (by decide)) (ms_s (a := 0) (b := 7) (N := 8) (rg_w rc_0 (by decide) (by decide)) (by decide))
    · skip
      have r_489521 := le_r (nlt h_489517) rc_7 ra0
      exact rg_no r_489521 (by decide)
set_option maxRecDepth 100000 in
set_option maxHeartbeats 8000000 in
theorem c_X4_goOn_0 {l : Launch} {D : va_G} {cy : Nat → ClassId} {L : List Nat} {κ ln : Nat → Nat} {R : Nat → Nat → Option Nat} {I : Nat → Nat → Int32} {J : Nat → Nat → Int64} {ow : Nat → Nat × Nat} (W9 : ∀ a ∈ L, Shp L κ ln R ow a) {x : Nat} (hLx : x ∈ L) (hkx : κ x = 4) (a0 : Int32) (a1 : Int32) (a2 : Int32) (ra0 : Rg 0 0 a0) (ra1 : Rg 0 127 a1) (ra2 : Rg 0 0 a2) (hU : Iv L κ R ow I) : CtV l yX4_goOn cX4_goOn 9 none { frames := 10, cells := 0, slots := 0, locals := 275 } D cy L κ ln R I J [.ref x, .int a0, .int a1, .int a2] (fun I2 J2 => Iv L κ R ow I2 ∧ Fq L κ ow [107, 108, 109, 110, 111, 112, 404, 16100, 16200, 16300, 16400, 16500, 16600, 34100, 34200] I I2 ∧ Fq L κ ow [] J J2) := by
  refine CtV.of (by decide +kernel) (Nat.le_of_ble_eq_true rfl) ?_
  intro p e s m below meth c B K
  have C := B.1
  have hF : Fq L κ ow [107, 108, 109, 110, 111, 112, 404, 16100, 16200, 16300, 16400, 16500, 16600, 34100, 34200] I I := fq_rf
  have hG : Fq L κ ow [] J J := fq_rf
  obtain ⟨b_490050, hb_490050, hb_490050L, hb_490050k, hb_490050n, hb_490050o⟩ := shp_a (W9 x hLx) hkx 0 17 8 rfl (by decide)
  obtain ⟨b_490051, hb_490051, hb_490051L, hb_490051k, hb_490051n, hb_490051o⟩ := shp_a (W9 x hLx) hkx 1 14 7 rfl (by decide)
  obtain ⟨b_490052, hb_490052, hb_490052L, hb_490052k, hb_490052n, hb_490052o⟩ := shp_a (W9 x hLx) hkx 2 14 7 rfl (by decide)
  refine g_lo (is := [0, 1, 2, 3]) (lo2 := [(0, .ref x), (1, .int a0), (2, .int a1), (3, .int a2)]) rfl ?_
  have j_10 : ∀ (I_490053 : Nat → Nat → Int32) (J_490054 : Nat → Nat → Int64) (hU_490055 : Iv L κ R ow I_490053) (hF_490056 : Fq L κ ow [107, 108, 109, 110, 111, 112, 404, 16100, 16200, 16300, 16400, 16500, 16600, 34100, 34200] I I_490053) (hG_490057 : Fq L κ ow [] J J_490054) (v_490058 : Int32) (rv_490058 : Rg 0 0 v_490058) (v_490059 : Int32) (rv_490059 : Rg 0 0 v_490059) (v_490060 : Int32) (rv_490060 : Rg 0 0 v_490060), WG p l e { frames := 10, cells := 0, slots := 0, locals := 275 } s m ([.ref x, .int a0, .int a1, .int a2] : List Value).toArray below meth c 9 0 0 (MQ below (Qv_ D cy L κ ln R (fun I2 J2 => Iv L κ R ow I2 ∧ Fq L κ ow [107, 108, 109, 110, 111, 112, 404, 16100, 16200, 16300, 16400, 16500, 16600, 34100, 34200] I I2 ∧ Fq L κ ow [] J J2)) ([.ref x, .int a0, .int a1, .int a2] : List Value).toArray s 0 0 (Al_ L)) D cy (Al_ L) s.heap L κ ln R I_490053 J_490054 10 [(0, .ref x), (1, .int v_490058), (2, .int v_490059), (3, .int v_490060)] [] := by
    intro I_490053 J_490054 hU_490055 hF_490056 hG_490057 v_490058 rv_490058 v_490059 rv_490059 v_490060 rv_490060
    refine g_aload_n C 0 dX4_goOn_10 rfl rfl ?_
    refine g_iload_n C 3 dX4_goOn_11 rfl rfl ?_
    refine h_putI C K hLx hkx f_4_28 p_4_4 dX4_goOn_12 (fun I_490061 hI_490061 => ?_)
    have hU_490062 := iv_put W9 hU_490055 hI_490061 (ro_o hkx (by decide)) (lo := (-2147483648)) (hi := 2147483647) (rfl) (rg_all _) rfl
    have hF_490063 := fq_puto hF_490056 hI_490061 hkx (by decide) (by decide)
    refine g_aload_n C 0 dX4_goOn_15 rfl rfl ?_
    refine g_getR C K hLx hkx f_4_17 hb_490051 dX4_goOn_16 ?_
    refine g_iconst C (v := 0) dX4_goOn_19 (by decide) ?_
    refine g_aload_n C 0 dX4_goOn_20 rfl rfl ?_
    refine g_getR C K hLx hkx f_4_21 hb_490052 dX4_goOn_21 ?_
    refine g_iconst C (v := 0) dX4_goOn_24 (by decide) ?_
    refine g_bipush C (v := 7) dX4_goOn_25 (by decide) ?_
    refine h_copyI C K hb_490052L hb_490052k hb_490051L hb_490051k ac_4_52 7 (by decide) (by decide) (by rw [hb_490051n]; decide) (by rw [hb_490052n]; decide) w_cp (Nat.le_of_ble_eq_true rfl) (Nat.le_of_ble_eq_true rfl) dX4_goOn_27 (fun I_490064 hI_490064 => ?_)
    have hU_490065 := iv_cp W9 hU_490062 (uv_cpf hU_490062.1 hI_490064 (ro_a hb_490052k (by decide) hb_490052o hkx rfl) (fun _ => rfl)) hI_490064 (ro_a hb_490052k (by decide) hb_490052o hkx rfl) rfl
    have hF_490066 := fq_cp hF_490063 hI_490064 (ro_a hb_490052k (by decide) hb_490052o hkx rfl) (by decide) (by decide)
    exact g_vret B K rfl ⟨hU_490065, hF_490066, hG_490057⟩ dX4_goOn_30
  have l_52 : ∀ (n_52 : Nat) (I_490067 : Nat → Nat → Int32) (J_490068 : Nat → Nat → Int64) (hU_490069 : Iv L κ R ow I_490067) (hF_490070 : Fq L κ ow [107, 108, 109, 110, 111, 112, 404, 16100, 16200, 16300, 16400, 16500, 16600, 34100, 34200] I I_490067) (hG_490071 : Fq L κ ow [] J J_490068) (v_490072 : Int32) (rv_490072 : Rg 0 0 v_490072) (v_490073 : Int32) (rv_490073 : Rg 1 127 v_490073) (nv_490073_0 : ¬ v_490073 = 0) (v_490074 : Int32) (rv_490074 : Rg 0 0 v_490074) {b_490075 : Nat} (hb_490075L : b_490075 ∈ L) (hb_490075k : κ b_490075 = 1) {b_490076 : Nat} (hb_490076L : b_490076 ∈ L) (hb_490076k : κ b_490076 = 1) (v_490077 : Int32) (rv_490077 : Rg 0 7 v_490077) (hm_490078 : 7 < (v_490077 : Int32).toInt + (n_52 : Int)), WG p l e { frames := 10, cells := 0, slots := 0, locals := 275 } s m ([.ref x, .int a0, .int a1, .int a2] : List Value).toArray below meth c 9 0 0 (MQ below (Qv_ D cy L κ ln R (fun I2 J2 => Iv L κ R ow I2 ∧ Fq L κ ow [107, 108, 109, 110, 111, 112, 404, 16100, 16200, 16300, 16400, 16500, 16600, 34100, 34200] I I2 ∧ Fq L κ ow [] J J2)) ([.ref x, .int a0, .int a1, .int a2] : List Value).toArray s 0 0 (Al_ L)) D cy (Al_ L) s.heap L κ ln R I_490067 J_490068 52 [(0, .ref x), (1, .int v_490072), (2, .int v_490073), (3, .int v_490074), (4, .ref b_490075), (5, .ref b_490076), (6, .int v_490077)] [] := by
    intro n_52
    induction n_52 with
    | zero =>
      intro I_490067 J_490068 hU_490069 hF_490070 hG_490071 v_490072 rv_490072 v_490073 rv_490073 nv_490073_0 v_490074 rv_490074 b_490075 hb_490075L hb_490075k b_490076 hb_490076L hb_490076k v_490077 rv_490077 hm_490078
      exact ms_0 rv_490077 hm_490078
    | succ n_52 ih_52 =>
      intro I_490067 J_490068 hU_490069 hF_490070 hG_490071 v_490072 rv_490072 v_490073 rv_490073 nv_490073_0 v_490074 rv_490074 b_490075 hb_490075L hb_490075k b_490076 hb_490076L hb_490076k v_490077 rv_490077 hm_490078
      have j_147 : ∀ (I_490079 : Nat → Nat → Int32) (J_490080 : Nat → Nat → Int64) (hU_490081 : Iv L κ R ow I_490079) (hF_490082 : Fq L κ ow [107, 108, 109, 110, 111, 112, 404, 16100, 16200, 16300, 16400, 16500, 16600, 34100, 34200] I I_490079) (hG_490083 : Fq L κ ow [] J J_490080) (v_490084 : Int32) (rv_490084 : Rg 0 0 v_490084) (v_490085 : Int32) (rv_490085 : Rg 1 127 v_490085) (nv_490085_0 : ¬ v_490085 = 0) (v_490086 : Int32) (rv_490086 : Rg 0 0 v_490086) {b_490087 : Nat} (hb_490087L : b_490087 ∈ L) (hb_490087k : κ b_490087 = 1) {b_490088 : Nat} (hb_490088L : b_490088 ∈ L) (hb_490088k : κ b_490088 = 1) (v_490089 : Int32) (rv_490089 : Rg 0 6 v_490089) (hm_490090 : 7 < (v_490089 : Int32).toInt + ((n_52 + 1 : Nat) : Int)), WG p l e { frames := 10, cells := 0, slots := 0, locals := 275 } s m ([.ref x, .int a0, .int a1, .int a2] : List Value).toArray below meth c 9 0 0 (MQ below (Qv_ D cy L κ ln R (fun I2 J2 => Iv L κ R ow I2 ∧ Fq L κ ow [107, 108, 109, 110, 111, 112, 404, 16100, 16200, 16300, 16400, 16500, 16600, 34100, 34200] I I2 ∧ Fq L κ ow [] J J2)) ([.ref x, .int a0, .int a1, .int a2] : List Value).toArray s 0 0 (Al_ L)) D cy (Al_ L) s.heap L κ ln R I_490079 J_490080 147 [(0, .ref x), (1, .int v_490084), (2, .int v_490085), (3, .int v_490086), (4, .ref b_490087), (5, .ref b_490088), (6, .int v_490089)] [] := by
        intro I_490079 J_490080 hU_490081 hF_490082 hG_490083 v_490084 rv_490084 v_490085 rv_490085 nv_490085_0 v_490086 rv_490086 b_490087 hb_490087L hb_490087k b_490088 hb_490088L hb_490088k v_490089 rv_490089 hm_490090
        obtain ⟨x_490091, hx_490091, rx_490091, tx_490091⟩ := ex_add (y := 1) 1 7 rv_490089 rc_1 (by decide) (by decide) (by decide) (by decide)
        refine g_iinc C dX4_goOn_147 (k := 6) (v := x_490091) rfl hx_490091 (by decide) (lo2 := [(6, .int x_490091), (0, .ref x), (1, .int v_490084), (2, .int v_490085), (3, .int v_490086), (4, .ref b_490087), (5, .ref b_490088)]) rfl ?_
        refine g_goto C (tgt := 52) dX4_goOn_150 (by decide) ?_
        refine g_lo (is := [1, 2, 3, 4, 5, 6, 0]) (lo2 := [(0, .ref x), (1, .int v_490084), (2, .int v_490085), (3, .int v_490086), (4, .ref b_490087), (5, .ref b_490088), (6, .int x_490091)]) rfl ?_
        exact ih_52 I_490079 J_490080 hU_490081 hF_490082 hG_490083 v_490084 (rv_490084) v_490085 (rv_490085) (nv_490085_0) v_490086 (rv_490086) hb_490087L hb_490087k hb_490088L hb_490088k x_490091 (rg_w rx_490091 (by decide) (by decide)) (ms_1 hm_490090 (ti_k tx_490091 rc_1) (by decide))
      refine g_iload C 6 dX4_goOn_52 rfl ?_
      refine g_bipush C (v := 7) dX4_goOn_54 (by decide) ?_
      refine g_icmp_ge C (tgt := 153) dX4_goOn_56 (by decide) (fun h_490092 => ?_) (fun h_490092 => ?_)
      · skip
        have r_490093 := le_r (h_490092) rc_7 rv_490077
        exact g_vret B K rfl ⟨hU_490069, hF_490070, hG_490071⟩ dX4_goOn_153
      · skip
        have r_490094 := lt_l (hi := 6) (nle h_490092) rv_490077 rc_7 (by decide)
        refine g_iload_n C 2 dX4_goOn_59 rfl rfl ?_
        refine g_iload C 6 dX4_goOn_60 rfl ?_
        obtain ⟨x_490095, hx_490095, rx_490095⟩ := ex_shr (x := v_490073) (y := v_490077) (b := 127) (rg_w rv_490073 (by decide) (by decide))
        refine g_ishr C (v := x_490095) dX4_goOn_62 hx_490095 ?_
        refine g_iconst C (v := 1) dX4_goOn_63 (by decide) ?_
        obtain ⟨x_490096, hx_490096, rx_490096⟩ := ex_andr (x := x_490095) (y := 1) (b := 1) (rg_w rc_1 (by decide) (by decide))
        refine g_iand C (v := x_490096) dX4_goOn_64 hx_490096 ?_
        refine g_if_eq C (tgt := 147) dX4_goOn_65 (by decide) (fun h_490097 => ?_) (fun h_490097 => ?_)
        · skip
          have r_490098 := (⟨(rx_490096).1, (eq_rg (h_490097) rc_0).2⟩ : Rg 0 0 x_490096)
          refine g_lo (is := [0, 1, 2, 3, 4, 5, 6]) (lo2 := [(0, .ref x), (1, .int v_490072), (2, .int v_490073), (3, .int v_490074), (4, .ref b_490075), (5, .ref b_490076), (6, .int v_490077)]) rfl ?_
          exact j_147 I_490067 J_490068 hU_490069 hF_490070 hG_490071 v_490072 (rv_490072) v_490073 (rv_490073) (nv_490073_0) v_490074 (rv_490074) hb_490075L hb_490075k hb_490076L hb_490076k v_490077 (r_490094) hm_490078
        · skip
          have n_490099 : ¬ x_490096 = 0 := h_490097
          have r_490100 := ne_lo (lo := 1) n_490099 rx_490096 rc_0 rfl (by decide)
          refine g_aload C 5 dX4_goOn_68 rfl ?_
          refine g_aload C 4 dX4_goOn_70 rfl ?_
          refine g_callVV C K (c_X1_become W9 hb_490076L hb_490076k hb_490075L hb_490075k  hU_490069) hb_490076L hb_490076k (by decide) rfl v_4_44 rfl ⟨rfl, rfl⟩ ⟨Nat.le_of_ble_eq_true rfl, Nat.le_of_ble_eq_true rfl⟩ (Nat.le_of_ble_eq_true rfl) ⟨Nat.le_of_ble_eq_true rfl, Nat.le_of_ble_eq_true rfl⟩ dX4_goOn_72 rfl (st := []) (fun I_490102 J_490103 h_490104 => ?_)
          obtain ⟨hUI_490102, hFI_490102, hGJ_490103⟩ := h_490104
          have hF_490105 := fq_tr hF_490070 hFI_490102 (by decide)
          have hG_490106 := fq_tr hG_490071 hGJ_490103 (by decide)
          refine g_aload C 5 dX4_goOn_75 rfl ?_
          refine g_iload C 6 dX4_goOn_77 rfl ?_
          refine g_callVV C K (c_X1_eatAll W9 hb_490076L hb_490076k v_490077 (r_490094) hUI_490102) hb_490076L hb_490076k (by decide) rfl v_4_58 rfl ⟨rfl, rfl⟩ ⟨Nat.le_of_ble_eq_true rfl, Nat.le_of_ble_eq_true rfl⟩ (Nat.le_of_ble_eq_true rfl) ⟨Nat.le_of_ble_eq_true rfl, Nat.le_of_ble_eq_true rfl⟩ dX4_goOn_79 rfl (st := []) (fun I_490108 J_490109 h_490110 => ?_)
          obtain ⟨hUI_490108, hFI_490108, hGJ_490109⟩ := h_490110
          have hF_490111 := fq_tr hF_490105 hFI_490108 (by decide)
          have hG_490112 := fq_tr hG_490106 hGJ_490109 (by decide)
          refine g_aload C 5 dX4_goOn_82 rfl ?_
          refine g_iload C 6 dX4_goOn_84 rfl ?_
          refine g_callVI C K (c_X1_tryToRise W9 hb_490076L hb_490076k v_490077 (r_490094) hUI_490108) hb_490076L hb_490076k (by decide) rfl v_4_62 rfl ⟨rfl, rfl⟩ ⟨Nat.le_of_ble_eq_true rfl, Nat.le_of_ble_eq_true rfl⟩ (Nat.le_of_ble_eq_true rfl) ⟨Nat.le_of_ble_eq_true rfl, Nat.le_of_ble_eq_true rfl⟩ dX4_goOn_86 rfl (st := []) (fun x_490113 I_490114 J_490115 h_490116 => ?_)
          obtain ⟨hUI_490114, hFI_490114, hGJ_490115, rx_490113⟩ := h_490116
          have hF_490117 := fq_tr hF_490111 hFI_490114 (by decide)
          have hG_490118 := fq_tr hG_490112 hGJ_490115 (by decide)
          refine g_pop C dX4_goOn_89 rfl ?_
          refine g_aload_n C 0 dX4_goOn_90 rfl rfl ?_
          refine g_getR C K hLx hkx f_4_17 hb_490051 dX4_goOn_91 ?_
          refine g_iload_n C 1 dX4_goOn_94 rfl rfl ?_
          refine g_iload C 6 dX4_goOn_95 rfl ?_
          refine h_iast C K hb_490051L hb_490051k (v_490072.toNatClampNeg) (rfl) (ix_0 rv_490072 (by decide)) (ix_lt rv_490072 (by decide) hb_490051n (by decide)) dX4_goOn_97 (fun I_490119 hI_490119 => ?_)
          have hU_490120 := iv_put W9 hUI_490114 hI_490119 (ro_a hb_490051k (by decide) hb_490051o hkx rfl) (lo := (-2147483648)) (hi := 2147483647) (rfl) (rg_all _) rfl
          have hF_490121 := fq_puta hF_490117 hI_490119 (ro_a hb_490051k (by decide) hb_490051o hkx rfl) (by decide) (by decide)
          refine g_iload_n C 2 dX4_goOn_98 rfl rfl ?_
          refine g_iconst C (v := 1) dX4_goOn_99 (by decide) ?_
          refine g_iload C 6 dX4_goOn_100 rfl ?_
          obtain ⟨x_490122, hx_490122, rx_490122⟩ := ex_shl (x := 1) (y := v_490077) 6 64 rfl (r_490094) (by decide)
          refine g_ishl C (v := x_490122) dX4_goOn_102 hx_490122 ?_
          refine g_iconst C (v := (-1)) dX4_goOn_103 (by decide) ?_
          obtain ⟨x_490123, hx_490123, rx_490123⟩ := ex_any (z0 := x_490122 ^^^ (-1))
          refine g_ixor C (v := x_490123) dX4_goOn_104 hx_490123 ?_
          obtain ⟨x_490124, hx_490124, rx_490124⟩ := ex_andl (x := v_490073) (y := x_490123) (b := 127) (rg_w rv_490073 (by decide) (by decide))
          refine g_iand C (v := x_490124) dX4_goOn_105 hx_490124 ?_
          refine g_istore C dX4_goOn_106 (by decide) (lo2 := [(7, .int x_490124), (0, .ref x), (1, .int v_490072), (2, .int v_490073), (3, .int v_490074), (4, .ref b_490075), (5, .ref b_490076), (6, .int v_490077)]) rfl ?_
          refine g_iload_n C 4 dX4_goOn_108 rfl rfl ?_
          refine g_aload C 6 dX4_goOn_109 rfl ?_
          refine g_iload C 7 dX4_goOn_111 rfl ?_
          refine g_callVI C K (c_X1_wantsYet W9 hb_490076L hb_490076k v_490077 (r_490094) hU_490120) hb_490076L hb_490076k (by decide) rfl v_4_65 rfl ⟨rfl, rfl⟩ ⟨Nat.le_of_ble_eq_true rfl, Nat.le_of_ble_eq_true rfl⟩ (Nat.le_of_ble_eq_true rfl) ⟨Nat.le_of_ble_eq_true rfl, Nat.le_of_ble_eq_true rfl⟩ dX4_goOn_113 rfl (st := [.int v_490074]) (fun x_490125 I_490126 J_490127 h_490128 => ?_)
          obtain ⟨rfl, rfl, rx_490125⟩ := h_490128
          obtain ⟨x_490129, hx_490129, rx_490129, tx_490129⟩ := ex_add (-2147483648) 2147483647 rv_490074 rx_490125 (by decide) (by decide) (by decide) (by decide)
          refine g_iadd C (v := x_490129) dX4_goOn_116 hx_490129 ?_
          refine g_istore C dX4_goOn_117 (by decide) (lo2 := [(8, .int x_490129), (7, .int x_490124), (0, .ref x), (1, .int v_490072), (2, .int v_490073), (3, .int v_490074), (4, .ref b_490075), (5, .ref b_490076), (6, .int v_490077)]) rfl ?_
          refine g_iload C 0 dX4_goOn_119 rfl ?_
          refine g_aload C 7 dX4_goOn_121 rfl ?_
          refine g_iload C 1 dX4_goOn_123 rfl ?_
          refine g_callSI C K (c_X4_atLeastWanted W9 hb_490076L hb_490076k x_490124 (rx_490124) hU_490120) s_4_68 rfl ⟨rfl, rfl⟩ ⟨Nat.le_of_ble_eq_true rfl, Nat.le_of_ble_eq_true rfl⟩ (Nat.le_of_ble_eq_true rfl) ⟨Nat.le_of_ble_eq_true rfl, Nat.le_of_ble_eq_true rfl⟩ dX4_goOn_125 rfl (st := [.int x_490129]) (fun x_490130 I_490131 J_490132 h_490133 => ?_)
          obtain ⟨rfl, rfl, rx_490130⟩ := h_490133
          obtain ⟨x_490134, hx_490134, rx_490134⟩ := ex_any (z0 := x_490129 + x_490130)
          refine g_iadd C (v := x_490134) dX4_goOn_128 hx_490134 ?_
          refine g_aload_n C 2 dX4_goOn_129 rfl rfl ?_
          obtain ⟨x_490135, hx_490135, rx_490135⟩ := ex_get (I := I_490119) (a := x) (j := 4) (lo := (-2147483648)) (hi := 2147483647) hU_490120.1 hLx (ro_o hkx (by decide)) rfl
          refine g_getI C K hLx hkx f_4_28 (v := x_490135) hx_490135 dX4_goOn_130 ?_
          refine g_icmp_ge C (tgt := 147) dX4_goOn_133 (by decide) (fun h_490136 => ?_) (fun h_490136 => ?_)
          · skip
            refine g_lo (is := [2, 3, 4, 5, 6, 7, 8]) (lo2 := [(0, .ref x), (1, .int v_490072), (2, .int v_490073), (3, .int v_490074), (4, .ref b_490075), (5, .ref b_490076), (6, .int v_490077)]) rfl ?_
            exact j_147 I_490119 J_490115 hU_490120 hF_490121 hG_490118 v_490072 (rv_490072) v_490073 (rv_490073) (nv_490073_0) v_490074 (rv_490074) hb_490075L hb_490075k hb_490076L hb_490076k v_490077 (r_490094) hm_490078
          · skip
            have r_490137 := lt_l (hi := 2147483646) (nle h_490136) rx_490134 rx_490135 (by decide)
            have r_490138 := lt_r (lo := (-2147483647)) (nle h_490136) rx_490134 rx_490135 (by decide)
            refine g_aload_n C 2 dX4_goOn_136 rfl rfl ?_
            refine g_iload_n C 3 dX4_goOn_137 rfl rfl ?_
            refine g_iconst C (v := 1) dX4_goOn_138 (by decide) ?_
            obtain ⟨x_490139, hx_490139, rx_490139, tx_490139⟩ := ex_add 1 1 rv_490072 rc_1 (by decide) (by decide) (by decide) (by decide)
            refine g_iadd C (v := x_490139) dX4_goOn_139 hx_490139 ?_
            refine g_iload C 1 dX4_goOn_140 rfl ?_
            refine g_iload C 0 dX4_goOn_142 rfl ?_
            refine g_callVV C K (c_X4_goOn_1 W9 hLx hkx x_490139 x_490124 x_490129 (rx_490139) (rx_490124) hU_490120) hLx hkx (by decide) rfl v_4_48 rfl ⟨rfl, rfl⟩ ⟨Nat.le_of_ble_eq_true rfl, Nat.le_of_ble_eq_true rfl⟩ (Nat.le_of_ble_eq_true rfl) ⟨Nat.le_of_ble_eq_true rfl, Nat.le_of_ble_eq_true rfl⟩ dX4_goOn_144 rfl (st := []) (fun I_490141 J_490142 h_490143 => ?_)
            obtain ⟨hUI_490141, hFI_490141, hGJ_490142⟩ := h_490143
            have hF_490144 := fq_tr hF_490121 hFI_490141 (by decide)
            have hG_490145 := fq_tr hG_490118 hGJ_490142 (by decide)
            refine g_lo (is := [2, 3, 4, 5, 6, 7, 8]) (lo2 := [(0, .ref x), (1, .int v_490072), (2, .int v_490073), (3, .int v_490074), (4, .ref b_490075), (5, .ref b_490076), (6, .int v_490077)]) rfl ?_
            exact j_147 I_490141 J_490142 hUI_490141 hF_490144 hG_490145 v_490072 (rv_490072) v_490073 (rv_490073) (nv_490073_0) v_490074 (rv_490074) hb_490075L hb_490075k hb_490076L hb_490076k v_490077 (r_490094) hm_490078
  refine g_iload_n C 2 dX4_goOn_0 rfl rfl ?_
  refine g_if_eq C (tgt := 10) dX4_goOn_1 (by decide) (fun h_490146 => ?_) (fun h_490146 => ?_)
  · skip
    have r_490147 := (⟨(ra1).1, (eq_rg (h_490146) rc_0).2⟩ : Rg 0 0 a1)
    refine g_lo (is := [0, 1, 2, 3]) (lo2 := [(0, .ref x), (1, .int a0), (2, .int a1), (3, .int a2)]) rfl ?_
    exact j_10 I J hU hF hG a0 (ra0) a1 (r_490147) a2 (ra2)
  · skip
    have n_490148 : ¬ a1 = 0 := h_490146
    have r_490149 := ne_lo (lo := 1) n_490148 ra1 rc_0 rfl (by decide)
    refine g_iload_n C 1 dX4_goOn_4 rfl rfl ?_
    refine g_bipush C (v := 7) dX4_goOn_5 (by decide) ?_
    refine g_icmp_lt C (tgt := 31) dX4_goOn_7 (by decide) (fun h_490150 => ?_) (fun h_490150 => ?_)
    · skip
      refine g_aload_n C 0 dX4_goOn_31 rfl rfl ?_
      refine g_getR C K hLx hkx f_4_11 hb_490050 dX4_goOn_32 ?_
      refine g_iload_n C 1 dX4_goOn_35 rfl rfl ?_
      obtain ⟨b_490151, hb_490151, hb_490151L, hb_490151k⟩ := (W9 b_490050 hb_490050L).2.1 hb_490050k (a0.toNatClampNeg) (ix_lt ra0 (by decide) hb_490050n (by decide))
      refine h_aaldC C K hb_490050L hb_490050k (a0.toNatClampNeg) (rfl) (ix_0 ra0 (by decide)) (ix_lt ra0 (by decide) hb_490050n (by decide)) hb_490151 dX4_goOn_36 ?_
      refine g_astore C dX4_goOn_37 (by decide) (lo2 := [(4, .ref b_490151), (0, .ref x), (1, .int a0), (2, .int a1), (3, .int a2)]) rfl ?_
      refine g_aload_n C 1 dX4_goOn_39 rfl rfl ?_
      refine g_getR C K hLx hkx f_4_11 hb_490050 dX4_goOn_40 ?_
      refine g_iload_n C 2 dX4_goOn_43 rfl rfl ?_
      refine g_iconst C (v := 1) dX4_goOn_44 (by decide) ?_
      obtain ⟨x_490152, hx_490152, rx_490152, tx_490152⟩ := ex_add 1 1 ra0 rc_1 (by decide) (by decide) (by decide) (by decide)
      refine g_iadd C (v := x_490152) dX4_goOn_45 hx_490152 ?_
      obtain ⟨b_490153, hb_490153, hb_490153L, hb_490153k⟩ := (W9 b_490050 hb_490050L).2.1 hb_490050k (x_490152.toNatClampNeg) (ix_lt rx_490152 (by decide) hb_490050n (by decide))
      refine h_aaldC C K hb_490050L hb_490050k (x_490152.toNatClampNeg) (rfl) (ix_0 rx_490152 (by decide)) (ix_lt rx_490152 (by decide) hb_490050n (by decide)) hb_490153 dX4_goOn_46 ?_
      refine g_astore C dX4_goOn_47 (by decide) (lo2 := [(5, .ref b_490153), (4, .ref b_490151), (0, .ref x), (1, .int a0), (2, .int a1), (3, .int a2)]) rfl ?_
      refine g_iconst C (v := 0) dX4_goOn_49 (by decide) ?_
      refine g_istore C dX4_goOn_50 (by decide) (lo2 := [(6, .int 0), (5, .ref b_490153), (4, .ref b_490151), (0, .ref x), (1, .int a0), (2, .int a1), (3, .int a2)]) rfl ?_
      refine g_lo (is := [3, 4, 5, 6, 2, 1, 0]) (lo2 := [(0, .ref x), (1, .int a0), (2, .int a1), (3, .int a2), (4, .ref b_490151), (5, .ref b_490153), (6, .int 0)]) rfl ?_
      exact l_52 8 I J hU hF hG a0 (ra0) a1 (r_490149) (n_490148) a2 (ra2) hb_490151L hb_490151k hb_490153L hb_490153k 0 (rg_w rc_0 (by decide) (by decide)) (ms_s (a := 0) (b := 7) (N := 8) (rg_w rc_0 (by decide) (by decide)) (by decide))
    · skip
      have r_490154 := le_r (nlt h_490150) rc_7 ra0
      exact rg_no r_490154 (by decide)
set_option maxRecDepth 100000 in
set_option maxHeartbeats 8000000 in
theorem c_X4_findFrom {l : Launch} {D : va_G} {cy : Nat → ClassId} {L : List Nat} {κ ln : Nat → Nat} {R : Nat → Nat → Option Nat} {I : Nat → Nat → Int32} {J : Nat → Nat → Int64} {ow : Nat → Nat × Nat} (W9 : ∀ a ∈ L, Shp L κ ln R ow a) {x : Nat} (hLx : x ∈ L) (hkx : κ x = 4) {a0 : Nat} (hLa0 : a0 ∈ L) (hka0 : κ a0 = 1) (hU : Iv L κ R ow I) : CtI l yX4_findFrom cX4_findFrom 2 (some .int) { frames := 11, cells := 0, slots := 0, locals := 303 } D cy L κ ln R I J [.ref x, .ref a0] (fun r I2 J2 => Iv L κ R ow I2 ∧ Fq L κ ow [107, 108, 109, 110, 111, 112, 403, 404, 16100, 16200, 16300, 16400, 16500, 16600, 34100, 34200] I I2 ∧ Fq L κ ow [] J J2 ∧ Rg (-2147483648) 2147483647 r) := by
  refine CtI.of (by decide +kernel) (Nat.le_of_ble_eq_true rfl) ?_
  intro p e s m below meth c B K
  have C := B.1
  have hF : Fq L κ ow [107, 108, 109, 110, 111, 112, 403, 404, 16100, 16200, 16300, 16400, 16500, 16600, 34100, 34200] I I := fq_rf
  have hG : Fq L κ ow [] J J := fq_rf
  obtain ⟨b_490223, hb_490223, hb_490223L, hb_490223k, hb_490223n, hb_490223o⟩ := shp_a (W9 x hLx) hkx 0 17 8 rfl (by decide)
  refine g_lo (is := [0, 1]) (lo2 := [(0, .ref x), (1, .ref a0)]) rfl ?_
  refine g_aload_n C 0 dX4_findFrom_0 rfl rfl ?_
  refine g_aload_n C 1 dX4_findFrom_1 rfl rfl ?_
  refine g_callVI C K (c_X1_living W9 hLa0 hka0   hU) hLa0 hka0 (by decide) rfl v_4_34 rfl ⟨rfl, rfl⟩ ⟨Nat.le_of_ble_eq_true rfl, Nat.le_of_ble_eq_true rfl⟩ (Nat.le_of_ble_eq_true rfl) ⟨Nat.le_of_ble_eq_true rfl, Nat.le_of_ble_eq_true rfl⟩ dX4_findFrom_2 rfl (st := [.ref x]) (fun x_490224 I_490225 J_490226 h_490227 => ?_)
  obtain ⟨rfl, rfl, rx_490224⟩ := h_490227
  refine g_callSI C K (c_J6_bitCount_0f7a4 W9 x_490224  hU) s_4_38 rfl ⟨rfl, rfl⟩ ⟨Nat.le_of_ble_eq_true rfl, Nat.le_of_ble_eq_true rfl⟩ (Nat.le_of_ble_eq_true rfl) ⟨Nat.le_of_ble_eq_true rfl, Nat.le_of_ble_eq_true rfl⟩ dX4_findFrom_5 rfl (st := [.ref x]) (fun x_490228 I_490229 J_490230 h_490231 => ?_)
  obtain ⟨rfl, rfl, rx_490228, ex_490228⟩ := h_490231
  have r_490232 := bc_7 (rx_490224) ex_490228
  refine h_putI C K hLx hkx f_4_24 p_4_3 dX4_findFrom_8 (fun I_490233 hI_490233 => ?_)
  have hU_490234 := iv_put W9 hU hI_490233 (ro_o hkx (by decide)) (lo := 0) (hi := 7) (rfl) (r_490232) rfl
  have hF_490235 := fq_puto hF hI_490233 hkx (by decide) (by decide)
  refine g_aload_n C 0 dX4_findFrom_11 rfl rfl ?_
  refine g_sipush C (v := 1000) dX4_findFrom_12 (by decide) ?_
  refine h_putI C K hLx hkx f_4_28 p_4_4 dX4_findFrom_15 (fun I_490236 hI_490236 => ?_)
  have hU_490237 := iv_put W9 hU_490234 hI_490236 (ro_o hkx (by decide)) (lo := (-2147483648)) (hi := 2147483647) (rfl) (rg_all _) rfl
  have hF_490238 := fq_puto hF_490235 hI_490236 hkx (by decide) (by decide)
  refine g_aload_n C 0 dX4_findFrom_18 rfl rfl ?_
  refine g_getR C K hLx hkx f_4_11 hb_490223 dX4_findFrom_19 ?_
  refine g_iconst C (v := 0) dX4_findFrom_22 (by decide) ?_
  obtain ⟨b_490239, hb_490239, hb_490239L, hb_490239k⟩ := (W9 b_490223 hb_490223L).2.1 hb_490223k (0) (by rw [hb_490223n]; decide)
  refine h_aaldC C K hb_490223L hb_490223k (0) (by decide) (by decide) (by rw [hb_490223n]; decide) hb_490239 dX4_findFrom_23 ?_
  refine g_aload_n C 1 dX4_findFrom_24 rfl rfl ?_
  refine g_callVV C K (c_X1_become W9 hb_490239L hb_490239k hLa0 hka0  hU_490237) hb_490239L hb_490239k (by decide) rfl v_4_44 rfl ⟨rfl, rfl⟩ ⟨Nat.le_of_ble_eq_true rfl, Nat.le_of_ble_eq_true rfl⟩ (Nat.le_of_ble_eq_true rfl) ⟨Nat.le_of_ble_eq_true rfl, Nat.le_of_ble_eq_true rfl⟩ dX4_findFrom_25 rfl (st := []) (fun I_490241 J_490242 h_490243 => ?_)
  obtain ⟨hUI_490241, hFI_490241, hGJ_490242⟩ := h_490243
  have hF_490244 := fq_tr hF_490238 hFI_490241 (by decide)
  have hG_490245 := fq_tr hG hGJ_490242 (by decide)
  refine g_aload_n C 0 dX4_findFrom_28 rfl rfl ?_
  refine g_iconst C (v := 0) dX4_findFrom_29 (by decide) ?_
  refine g_aload_n C 1 dX4_findFrom_30 rfl rfl ?_
  refine g_callVI C K (c_X1_living W9 hLa0 hka0   hUI_490241) hLa0 hka0 (by decide) rfl v_4_34 rfl ⟨rfl, rfl⟩ ⟨Nat.le_of_ble_eq_true rfl, Nat.le_of_ble_eq_true rfl⟩ (Nat.le_of_ble_eq_true rfl) ⟨Nat.le_of_ble_eq_true rfl, Nat.le_of_ble_eq_true rfl⟩ dX4_findFrom_31 rfl (st := [.int 0, .ref x]) (fun x_490246 I_490247 J_490248 h_490249 => ?_)
  obtain ⟨rfl, rfl, rx_490246⟩ := h_490249
  refine g_iconst C (v := 0) dX4_findFrom_34 (by decide) ?_
  refine g_callVV C K (c_X4_goOn_0 W9 hLx hkx 0 x_490246 0 (rc_0) (rx_490246) (rc_0) hUI_490241) hLx hkx (by decide) rfl v_4_48 rfl ⟨rfl, rfl⟩ ⟨Nat.le_of_ble_eq_true rfl, Nat.le_of_ble_eq_true rfl⟩ (Nat.le_of_ble_eq_true rfl) ⟨Nat.le_of_ble_eq_true rfl, Nat.le_of_ble_eq_true rfl⟩ dX4_findFrom_35 rfl (st := []) (fun I_490251 J_490252 h_490253 => ?_)
  obtain ⟨hUI_490251, hFI_490251, hGJ_490252⟩ := h_490253
  have hF_490254 := fq_tr hF_490244 hFI_490251 (by decide)
  have hG_490255 := fq_tr hG_490245 hGJ_490252 (by decide)
  refine g_aload_n C 0 dX4_findFrom_38 rfl rfl ?_
  obtain ⟨x_490256, hx_490256, rx_490256⟩ := ex_get (I := I_490251) (a := x) (j := 4) (lo := (-2147483648)) (hi := 2147483647) hUI_490251.1 hLx (ro_o hkx (by decide)) rfl
  refine g_getI C K hLx hkx f_4_28 (v := x_490256) hx_490256 dX4_findFrom_39 ?_
  exact g_zret (ty := .int) (r := x_490256) B K rfl (rfl) ⟨hUI_490251, hF_490254, hG_490255, rx_490256⟩ dX4_findFrom_42
set_option maxRecDepth 100000 in
set_option maxHeartbeats 8000000 in
theorem c_X11_order {l : Launch} {D : va_G} {cy : Nat → ClassId} {L : List Nat} {κ ln : Nat → Nat} {R : Nat → Nat → Option Nat} {I : Nat → Nat → Int32} {J : Nat → Nat → Int64} {ow : Nat → Nat × Nat} (W9 : ∀ a ∈ L, Shp L κ ln R ow a) {x : Nat} (hLx : x ∈ L) (hkx : κ x = 11) (hU : Iv L κ R ow I) : CtI l yX11_order cX11_order 1 (some .int) { frames := 12, cells := 0, slots := 0, locals := 324 } D cy L κ ln R I J [.ref x] (fun r I2 J2 => Iv L κ R ow I2 ∧ Fq L κ ow [107, 108, 109, 110, 111, 112, 403, 404, 16100, 16200, 16300, 16400, 16500, 16600, 34100, 34200] I I2 ∧ Fq L κ ow [] J J2 ∧ Rg (-2147483648) 2147483647 r) := by
  refine CtI.of (by decide +kernel) (Nat.le_of_ble_eq_true rfl) ?_
  intro p e s m below meth c B K
  have C := B.1
  have hF : Fq L κ ow [107, 108, 109, 110, 111, 112, 403, 404, 16100, 16200, 16300, 16400, 16500, 16600, 34100, 34200] I I := fq_rf
  have hG : Fq L κ ow [] J J := fq_rf
  obtain ⟨b_490273, hb_490273, hb_490273L, hb_490273k⟩ := shp_o (W9 x hLx) hkx 2 1 rfl (by decide)
  obtain ⟨b_490274, hb_490274, hb_490274L, hb_490274k⟩ := shp_o (W9 x hLx) hkx 9 4 rfl (by decide)
  refine g_lo (is := [0]) (lo2 := [(0, .ref x)]) rfl ?_
  refine g_aload_n C 0 dX11_order_0 rfl rfl ?_
  refine g_getR C K hLx hkx f_11_69 hb_490274 dX11_order_1 ?_
  refine g_aload_n C 0 dX11_order_4 rfl rfl ?_
  refine g_getR C K hLx hkx f_11_28 hb_490273 dX11_order_5 ?_
  refine g_callVI C K (c_X4_findFrom W9 hb_490274L hb_490274k hb_490273L hb_490273k  hU) hb_490274L hb_490274k (by decide) rfl v_11_266 rfl ⟨rfl, rfl⟩ ⟨Nat.le_of_ble_eq_true rfl, Nat.le_of_ble_eq_true rfl⟩ (Nat.le_of_ble_eq_true rfl) ⟨Nat.le_of_ble_eq_true rfl, Nat.le_of_ble_eq_true rfl⟩ dX11_order_8 rfl (st := []) (fun x_490275 I_490276 J_490277 h_490278 => ?_)
  obtain ⟨hUI_490276, hFI_490276, hGJ_490277, rx_490275⟩ := h_490278
  have hF_490279 := fq_tr hF hFI_490276 (by decide)
  have hG_490280 := fq_tr hG hGJ_490277 (by decide)
  exact g_zret (ty := .int) (r := x_490275) B K rfl (rfl) ⟨hUI_490276, hF_490279, hG_490280, rx_490275⟩ dX11_order_11
set_option maxRecDepth 100000 in
set_option maxHeartbeats 8000000 in
theorem c_X11_orderAt {l : Launch} {D : va_G} {cy : Nat → ClassId} {L : List Nat} {κ ln : Nat → Nat} {R : Nat → Nat → Option Nat} {I : Nat → Nat → Int32} {J : Nat → Nat → Int64} {ow : Nat → Nat × Nat} (W9 : ∀ a ∈ L, Shp L κ ln R ow a) {x : Nat} (hLx : x ∈ L) (hkx : κ x = 11) (a0 : Int32) (hU : Iv L κ R ow I) : CtI l yX11_orderAt cX11_orderAt 2 (some .int) { frames := 0, cells := 0, slots := 0, locals := 0 } D cy L κ ln R I J [.ref x, .int a0] (fun r I2 J2 => I = I2 ∧ J = J2 ∧ Rg (-2147483648) 2147483647 r) := by
  refine CtI.of (by decide +kernel) (Nat.le_of_ble_eq_true rfl) ?_
  intro p e s m below meth c B K
  have C := B.1
  obtain ⟨b_490301, hb_490301, hb_490301L, hb_490301k⟩ := shp_o (W9 x hLx) hkx 9 4 rfl (by decide)
  obtain ⟨b_490302, hb_490302, hb_490302L, hb_490302k, hb_490302n, hb_490302o⟩ := shp_a (W9 b_490301 hb_490301L) hb_490301k 2 14 7 rfl (by decide)
  refine g_lo (is := [0, 1]) (lo2 := [(0, .ref x), (1, .int a0)]) rfl ?_
  refine g_iload_n C 1 dX11_orderAt_0 rfl rfl ?_
  refine g_if_lt C (tgt := 27) dX11_orderAt_1 (by decide) (fun h_490303 => ?_) (fun h_490303 => ?_)
  · skip
    have r_490304 := lt_l (hi := (-1)) (h_490303) (rg_all a0) rc_0 (by decide)
    refine g_iconst C (v := (-1)) dX11_orderAt_27 (by decide) ?_
    exact g_zret (ty := .int) (r := (-1)) B K rfl (rfl) ⟨rfl, rfl, rg_all _⟩ dX11_orderAt_28
  · skip
    have r_490305 := le_r (nlt h_490303) rc_0 (rg_all a0)
    refine g_iload_n C 1 dX11_orderAt_4 rfl rfl ?_
    refine g_aload_n C 0 dX11_orderAt_5 rfl rfl ?_
    refine g_getR C K hLx hkx f_11_69 hb_490301 dX11_orderAt_6 ?_
    obtain ⟨x_490306, hx_490306, rx_490306⟩ := ex_get (I := I) (a := b_490301) (j := 3) (lo := 0) (hi := 7) hU.1 hb_490301L (ro_o hb_490301k (by decide)) rfl
    refine g_getI C K hb_490301L hb_490301k f_11_269 (v := x_490306) hx_490306 dX11_orderAt_9 ?_
    refine g_icmp_ge C (tgt := 27) dX11_orderAt_12 (by decide) (fun h_490307 => ?_) (fun h_490307 => ?_)
    · skip
      refine g_iconst C (v := (-1)) dX11_orderAt_27 (by decide) ?_
      exact g_zret (ty := .int) (r := (-1)) B K rfl (rfl) ⟨rfl, rfl, rg_all _⟩ dX11_orderAt_28
    · skip
      have r_490308 := lt_l (hi := 6) (nle h_490307) r_490305 rx_490306 (by decide)
      have r_490309 := lt_r (lo := 1) (nle h_490307) r_490305 rx_490306 (by decide)
      refine g_aload_n C 0 dX11_orderAt_15 rfl rfl ?_
      refine g_getR C K hLx hkx f_11_69 hb_490301 dX11_orderAt_16 ?_
      refine g_getR C K hb_490301L hb_490301k f_11_272 hb_490302 dX11_orderAt_19 ?_
      refine g_iload_n C 1 dX11_orderAt_22 rfl rfl ?_
      obtain ⟨x_490310, hx_490310, rx_490310⟩ := ex_get (I := I) (a := b_490302) (j := a0.toNatClampNeg) (lo := (-2147483648)) (hi := 2147483647) hU.1 hb_490302L (ro_a hb_490302k (by decide) hb_490302o hb_490301k rfl) (rfl)
      refine h_iald C K hb_490302L hb_490302k (v := x_490310) (a0.toNatClampNeg) (rfl) (ix_0 r_490308 (by decide)) (ix_lt r_490308 (by decide) hb_490302n (by decide)) hx_490310 dX11_orderAt_23 ?_
      refine g_goto C (tgt := 28) dX11_orderAt_24 (by decide) ?_
      exact g_zret (ty := .int) (r := x_490310) B K rfl (rfl) ⟨rfl, rfl, rx_490310⟩ dX11_orderAt_28
set_option maxRecDepth 100000 in
set_option maxHeartbeats 8000000 in
theorem c_X10_byteOf {l : Launch} {D : va_G} {cy : Nat → ClassId} {L : List Nat} {κ ln : Nat → Nat} {R : Nat → Nat → Option Nat} {I : Nat → Nat → Int32} {J : Nat → Nat → Int64} {ow : Nat → Nat × Nat} (W9 : ∀ a ∈ L, Shp L κ ln R ow a) {x : Nat} (hLx : x ∈ L) (hkx : κ x = 10) (a0 : Int32) (ra0 : Rg 0 939 a0) (hU : Iv L κ R ow I) : CtI l yX10_byteOf cX10_byteOf 2 (some .int) { frames := 0, cells := 0, slots := 0, locals := 0 } D cy L κ ln R I J [.ref x, .int a0] (fun r I2 J2 => I = I2 ∧ J = J2 ∧ Rg (-1) 255 r) := by
  refine CtI.of (by decide +kernel) (Nat.le_of_ble_eq_true rfl) ?_
  intro p e s m below meth c B K
  have C := B.1
  obtain ⟨b_490333, hb_490333, hb_490333L, hb_490333k, hb_490333n, hb_490333o⟩ := shp_a (W9 x hLx) hkx 0 13 940 rfl (by decide)
  refine g_lo (is := [0, 1]) (lo2 := [(0, .ref x), (1, .int a0)]) rfl ?_
  refine g_iload_n C 1 dX10_byteOf_0 rfl rfl ?_
  refine g_if_lt C (tgt := 34) dX10_byteOf_1 (by decide) (fun h_490334 => ?_) (fun h_490334 => ?_)
  · skip
    have r_490335 := lt_l (hi := (-1)) (h_490334) ra0 rc_0 (by decide)
    exact rg_no r_490335 (by decide)
  · skip
    refine g_iload_n C 1 dX10_byteOf_4 rfl rfl ?_
    refine g_aload_n C 0 dX10_byteOf_5 rfl rfl ?_
    obtain ⟨x_490336, hx_490336, rx_490336⟩ := ex_get (I := I) (a := x) (j := 5) (lo := 0) (hi := 940) hU.1 hLx (ro_o hkx (by decide)) rfl
    refine g_getI C K hLx hkx f_10_29 (v := x_490336) hx_490336 dX10_byteOf_6 ?_
    refine g_icmp_ge C (tgt := 34) dX10_byteOf_9 (by decide) (fun h_490337 => ?_) (fun h_490337 => ?_)
    · skip
      have r_490338 := le_l (h_490337) rx_490336 ra0
      refine g_iconst C (v := (-1)) dX10_byteOf_34 (by decide) ?_
      exact g_zret (ty := .int) (r := (-1)) B K rfl (rfl) ⟨rfl, rfl, rg_w rc_m1 (by decide) (by decide)⟩ dX10_byteOf_35
    · skip
      have r_490339 := lt_r (lo := 1) (nle h_490337) ra0 rx_490336 (by decide)
      refine g_iload_n C 1 dX10_byteOf_12 rfl rfl ?_
      refine g_aload_n C 0 dX10_byteOf_13 rfl rfl ?_
      refine g_getR C K hLx hkx f_10_9 hb_490333 dX10_byteOf_14 ?_
      refine g_alenB C K hb_490333L hb_490333k (v := 940) (by rw [hb_490333n]; rfl) dX10_byteOf_17 ?_
      refine g_icmp_ge C (tgt := 34) dX10_byteOf_18 (by decide) (fun h_490340 => ?_) (fun h_490340 => ?_)
      · skip
        have r_490341 := le_r (h_490340) rc_940 ra0
        exact rg_no r_490341 (by decide)
      · skip
        refine g_aload_n C 0 dX10_byteOf_21 rfl rfl ?_
        refine g_getR C K hLx hkx f_10_9 hb_490333 dX10_byteOf_22 ?_
        refine g_iload_n C 1 dX10_byteOf_25 rfl rfl ?_
        obtain ⟨x_490342, hx_490342, rx_490342⟩ := ex_get (I := I) (a := b_490333) (j := a0.toNatClampNeg) (lo := (-128)) (hi := 127) hU.1 hb_490333L (ro_a hb_490333k (by decide) hb_490333o hkx rfl) (rfl)
        refine h_bald C K hb_490333L hb_490333k (v := x_490342) (a0.toNatClampNeg) (rfl) (ix_0 ra0 (by decide)) (ix_lt ra0 (by decide) hb_490333n (by decide)) hx_490342 dX10_byteOf_26 ?_
        refine g_sipush C (v := 255) dX10_byteOf_27 (by decide) ?_
        obtain ⟨x_490343, hx_490343, rx_490343⟩ := ex_andr (x := x_490342) (y := 255) (b := 255) (rg_w rc_255 (by decide) (by decide))
        refine g_iand C (v := x_490343) dX10_byteOf_30 hx_490343 ?_
        refine g_goto C (tgt := 35) dX10_byteOf_31 (by decide) ?_
        exact g_zret (ty := .int) (r := x_490343) B K rfl (rfl) ⟨rfl, rfl, rg_w rx_490343 (by decide) (by decide)⟩ dX10_byteOf_35
set_option maxRecDepth 100000 in
set_option maxHeartbeats 8000000 in
theorem c_X2_countIn {l : Launch} {D : va_G} {cy : Nat → ClassId} {L : List Nat} {κ ln : Nat → Nat} {R : Nat → Nat → Option Nat} {I : Nat → Nat → Int32} {J : Nat → Nat → Int64} {ow : Nat → Nat × Nat} (W9 : ∀ a ∈ L, Shp L κ ln R ow a) {x : Nat} (hLx : x ∈ L) (hkx : κ x = 2) (a0 : Int32) (ra0 : Rg 0 127 a0) (hU : Iv L κ R ow I) : CtV l yX2_countIn cX2_countIn 3 none { frames := 0, cells := 0, slots := 0, locals := 0 } D cy L κ ln R I J [.ref x, .int a0] (fun I2 J2 => Iv L κ R ow I2 ∧ Fq L κ ow [22000] I I2 ∧ Fq L κ ow [] J J2) := by
  refine CtV.of (by decide +kernel) (Nat.le_of_ble_eq_true rfl) ?_
  intro p e s m below meth c B K
  have C := B.1
  have hF : Fq L κ ow [22000] I I := fq_rf
  have hG : Fq L κ ow [] J J := fq_rf
  obtain ⟨b_490435, hb_490435, hb_490435L, hb_490435k, hb_490435n, hb_490435o⟩ := shp_a (W9 x hLx) hkx 0 14 7 rfl (by decide)
  refine g_lo (is := [0, 1]) (lo2 := [(0, .ref x), (1, .int a0)]) rfl ?_
  have l_2 : ∀ (n_2 : Nat) (I_490436 : Nat → Nat → Int32) (J_490437 : Nat → Nat → Int64) (hU_490438 : Iv L κ R ow I_490436) (hF_490439 : Fq L κ ow [22000] I I_490436) (hG_490440 : Fq L κ ow [] J J_490437) (v_490441 : Int32) (rv_490441 : Rg 0 127 v_490441) (v_490442 : Int32) (rv_490442 : Rg 0 7 v_490442) (hm_490443 : 7 < (v_490442 : Int32).toInt + (n_2 : Int)), WG p l e { frames := 0, cells := 0, slots := 0, locals := 0 } s m ([.ref x, .int a0] : List Value).toArray below meth c 3 0 0 (MQ below (Qv_ D cy L κ ln R (fun I2 J2 => Iv L κ R ow I2 ∧ Fq L κ ow [22000] I I2 ∧ Fq L κ ow [] J J2)) ([.ref x, .int a0] : List Value).toArray s 0 0 (Al_ L)) D cy (Al_ L) s.heap L κ ln R I_490436 J_490437 2 [(0, .ref x), (1, .int v_490441), (2, .int v_490442)] [] := by
    intro n_2
    induction n_2 with
    | zero =>
      intro I_490436 J_490437 hU_490438 hF_490439 hG_490440 v_490441 rv_490441 v_490442 rv_490442 hm_490443
      exact ms_0 rv_490442 hm_490443
    | succ n_2 ih_2 =>
      intro I_490436 J_490437 hU_490438 hF_490439 hG_490440 v_490441 rv_490441 v_490442 rv_490442 hm_490443
      refine g_iload_n C 2 dX2_countIn_2 rfl rfl ?_
      refine g_bipush C (v := 7) dX2_countIn_3 (by decide) ?_
      refine g_icmp_ge C (tgt := 28) dX2_countIn_5 (by decide) (fun h_490444 => ?_) (fun h_490444 => ?_)
      · skip
        have r_490445 := le_r (h_490444) rc_7 rv_490442
        exact g_vret B K rfl ⟨hU_490438, hF_490439, hG_490440⟩ dX2_countIn_28
      · skip
        have r_490446 := lt_l (hi := 6) (nle h_490444) rv_490442 rc_7 (by decide)
        refine g_aload_n C 0 dX2_countIn_8 rfl rfl ?_
        refine g_getR C K hLx hkx f_2_9 hb_490435 dX2_countIn_9 ?_
        refine g_iload_n C 2 dX2_countIn_12 rfl rfl ?_
        refine g_dup2 C dX2_countIn_13 rfl rfl ?_
        obtain ⟨x_490447, hx_490447, rx_490447⟩ := ex_get (I := I_490436) (a := b_490435) (j := v_490442.toNatClampNeg) (lo := (-2147483648)) (hi := 2147483647) hU_490438.1 hb_490435L (ro_a hb_490435k (by decide) hb_490435o hkx rfl) (rfl)
        refine h_iald C K hb_490435L hb_490435k (v := x_490447) (v_490442.toNatClampNeg) (rfl) (ix_0 r_490446 (by decide)) (ix_lt r_490446 (by decide) hb_490435n (by decide)) hx_490447 dX2_countIn_14 ?_
        refine g_iload_n C 1 dX2_countIn_15 rfl rfl ?_
        refine g_iload_n C 2 dX2_countIn_16 rfl rfl ?_
        obtain ⟨x_490448, hx_490448, rx_490448⟩ := ex_shr (x := v_490441) (y := v_490442) (b := 127) (rv_490441)
        refine g_ishr C (v := x_490448) dX2_countIn_17 hx_490448 ?_
        refine g_iconst C (v := 1) dX2_countIn_18 (by decide) ?_
        obtain ⟨x_490449, hx_490449, rx_490449⟩ := ex_andr (x := x_490448) (y := 1) (b := 1) (rg_w rc_1 (by decide) (by decide))
        refine g_iand C (v := x_490449) dX2_countIn_19 hx_490449 ?_
        obtain ⟨x_490450, hx_490450, rx_490450⟩ := ex_any (z0 := x_490447 + x_490449)
        refine g_iadd C (v := x_490450) dX2_countIn_20 hx_490450 ?_
        refine h_iast C K hb_490435L hb_490435k (v_490442.toNatClampNeg) (rfl) (ix_0 r_490446 (by decide)) (ix_lt r_490446 (by decide) hb_490435n (by decide)) dX2_countIn_21 (fun I_490451 hI_490451 => ?_)
        have hU_490452 := iv_put W9 hU_490438 hI_490451 (ro_a hb_490435k (by decide) hb_490435o hkx rfl) (lo := (-2147483648)) (hi := 2147483647) (rfl) (rx_490450) rfl
        have hF_490453 := fq_puta hF_490439 hI_490451 (ro_a hb_490435k (by decide) hb_490435o hkx rfl) (by decide) (by decide)
        obtain ⟨x_490454, hx_490454, rx_490454, tx_490454⟩ := ex_add (y := 1) 1 7 r_490446 rc_1 (by decide) (by decide) (by decide) (by decide)
        refine g_iinc C dX2_countIn_22 (k := 2) (v := x_490454) rfl hx_490454 (by decide) (lo2 := [(2, .int x_490454), (0, .ref x), (1, .int v_490441)]) rfl ?_
        refine g_goto C (tgt := 2) dX2_countIn_25 (by decide) ?_
        refine g_lo (is := [1, 2, 0]) (lo2 := [(0, .ref x), (1, .int v_490441), (2, .int x_490454)]) rfl ?_
        exact ih_2 I_490451 J_490437 hU_490452 hF_490453 hG_490440 v_490441 (rv_490441) x_490454 (rg_w rx_490454 (by decide) (by decide)) (ms_1 hm_490443 (ti_k tx_490454 rc_1) (by decide))
  refine g_iconst C (v := 0) dX2_countIn_0 (by decide) ?_
  refine g_istore_n C dX2_countIn_1 rfl (by decide) (lo2 := [(2, .int 0), (0, .ref x), (1, .int a0)]) rfl ?_
  refine g_lo (is := [1, 2, 0]) (lo2 := [(0, .ref x), (1, .int a0), (2, .int 0)]) rfl ?_
  exact l_2 8 I J hU hF hG a0 (ra0) 0 (rg_w rc_0 (by decide) (by decide)) (ms_s (a := 0) (b := 7) (N := 8) (rg_w rc_0 (by decide) (by decide)) (by decide))
set_option maxRecDepth 100000 in
set_option maxHeartbeats 8000000 in
theorem c_X2_nearestToHalf {l : Launch} {D : va_G} {cy : Nat → ClassId} {L : List Nat} {κ ln : Nat → Nat} {R : Nat → Nat → Option Nat} {I : Nat → Nat → Int32} {J : Nat → Nat → Int64} {ow : Nat → Nat × Nat} (W9 : ∀ a ∈ L, Shp L κ ln R ow a) {x : Nat} (hLx : x ∈ L) (hkx : κ x = 2) (a0 : Int32) (a1 : Int32) (ra0 : Rg 0 7 a0) (ra1 : Rg 1 2147483647 a1) (hU : Iv L κ R ow I) : CtI l yX2_nearestToHalf cX2_nearestToHalf 7 (some .int) { frames := 1, cells := 0, slots := 0, locals := 60 } D cy L κ ln R I J [.ref x, .int a0, .int a1] (fun r I2 J2 => I = I2 ∧ J = J2 ∧ Rg (-1) 6 r) := by
  refine CtI.of (by decide +kernel) (Nat.le_of_ble_eq_true rfl) ?_
  intro p e s m below meth c B K
  have C := B.1
  obtain ⟨b_490553, hb_490553, hb_490553L, hb_490553k, hb_490553n, hb_490553o⟩ := shp_a (W9 x hLx) hkx 0 14 7 rfl (by decide)
  refine g_lo (is := [0, 1, 2]) (lo2 := [(0, .ref x), (1, .int a0), (2, .int a1)]) rfl ?_
  have l_10 : ∀ (n_10 : Nat) (v_490554 : Int32) (rv_490554 : Rg 0 7 v_490554) (v_490555 : Int32) (rv_490555 : Rg 1 2147483647 v_490555) (v_490556 : Int32) (rv_490556 : Rg (-1) 6 v_490556) (v_490557 : Int32) (rv_490557 : Rg (-2147483648) 1000 v_490557) (v_490558 : Int32) (rv_490558 : Rg 0 7 v_490558) (hm_490559 : 7 < (v_490558 : Int32).toInt + (n_10 : Int)), WG p l e { frames := 1, cells := 0, slots := 0, locals := 60 } s m ([.ref x, .int a0, .int a1] : List Value).toArray below meth c 7 0 0 (MQ below (Qi_ D cy L κ ln R (fun r I2 J2 => I = I2 ∧ J = J2 ∧ Rg (-1) 6 r)) ([.ref x, .int a0, .int a1] : List Value).toArray s 0 0 (Al_ L)) D cy (Al_ L) s.heap L κ ln R I J 10 [(0, .ref x), (1, .int v_490554), (2, .int v_490555), (3, .int v_490556), (4, .int v_490557), (5, .int v_490558)] [] := by
    intro n_10
    induction n_10 with
    | zero =>
      intro v_490554 rv_490554 v_490555 rv_490555 v_490556 rv_490556 v_490557 rv_490557 v_490558 rv_490558 hm_490559
      exact ms_0 rv_490558 hm_490559
    | succ n_10 ih_10 =>
      intro v_490554 rv_490554 v_490555 rv_490555 v_490556 rv_490556 v_490557 rv_490557 v_490558 rv_490558 hm_490559
      have j_46 : ∀ (v_490560 : Int32) (rv_490560 : Rg 1 7 v_490560) (v_490561 : Int32) (rv_490561 : Rg 1 2147483647 v_490561) (v_490562 : Int32) (rv_490562 : Rg (-1) 6 v_490562) (v_490563 : Int32) (rv_490563 : Rg (-2147483648) 1000 v_490563) (v_490564 : Int32) (rv_490564 : Rg 0 6 v_490564) (v_490565 : Int32) (hm_490566 : 7 < (v_490564 : Int32).toInt + ((n_10 + 1 : Nat) : Int)), WG p l e { frames := 1, cells := 0, slots := 0, locals := 60 } s m ([.ref x, .int a0, .int a1] : List Value).toArray below meth c 7 0 0 (MQ below (Qi_ D cy L κ ln R (fun r I2 J2 => I = I2 ∧ J = J2 ∧ Rg (-1) 6 r)) ([.ref x, .int a0, .int a1] : List Value).toArray s 0 0 (Al_ L)) D cy (Al_ L) s.heap L κ ln R I J 46 [(0, .ref x), (1, .int v_490560), (2, .int v_490561), (3, .int v_490562), (4, .int v_490563), (5, .int v_490564), (6, .int v_490565)] [] := by
        intro v_490560 rv_490560 v_490561 rv_490561 v_490562 rv_490562 v_490563 rv_490563 v_490564 rv_490564 v_490565 hm_490566
        obtain ⟨x_490567, hx_490567, rx_490567, tx_490567⟩ := ex_add (y := 1) 1 7 rv_490564 rc_1 (by decide) (by decide) (by decide) (by decide)
        refine g_iinc C dX2_nearestToHalf_46 (k := 5) (v := x_490567) rfl hx_490567 (by decide) (lo2 := [(5, .int x_490567), (0, .ref x), (1, .int v_490560), (2, .int v_490561), (3, .int v_490562), (4, .int v_490563), (6, .int v_490565)]) rfl ?_
        refine g_goto C (tgt := 10) dX2_nearestToHalf_49 (by decide) ?_
        refine g_lo (is := [1, 2, 3, 4, 5, 0]) (lo2 := [(0, .ref x), (1, .int v_490560), (2, .int v_490561), (3, .int v_490562), (4, .int v_490563), (5, .int x_490567)]) rfl ?_
        exact ih_10 v_490560 (rg_w rv_490560 (by decide) (by decide)) v_490561 (rv_490561) v_490562 (rv_490562) v_490563 (rv_490563) x_490567 (rg_w rx_490567 (by decide) (by decide)) (ms_1 hm_490566 (ti_k tx_490567 rc_1) (by decide))
      refine g_iload C 5 dX2_nearestToHalf_10 rfl ?_
      refine g_iload_n C 1 dX2_nearestToHalf_12 rfl rfl ?_
      refine g_icmp_ge C (tgt := 52) dX2_nearestToHalf_13 (by decide) (fun h_490568 => ?_) (fun h_490568 => ?_)
      · skip
        refine g_iload_n C 3 dX2_nearestToHalf_52 rfl rfl ?_
        exact g_zret (ty := .int) (r := v_490556) B K rfl (rfl) ⟨rfl, rfl, rv_490556⟩ dX2_nearestToHalf_53
      · skip
        have r_490569 := lt_l (hi := 6) (nle h_490568) rv_490558 rv_490554 (by decide)
        have r_490570 := lt_r (lo := 1) (nle h_490568) rv_490558 rv_490554 (by decide)
        refine g_iconst C (v := 2) dX2_nearestToHalf_16 (by decide) ?_
        refine g_aload_n C 0 dX2_nearestToHalf_17 rfl rfl ?_
        refine g_getR C K hLx hkx f_2_9 hb_490553 dX2_nearestToHalf_18 ?_
        refine g_iload C 5 dX2_nearestToHalf_21 rfl ?_
        obtain ⟨x_490571, hx_490571, rx_490571⟩ := ex_get (I := I) (a := b_490553) (j := v_490558.toNatClampNeg) (lo := (-2147483648)) (hi := 2147483647) hU.1 hb_490553L (ro_a hb_490553k (by decide) hb_490553o hkx rfl) (rfl)
        refine h_iald C K hb_490553L hb_490553k (v := x_490571) (v_490558.toNatClampNeg) (rfl) (ix_0 r_490569 (by decide)) (ix_lt r_490569 (by decide) hb_490553n (by decide)) hx_490571 dX2_nearestToHalf_23 ?_
        obtain ⟨x_490572, hx_490572, rx_490572⟩ := ex_any (z0 := 2 * x_490571)
        refine g_imul C (v := x_490572) dX2_nearestToHalf_24 hx_490572 ?_
        refine g_iload_n C 2 dX2_nearestToHalf_25 rfl rfl ?_
        obtain ⟨x_490573, hx_490573, rx_490573⟩ := ex_any (z0 := x_490572 - v_490555)
        refine g_isub C (v := x_490573) dX2_nearestToHalf_26 hx_490573 ?_
        obtain ⟨x_490574, hx_490574, rx_490574⟩ := ex_any (z0 := if 0 ≤ x_490573 then x_490573 else 0 - x_490573)
        refine g_mabs C (v := x_490574) mw_2_48 w_abs (Nat.le_of_ble_eq_true rfl) (Nat.le_of_ble_eq_true rfl) ⟨Nat.le_of_ble_eq_true rfl, Nat.le_of_ble_eq_true rfl⟩ hx_490574 dX2_nearestToHalf_27 ?_
        refine g_istore C dX2_nearestToHalf_30 (by decide) (lo2 := [(6, .int x_490574), (0, .ref x), (1, .int v_490554), (2, .int v_490555), (3, .int v_490556), (4, .int v_490557), (5, .int v_490558)]) rfl ?_
        refine g_iload C 0 dX2_nearestToHalf_32 rfl ?_
        refine g_iload C 5 dX2_nearestToHalf_34 rfl ?_
        refine g_icmp_ge C (tgt := 46) dX2_nearestToHalf_36 (by decide) (fun h_490575 => ?_) (fun h_490575 => ?_)
        · skip
          refine g_lo (is := [1, 2, 3, 4, 5, 6, 0]) (lo2 := [(0, .ref x), (1, .int v_490554), (2, .int v_490555), (3, .int v_490556), (4, .int v_490557), (5, .int v_490558), (6, .int x_490574)]) rfl ?_
          exact j_46 v_490554 (r_490570) v_490555 (rv_490555) v_490556 (rv_490556) v_490557 (rv_490557) v_490558 (r_490569) x_490574 hm_490559
        · skip
          have r_490576 := lt_l (hi := 999) (nle h_490575) rx_490574 rv_490557 (by decide)
          have r_490577 := lt_r (lo := (-2147483647)) (nle h_490575) rx_490574 rv_490557 (by decide)
          refine g_iload C 0 dX2_nearestToHalf_39 rfl ?_
          refine g_istore C dX2_nearestToHalf_41 (by decide) (lo2 := [(4, .int x_490574), (6, .int x_490574), (0, .ref x), (1, .int v_490554), (2, .int v_490555), (3, .int v_490556), (5, .int v_490558)]) rfl ?_
          refine g_iload C 6 dX2_nearestToHalf_43 rfl ?_
          refine g_istore_n C dX2_nearestToHalf_45 rfl (by decide) (lo2 := [(3, .int v_490558), (4, .int x_490574), (6, .int x_490574), (0, .ref x), (1, .int v_490554), (2, .int v_490555), (5, .int v_490558)]) rfl ?_
          refine g_lo (is := [3, 4, 5, 0, 1, 6, 2]) (lo2 := [(0, .ref x), (1, .int v_490554), (2, .int v_490555), (3, .int v_490558), (4, .int x_490574), (5, .int v_490558), (6, .int x_490574)]) rfl ?_
          exact j_46 v_490554 (r_490570) v_490555 (rv_490555) v_490558 (rg_w r_490569 (by decide) (by decide)) x_490574 (rg_w r_490576 (by decide) (by decide)) v_490558 (r_490569) x_490574 hm_490559
  refine g_iconst C (v := (-1)) dX2_nearestToHalf_0 (by decide) ?_
  refine g_istore_n C dX2_nearestToHalf_1 rfl (by decide) (lo2 := [(3, .int (-1)), (0, .ref x), (1, .int a0), (2, .int a1)]) rfl ?_
  refine g_sipush C (v := 1000) dX2_nearestToHalf_2 (by decide) ?_
  refine g_istore C dX2_nearestToHalf_5 (by decide) (lo2 := [(4, .int 1000), (3, .int (-1)), (0, .ref x), (1, .int a0), (2, .int a1)]) rfl ?_
  refine g_iconst C (v := 0) dX2_nearestToHalf_7 (by decide) ?_
  refine g_istore C dX2_nearestToHalf_8 (by decide) (lo2 := [(5, .int 0), (4, .int 1000), (3, .int (-1)), (0, .ref x), (1, .int a0), (2, .int a1)]) rfl ?_
  refine g_lo (is := [3, 4, 5, 2, 1, 0]) (lo2 := [(0, .ref x), (1, .int a0), (2, .int a1), (3, .int (-1)), (4, .int 1000), (5, .int 0)]) rfl ?_
  exact l_10 8 a0 (ra0) a1 (ra1) (-1) (rg_w rc_m1 (by decide) (by decide)) 1000 (rg_w rc_1000 (by decide) (by decide)) 0 (rg_w rc_0 (by decide) (by decide)) (ms_s (a := 0) (b := 7) (N := 8) (rg_w rc_0 (by decide) (by decide)) (by decide))
set_option maxRecDepth 100000 in
set_option maxHeartbeats 8000000 in
theorem c_X2_setsWith {l : Launch} {D : va_G} {cy : Nat → ClassId} {L : List Nat} {κ ln : Nat → Nat} {R : Nat → Nat → Option Nat} {I : Nat → Nat → Int32} {J : Nat → Nat → Int64} {ow : Nat → Nat × Nat} (W9 : ∀ a ∈ L, Shp L κ ln R ow a) {x : Nat} (hLx : x ∈ L) (hkx : κ x = 2) {a0 : Nat} (hLa0 : a0 ∈ L) (hka0 : κ a0 = 1) (a1 : Int32) (a2 : Int32) (ra1 : Rg 0 5 a1) (ra2 : Rg (-1) 255 a2) (hU : Iv L κ R ow I) : CtI l yX2_setsWith cX2_setsWith 8 (some .int) { frames := 2, cells := 0, slots := 0, locals := 86 } D cy L κ ln R I J [.ref x, .ref a0, .int a1, .int a2] (fun r I2 J2 => Iv L κ R ow I2 ∧ Fq L κ ow [201, 202, 22000] I I2 ∧ Fq L κ ow [] J J2 ∧ Rg (-2147483648) 2147483647 r) := by
  refine CtI.of (by decide +kernel) (Nat.le_of_ble_eq_true rfl) ?_
  intro p e s m below meth c B K
  have C := B.1
  have hF : Fq L κ ow [201, 202, 22000] I I := fq_rf
  have hG : Fq L κ ow [] J J := fq_rf
  obtain ⟨b_492257, hb_492257, hb_492257L, hb_492257k⟩ := shp_o (W9 a0 hLa0) hka0 0 8 rfl (by decide)
  obtain ⟨b_492258, hb_492258, hb_492258L, hb_492258k, hb_492258n, hb_492258o⟩ := shp_a (W9 x hLx) hkx 0 14 7 rfl (by decide)
  refine g_lo (is := [0, 1, 2, 3]) (lo2 := [(0, .ref x), (1, .ref a0), (2, .int a1), (3, .int a2)]) rfl ?_
  have l_43 : ∀ (n_43 : Nat) (I_492259 : Nat → Nat → Int32) (J_492260 : Nat → Nat → Int64) (hU_492261 : Iv L κ R ow I_492259) (hF_492262 : Fq L κ ow [201, 202, 22000] I I_492259) (hG_492263 : Fq L κ ow [] J J_492260) (v_492264 : Int32) (rv_492264 : Rg 0 5 v_492264) (v_492265 : Int32) (rv_492265 : Rg (-1) 255 v_492265) (v_492266 : Int32) (rv_492266 : Rg 0 127 v_492266) (v_492267 : Int32) (v_492268 : Int32) (rv_492268 : Rg 0 127 v_492268) (v_492269 : Int32) (rv_492269 : Rg 0 128 v_492269) (hm_492270 : 128 < (v_492269 : Int32).toInt + (n_43 : Int)), WG p l e { frames := 2, cells := 0, slots := 0, locals := 86 } s m ([.ref x, .ref a0, .int a1, .int a2] : List Value).toArray below meth c 8 0 0 (MQ below (Qi_ D cy L κ ln R (fun r I2 J2 => Iv L κ R ow I2 ∧ Fq L κ ow [201, 202, 22000] I I2 ∧ Fq L κ ow [] J J2 ∧ Rg (-2147483648) 2147483647 r)) ([.ref x, .ref a0, .int a1, .int a2] : List Value).toArray s 0 0 (Al_ L)) D cy (Al_ L) s.heap L κ ln R I_492259 J_492260 43 [(0, .ref x), (1, .ref a0), (2, .int v_492264), (3, .int v_492265), (4, .int v_492266), (5, .int v_492267), (6, .int v_492268), (7, .int v_492269)] [] := by
    intro n_43
    induction n_43 with
    | zero =>
      intro I_492259 J_492260 hU_492261 hF_492262 hG_492263 v_492264 rv_492264 v_492265 rv_492265 v_492266 rv_492266 v_492267 v_492268 rv_492268 v_492269 rv_492269 hm_492270
      exact ms_0 rv_492269 hm_492270
    | succ n_43 ih_43 =>
      intro I_492259 J_492260 hU_492261 hF_492262 hG_492263 v_492264 rv_492264 v_492265 rv_492265 v_492266 rv_492266 v_492267 v_492268 rv_492268 v_492269 rv_492269 hm_492270
      have j_77 : ∀ (I_492271 : Nat → Nat → Int32) (J_492272 : Nat → Nat → Int64) (hU_492273 : Iv L κ R ow I_492271) (hF_492274 : Fq L κ ow [201, 202, 22000] I I_492271) (hG_492275 : Fq L κ ow [] J J_492272) (v_492276 : Int32) (rv_492276 : Rg 0 5 v_492276) (v_492277 : Int32) (rv_492277 : Rg (-1) 255 v_492277) (v_492278 : Int32) (rv_492278 : Rg 0 127 v_492278) (v_492279 : Int32) (v_492280 : Int32) (rv_492280 : Rg 0 127 v_492280) (v_492281 : Int32) (rv_492281 : Rg 0 127 v_492281) (hm_492282 : 128 < (v_492281 : Int32).toInt + ((n_43 + 1 : Nat) : Int)), WG p l e { frames := 2, cells := 0, slots := 0, locals := 86 } s m ([.ref x, .ref a0, .int a1, .int a2] : List Value).toArray below meth c 8 0 0 (MQ below (Qi_ D cy L κ ln R (fun r I2 J2 => Iv L κ R ow I2 ∧ Fq L κ ow [201, 202, 22000] I I2 ∧ Fq L κ ow [] J J2 ∧ Rg (-2147483648) 2147483647 r)) ([.ref x, .ref a0, .int a1, .int a2] : List Value).toArray s 0 0 (Al_ L)) D cy (Al_ L) s.heap L κ ln R I_492271 J_492272 77 [(0, .ref x), (1, .ref a0), (2, .int v_492276), (3, .int v_492277), (4, .int v_492278), (5, .int v_492279), (6, .int v_492280), (7, .int v_492281)] [] := by
        intro I_492271 J_492272 hU_492273 hF_492274 hG_492275 v_492276 rv_492276 v_492277 rv_492277 v_492278 rv_492278 v_492279 v_492280 rv_492280 v_492281 rv_492281 hm_492282
        obtain ⟨x_492283, hx_492283, rx_492283, tx_492283⟩ := ex_add (y := 1) 1 128 rv_492281 rc_1 (by decide) (by decide) (by decide) (by decide)
        refine g_iinc C dX2_setsWith_77 (k := 7) (v := x_492283) rfl hx_492283 (by decide) (lo2 := [(7, .int x_492283), (0, .ref x), (1, .ref a0), (2, .int v_492276), (3, .int v_492277), (4, .int v_492278), (5, .int v_492279), (6, .int v_492280)]) rfl ?_
        refine g_goto C (tgt := 43) dX2_setsWith_80 (by decide) ?_
        refine g_lo (is := [1, 2, 3, 4, 5, 6, 7, 0]) (lo2 := [(0, .ref x), (1, .ref a0), (2, .int v_492276), (3, .int v_492277), (4, .int v_492278), (5, .int v_492279), (6, .int v_492280), (7, .int x_492283)]) rfl ?_
        exact ih_43 I_492271 J_492272 hU_492273 hF_492274 hG_492275 v_492276 (rv_492276) v_492277 (rv_492277) v_492278 (rv_492278) v_492279 v_492280 (rv_492280) x_492283 (rg_w rx_492283 (by decide) (by decide)) (ms_1 hm_492282 (ti_k tx_492283 rc_1) (by decide))
      refine g_iload C 7 dX2_setsWith_43 rfl ?_
      refine g_iload C 4 dX2_setsWith_45 rfl ?_
      refine g_icmp_gt C (tgt := 83) dX2_setsWith_47 (by decide) (fun h_492284 => ?_) (fun h_492284 => ?_)
      · skip
        have r_492285 := lt_r (lo := 1) (h_492284) rv_492266 rv_492269 (by decide)
        refine g_iload C 5 dX2_setsWith_83 rfl ?_
        refine g_if_le C (tgt := 111) dX2_setsWith_85 (by decide) (fun h_492286 => ?_) (fun h_492286 => ?_)
        · skip
          have r_492287 := le_l (h_492286) (rg_all v_492267) rc_0
          refine g_iload C 5 dX2_setsWith_111 rfl ?_
          exact g_zret (ty := .int) (r := v_492267) B K rfl (rfl) ⟨hU_492261, hF_492262, hG_492263, rg_all _⟩ dX2_setsWith_113
        · skip
          have r_492288 := lt_r (lo := 1) (nle h_492286) rc_0 (rg_all v_492267) (by decide)
          refine g_aload_n C 0 dX2_setsWith_88 rfl rfl ?_
          refine g_iload C 6 dX2_setsWith_89 rfl ?_
          refine h_putI C K hLx hkx f_2_15 p_2_1 dX2_setsWith_91 (fun I_492289 hI_492289 => ?_)
          have hU_492290 := iv_put W9 hU_492261 hI_492289 (ro_o hkx (by decide)) (lo := (-2147483648)) (hi := 2147483647) (rfl) (rg_all _) rfl
          have hF_492291 := fq_puto hF_492262 hI_492289 hkx (by decide) (by decide)
          refine g_aload_n C 0 dX2_setsWith_94 rfl rfl ?_
          refine g_aload_n C 0 dX2_setsWith_95 rfl rfl ?_
          refine g_aload_n C 1 dX2_setsWith_96 rfl rfl ?_
          refine g_getR C K hLa0 hka0 f_2_22 hb_492257 dX2_setsWith_97 ?_
          obtain ⟨x_492292, hx_492292, rx_492292⟩ := ex_get (I := I_492289) (a := b_492257) (j := 5) (lo := 0) (hi := 7) hU_492290.1 hb_492257L (ro_o hb_492257k (by decide)) rfl
          refine g_getI C K hb_492257L hb_492257k f_2_42 (v := x_492292) hx_492292 dX2_setsWith_100 ?_
          refine g_iload C 5 dX2_setsWith_103 rfl ?_
          refine g_callVI C K (c_X2_nearestToHalf W9 hLx hkx x_492292 v_492267 (rx_492292) (r_492288) hU_492290) hLx hkx (by decide) rfl v_2_45 rfl ⟨rfl, rfl⟩ ⟨Nat.le_of_ble_eq_true rfl, Nat.le_of_ble_eq_true rfl⟩ (Nat.le_of_ble_eq_true rfl) ⟨Nat.le_of_ble_eq_true rfl, Nat.le_of_ble_eq_true rfl⟩ dX2_setsWith_105 rfl (st := [.ref x]) (fun x_492293 I_492294 J_492295 h_492296 => ?_)
          obtain ⟨rfl, rfl, rx_492293⟩ := h_492296
          refine h_putI C K hLx hkx f_2_19 p_2_2 dX2_setsWith_108 (fun I_492297 hI_492297 => ?_)
          have hU_492298 := iv_put W9 hU_492290 hI_492297 (ro_o hkx (by decide)) (lo := (-2147483648)) (hi := 2147483647) (rfl) (rg_all _) rfl
          have hF_492299 := fq_puto hF_492291 hI_492297 hkx (by decide) (by decide)
          refine g_iload C 5 dX2_setsWith_111 rfl ?_
          exact g_zret (ty := .int) (r := v_492267) B K rfl (rfl) ⟨hU_492298, hF_492299, hG_492263, rg_all _⟩ dX2_setsWith_113
      · skip
        have r_492300 := le_l (nlt h_492284) rv_492269 rv_492266
        refine g_aload_n C 1 dX2_setsWith_50 rfl rfl ?_
        refine g_iload C 7 dX2_setsWith_51 rfl ?_
        refine g_iload_n C 2 dX2_setsWith_53 rfl rfl ?_
        refine g_callVI C K (c_X1_onPlatesOf W9 hLa0 hka0 v_492269 v_492264 (r_492300) (rv_492264) hU_492261) hLa0 hka0 (by decide) rfl v_2_34 rfl ⟨rfl, rfl⟩ ⟨Nat.le_of_ble_eq_true rfl, Nat.le_of_ble_eq_true rfl⟩ (Nat.le_of_ble_eq_true rfl) ⟨Nat.le_of_ble_eq_true rfl, Nat.le_of_ble_eq_true rfl⟩ dX2_setsWith_54 rfl (st := []) (fun x_492301 I_492302 J_492303 h_492304 => ?_)
        obtain ⟨rfl, rfl, rx_492301⟩ := h_492304
        refine g_iload_n C 3 dX2_setsWith_57 rfl rfl ?_
        refine g_icmp_ne C (tgt := 77) dX2_setsWith_58 (by decide) (fun h_492305 => ?_) (fun h_492305 => ?_)
        · skip
          refine g_lo (is := [0, 1, 2, 3, 4, 5, 6, 7]) (lo2 := [(0, .ref x), (1, .ref a0), (2, .int v_492264), (3, .int v_492265), (4, .int v_492266), (5, .int v_492267), (6, .int v_492268), (7, .int v_492269)]) rfl ?_
          exact j_77 I_492259 J_492260 hU_492261 hF_492262 hG_492263 v_492264 (rv_492264) v_492265 (rv_492265) v_492266 (rv_492266) v_492267 v_492268 (rv_492268) v_492269 (r_492300) hm_492270
        · skip
          have r_492306 := (⟨(eq_rg (h_492305) rv_492265).1, (eq_rg (h_492305) rv_492265).2⟩ : Rg (-1) 255 x_492301)
          obtain ⟨x_492307, hx_492307, rx_492307⟩ := ex_any (z0 := v_492267 + 1)
          refine g_iinc C dX2_setsWith_61 (k := 5) (v := x_492307) rfl hx_492307 (by decide) (lo2 := [(5, .int x_492307), (0, .ref x), (1, .ref a0), (2, .int v_492264), (3, .int v_492265), (4, .int v_492266), (6, .int v_492268), (7, .int v_492269)]) rfl ?_
          refine g_iload C 6 dX2_setsWith_64 rfl ?_
          refine g_iload C 7 dX2_setsWith_66 rfl ?_
          obtain ⟨x_492308, hx_492308, rx_492308⟩ := ex_andl (x := v_492268) (y := v_492269) (b := 127) (rv_492268)
          refine g_iand C (v := x_492308) dX2_setsWith_68 hx_492308 ?_
          refine g_istore C dX2_setsWith_69 (by decide) (lo2 := [(6, .int x_492308), (5, .int x_492307), (0, .ref x), (1, .ref a0), (2, .int v_492264), (3, .int v_492265), (4, .int v_492266), (7, .int v_492269)]) rfl ?_
          refine g_aload_n C 2 dX2_setsWith_71 rfl rfl ?_
          refine g_iload C 7 dX2_setsWith_72 rfl ?_
          refine g_callVV C K (c_X2_countIn W9 hLx hkx v_492269 (r_492300) hU_492261) hLx hkx (by decide) rfl v_2_38 rfl ⟨rfl, rfl⟩ ⟨Nat.le_of_ble_eq_true rfl, Nat.le_of_ble_eq_true rfl⟩ (Nat.le_of_ble_eq_true rfl) ⟨Nat.le_of_ble_eq_true rfl, Nat.le_of_ble_eq_true rfl⟩ dX2_setsWith_74 rfl (st := []) (fun I_492310 J_492311 h_492312 => ?_)
          obtain ⟨hUI_492310, hFI_492310, hGJ_492311⟩ := h_492312
          have hF_492313 := fq_tr hF_492262 hFI_492310 (by decide)
          have hG_492314 := fq_tr hG_492263 hGJ_492311 (by decide)
          refine g_lo (is := [2, 3, 4, 5, 6, 1, 0, 7]) (lo2 := [(0, .ref x), (1, .ref a0), (2, .int v_492264), (3, .int v_492265), (4, .int v_492266), (5, .int x_492307), (6, .int x_492308), (7, .int v_492269)]) rfl ?_
          exact j_77 I_492310 J_492311 hUI_492310 hF_492313 hG_492314 v_492264 (rv_492264) v_492265 (rv_492265) v_492266 (rv_492266) x_492307 x_492308 (rx_492308) v_492269 (r_492300) hm_492270
  have l_19 : ∀ (n_19 : Nat) (I_492315 : Nat → Nat → Int32) (J_492316 : Nat → Nat → Int64) (hU_492317 : Iv L κ R ow I_492315) (hF_492318 : Fq L κ ow [201, 202, 22000] I I_492315) (hG_492319 : Fq L κ ow [] J J_492316) (v_492320 : Int32) (rv_492320 : Rg 0 5 v_492320) (v_492321 : Int32) (rv_492321 : Rg (-1) 255 v_492321) (v_492322 : Int32) (rv_492322 : Rg 0 127 v_492322) (v_492323 : Int32) (rv_492323 : Rg 0 7 v_492323) (hm_492324 : 7 < (v_492323 : Int32).toInt + (n_19 : Int)), WG p l e { frames := 2, cells := 0, slots := 0, locals := 86 } s m ([.ref x, .ref a0, .int a1, .int a2] : List Value).toArray below meth c 8 0 0 (MQ below (Qi_ D cy L κ ln R (fun r I2 J2 => Iv L κ R ow I2 ∧ Fq L κ ow [201, 202, 22000] I I2 ∧ Fq L κ ow [] J J2 ∧ Rg (-2147483648) 2147483647 r)) ([.ref x, .ref a0, .int a1, .int a2] : List Value).toArray s 0 0 (Al_ L)) D cy (Al_ L) s.heap L κ ln R I_492315 J_492316 19 [(0, .ref x), (1, .ref a0), (2, .int v_492320), (3, .int v_492321), (4, .int v_492322), (5, .int 0), (6, .int v_492322), (7, .int v_492323)] [] := by
    intro n_19
    induction n_19 with
    | zero =>
      intro I_492315 J_492316 hU_492317 hF_492318 hG_492319 v_492320 rv_492320 v_492321 rv_492321 v_492322 rv_492322 v_492323 rv_492323 hm_492324
      exact ms_0 rv_492323 hm_492324
    | succ n_19 ih_19 =>
      intro I_492315 J_492316 hU_492317 hF_492318 hG_492319 v_492320 rv_492320 v_492321 rv_492321 v_492322 rv_492322 v_492323 rv_492323 hm_492324
      refine g_iload C 7 dX2_setsWith_19 rfl ?_
      refine g_bipush C (v := 7) dX2_setsWith_21 (by decide) ?_
      refine g_icmp_ge C (tgt := 40) dX2_setsWith_23 (by decide) (fun h_492325 => ?_) (fun h_492325 => ?_)
      · skip
        have r_492326 := le_r (h_492325) rc_7 rv_492323
        refine g_iconst C (v := 0) dX2_setsWith_40 (by decide) ?_
        refine g_istore C dX2_setsWith_41 (by decide) (lo2 := [(7, .int 0), (0, .ref x), (1, .ref a0), (2, .int v_492320), (3, .int v_492321), (4, .int v_492322), (5, .int 0), (6, .int v_492322)]) rfl ?_
        refine g_lo (is := [1, 2, 3, 4, 5, 6, 7, 0]) (lo2 := [(0, .ref x), (1, .ref a0), (2, .int v_492320), (3, .int v_492321), (4, .int v_492322), (5, .int 0), (6, .int v_492322), (7, .int 0)]) rfl ?_
        exact l_43 129 I_492315 J_492316 hU_492317 hF_492318 hG_492319 v_492320 (rv_492320) v_492321 (rv_492321) v_492322 (rv_492322) 0 v_492322 (rv_492322) 0 (rg_w rc_0 (by decide) (by decide)) (ms_s (a := 0) (b := 128) (N := 129) (rg_w rc_0 (by decide) (by decide)) (by decide))
      · skip
        have r_492327 := lt_l (hi := 6) (nle h_492325) rv_492323 rc_7 (by decide)
        refine g_aload_n C 0 dX2_setsWith_26 rfl rfl ?_
        refine g_getR C K hLx hkx f_2_9 hb_492258 dX2_setsWith_27 ?_
        refine g_iload C 7 dX2_setsWith_30 rfl ?_
        refine g_iconst C (v := 0) dX2_setsWith_32 (by decide) ?_
        refine h_iast C K hb_492258L hb_492258k (v_492323.toNatClampNeg) (rfl) (ix_0 r_492327 (by decide)) (ix_lt r_492327 (by decide) hb_492258n (by decide)) dX2_setsWith_33 (fun I_492328 hI_492328 => ?_)
        have hU_492329 := iv_put W9 hU_492317 hI_492328 (ro_a hb_492258k (by decide) hb_492258o hkx rfl) (lo := (-2147483648)) (hi := 2147483647) (rfl) (rg_all _) rfl
        have hF_492330 := fq_puta hF_492318 hI_492328 (ro_a hb_492258k (by decide) hb_492258o hkx rfl) (by decide) (by decide)
        obtain ⟨x_492331, hx_492331, rx_492331, tx_492331⟩ := ex_add (y := 1) 1 7 r_492327 rc_1 (by decide) (by decide) (by decide) (by decide)
        refine g_iinc C dX2_setsWith_34 (k := 7) (v := x_492331) rfl hx_492331 (by decide) (lo2 := [(7, .int x_492331), (0, .ref x), (1, .ref a0), (2, .int v_492320), (3, .int v_492321), (4, .int v_492322), (5, .int 0), (6, .int v_492322)]) rfl ?_
        refine g_goto C (tgt := 19) dX2_setsWith_37 (by decide) ?_
        refine g_lo (is := [1, 2, 3, 4, 5, 6, 7, 0]) (lo2 := [(0, .ref x), (1, .ref a0), (2, .int v_492320), (3, .int v_492321), (4, .int v_492322), (5, .int 0), (6, .int v_492322), (7, .int x_492331)]) rfl ?_
        exact ih_19 I_492328 J_492316 hU_492329 hF_492330 hG_492319 v_492320 (rv_492320) v_492321 (rv_492321) v_492322 (rv_492322) x_492331 (rg_w rx_492331 (by decide) (by decide)) (ms_1 hm_492324 (ti_k tx_492331 rc_1) (by decide))
  refine g_aload_n C 1 dX2_setsWith_0 rfl rfl ?_
  refine g_getR C K hLa0 hka0 f_2_22 hb_492257 dX2_setsWith_1 ?_
  refine g_callVI C K (c_X8_everybody W9 hb_492257L hb_492257k   hU) hb_492257L hb_492257k (by decide) rfl v_2_28 rfl ⟨rfl, rfl⟩ ⟨Nat.le_of_ble_eq_true rfl, Nat.le_of_ble_eq_true rfl⟩ (Nat.le_of_ble_eq_true rfl) ⟨Nat.le_of_ble_eq_true rfl, Nat.le_of_ble_eq_true rfl⟩ dX2_setsWith_4 rfl (st := []) (fun x_492332 I_492333 J_492334 h_492335 => ?_)
  obtain ⟨rfl, rfl, rx_492332⟩ := h_492335
  refine g_istore C dX2_setsWith_7 (by decide) (lo2 := [(4, .int x_492332), (0, .ref x), (1, .ref a0), (2, .int a1), (3, .int a2)]) rfl ?_
  refine g_iconst C (v := 0) dX2_setsWith_9 (by decide) ?_
  refine g_istore C dX2_setsWith_10 (by decide) (lo2 := [(5, .int 0), (4, .int x_492332), (0, .ref x), (1, .ref a0), (2, .int a1), (3, .int a2)]) rfl ?_
  refine g_iload C 1 dX2_setsWith_12 rfl ?_
  refine g_istore C dX2_setsWith_14 (by decide) (lo2 := [(6, .int x_492332), (5, .int 0), (4, .int x_492332), (0, .ref x), (1, .ref a0), (2, .int a1), (3, .int a2)]) rfl ?_
  refine g_iconst C (v := 0) dX2_setsWith_16 (by decide) ?_
  refine g_istore C dX2_setsWith_17 (by decide) (lo2 := [(7, .int 0), (6, .int x_492332), (5, .int 0), (4, .int x_492332), (0, .ref x), (1, .ref a0), (2, .int a1), (3, .int a2)]) rfl ?_
  refine g_lo (is := [4, 5, 6, 7, 3, 2, 1, 0]) (lo2 := [(0, .ref x), (1, .ref a0), (2, .int a1), (3, .int a2), (4, .int x_492332), (5, .int 0), (6, .int x_492332), (7, .int 0)]) rfl ?_
  exact l_19 8 I J hU hF hG a1 (ra1) a2 (ra2) x_492332 (rx_492332) 0 (rg_w rc_0 (by decide) (by decide)) (ms_s (a := 0) (b := 7) (N := 8) (rg_w rc_0 (by decide) (by decide)) (by decide))
set_option maxRecDepth 100000 in
set_option maxHeartbeats 8000000 in
theorem c_X11_eaters {l : Launch} {D : va_G} {cy : Nat → ClassId} {L : List Nat} {κ ln : Nat → Nat} {R : Nat → Nat → Option Nat} {I : Nat → Nat → Int32} {J : Nat → Nat → Int64} {ow : Nat → Nat × Nat} (W9 : ∀ a ∈ L, Shp L κ ln R ow a) {x : Nat} (hLx : x ∈ L) (hkx : κ x = 11) (hU : Iv L κ R ow I) : CtI l yX11_eaters cX11_eaters 4 (some .int) { frames := 3, cells := 0, slots := 0, locals := 113 } D cy L κ ln R I J [.ref x] (fun r I2 J2 => Iv L κ R ow I2 ∧ Fq L κ ow [201, 202, 1005, 22000] I I2 ∧ Fq L κ ow [] J J2 ∧ Rg (-2147483648) 2147483647 r) := by
  refine CtI.of (by decide +kernel) (Nat.le_of_ble_eq_true rfl) ?_
  intro p e s m below meth c B K
  have C := B.1
  have hF : Fq L κ ow [201, 202, 1005, 22000] I I := fq_rf
  have hG : Fq L κ ow [] J J := fq_rf
  obtain ⟨b_492430, hb_492430, hb_492430L, hb_492430k⟩ := shp_o (W9 x hLx) hkx 11 2 rfl (by decide)
  obtain ⟨b_492431, hb_492431, hb_492431L, hb_492431k⟩ := shp_o (W9 x hLx) hkx 0 10 rfl (by decide)
  obtain ⟨b_492432, hb_492432, hb_492432L, hb_492432k⟩ := shp_o (W9 x hLx) hkx 1 8 rfl (by decide)
  obtain ⟨b_492433, hb_492433, hb_492433L, hb_492433k⟩ := shp_o (W9 x hLx) hkx 2 1 rfl (by decide)
  refine g_lo (is := [0]) (lo2 := [(0, .ref x)]) rfl ?_
  refine g_aload_n C 0 dX11_eaters_0 rfl rfl ?_
  refine g_getR C K hLx hkx f_11_10 hb_492431 dX11_eaters_1 ?_
  obtain ⟨x_492434, hx_492434, rx_492434⟩ := ex_get (I := I) (a := b_492431) (j := 5) (lo := 0) (hi := 940) hU.1 hb_492431L (ro_o hb_492431k (by decide)) rfl
  refine g_getI C K hb_492431L hb_492431k f_11_102 (v := x_492434) hx_492434 dX11_eaters_4 ?_
  refine g_iconst C (v := 2) dX11_eaters_7 (by decide) ?_
  refine g_icmp_ne C (tgt := 15) dX11_eaters_8 (by decide) (fun h_492435 => ?_) (fun h_492435 => ?_)
  · skip
    have n_492436 : ¬ x_492434 = 2 := h_492435
    refine g_iconst C (v := 0) dX11_eaters_15 (by decide) ?_
    refine g_istore_n C dX11_eaters_16 rfl (by decide) (lo2 := [(1, .int 0), (0, .ref x)]) rfl ?_
    refine g_aload_n C 1 dX11_eaters_17 rfl rfl ?_
    refine g_getR C K hLx hkx f_11_10 hb_492431 dX11_eaters_18 ?_
    refine g_iconst C (v := 0) dX11_eaters_21 (by decide) ?_
    refine g_callVI C K (c_X10_byteOf W9 hb_492431L hb_492431k 0 (rg_w rc_0 (by decide) (by decide)) hU) hb_492431L hb_492431k (by decide) rfl v_11_275 rfl ⟨rfl, rfl⟩ ⟨Nat.le_of_ble_eq_true rfl, Nat.le_of_ble_eq_true rfl⟩ (Nat.le_of_ble_eq_true rfl) ⟨Nat.le_of_ble_eq_true rfl, Nat.le_of_ble_eq_true rfl⟩ dX11_eaters_22 rfl (st := []) (fun x_492437 I_492438 J_492439 h_492440 => ?_)
    obtain ⟨rfl, rfl, rx_492437⟩ := h_492440
    refine g_istore_n C dX11_eaters_25 rfl (by decide) (lo2 := [(2, .int x_492437), (1, .int 0), (0, .ref x)]) rfl ?_
    refine g_aload_n C 2 dX11_eaters_26 rfl rfl ?_
    refine g_getR C K hLx hkx f_11_10 hb_492431 dX11_eaters_27 ?_
    refine g_iconst C (v := 1) dX11_eaters_30 (by decide) ?_
    refine g_callVI C K (c_X10_byteOf W9 hb_492431L hb_492431k 1 (rg_w rc_1 (by decide) (by decide)) hU) hb_492431L hb_492431k (by decide) rfl v_11_275 rfl ⟨rfl, rfl⟩ ⟨Nat.le_of_ble_eq_true rfl, Nat.le_of_ble_eq_true rfl⟩ (Nat.le_of_ble_eq_true rfl) ⟨Nat.le_of_ble_eq_true rfl, Nat.le_of_ble_eq_true rfl⟩ dX11_eaters_31 rfl (st := []) (fun x_492441 I_492442 J_492443 h_492444 => ?_)
    obtain ⟨rfl, rfl, rx_492441⟩ := h_492444
    refine g_istore_n C dX11_eaters_34 rfl (by decide) (lo2 := [(3, .int x_492441), (2, .int x_492437), (1, .int 0), (0, .ref x)]) rfl ?_
    refine g_aload_n C 3 dX11_eaters_35 rfl rfl ?_
    refine g_getR C K hLx hkx f_11_10 hb_492431 dX11_eaters_36 ?_
    refine g_iconst C (v := 0) dX11_eaters_39 (by decide) ?_
    refine h_putI C K hb_492431L hb_492431k f_11_102 p_10_5 dX11_eaters_40 (fun I_492445 hI_492445 => ?_)
    have hU_492446 := iv_put W9 hU hI_492445 (ro_o hb_492431k (by decide)) (lo := 0) (hi := 940) (rfl) (rg_w rc_0 (by decide) (by decide)) rfl
    have hF_492447 := fq_puto hF hI_492445 hb_492431k (by decide) (by decide)
    refine g_iload_n C 2 dX11_eaters_43 rfl rfl ?_
    refine g_if_eq C (tgt := 74) dX11_eaters_44 (by decide) (fun h_492448 => ?_) (fun h_492448 => ?_)
    · skip
      refine g_iconst C (v := (-1)) dX11_eaters_74 (by decide) ?_
      exact g_zret (ty := .int) (r := (-1)) B K rfl (rfl) ⟨hU_492446, hF_492447, hG, rg_all _⟩ dX11_eaters_75
    · skip
      exact absurd h_492448 (by decide)
  · skip
    have r_492449 := (⟨(eq_rg (h_492435) rc_2).1, (eq_rg (h_492435) rc_2).2⟩ : Rg 2 2 x_492434)
    refine g_iconst C (v := 1) dX11_eaters_11 (by decide) ?_
    refine g_goto C (tgt := 16) dX11_eaters_12 (by decide) ?_
    refine g_istore_n C dX11_eaters_16 rfl (by decide) (lo2 := [(1, .int 1), (0, .ref x)]) rfl ?_
    refine g_aload_n C 1 dX11_eaters_17 rfl rfl ?_
    refine g_getR C K hLx hkx f_11_10 hb_492431 dX11_eaters_18 ?_
    refine g_iconst C (v := 0) dX11_eaters_21 (by decide) ?_
    refine g_callVI C K (c_X10_byteOf W9 hb_492431L hb_492431k 0 (rg_w rc_0 (by decide) (by decide)) hU) hb_492431L hb_492431k (by decide) rfl v_11_275 rfl ⟨rfl, rfl⟩ ⟨Nat.le_of_ble_eq_true rfl, Nat.le_of_ble_eq_true rfl⟩ (Nat.le_of_ble_eq_true rfl) ⟨Nat.le_of_ble_eq_true rfl, Nat.le_of_ble_eq_true rfl⟩ dX11_eaters_22 rfl (st := []) (fun x_492450 I_492451 J_492452 h_492453 => ?_)
    obtain ⟨rfl, rfl, rx_492450⟩ := h_492453
    refine g_istore_n C dX11_eaters_25 rfl (by decide) (lo2 := [(2, .int x_492450), (1, .int 1), (0, .ref x)]) rfl ?_
    refine g_aload_n C 2 dX11_eaters_26 rfl rfl ?_
    refine g_getR C K hLx hkx f_11_10 hb_492431 dX11_eaters_27 ?_
    refine g_iconst C (v := 1) dX11_eaters_30 (by decide) ?_
    refine g_callVI C K (c_X10_byteOf W9 hb_492431L hb_492431k 1 (rg_w rc_1 (by decide) (by decide)) hU) hb_492431L hb_492431k (by decide) rfl v_11_275 rfl ⟨rfl, rfl⟩ ⟨Nat.le_of_ble_eq_true rfl, Nat.le_of_ble_eq_true rfl⟩ (Nat.le_of_ble_eq_true rfl) ⟨Nat.le_of_ble_eq_true rfl, Nat.le_of_ble_eq_true rfl⟩ dX11_eaters_31 rfl (st := []) (fun x_492454 I_492455 J_492456 h_492457 => ?_)
    obtain ⟨rfl, rfl, rx_492454⟩ := h_492457
    refine g_istore_n C dX11_eaters_34 rfl (by decide) (lo2 := [(3, .int x_492454), (2, .int x_492450), (1, .int 1), (0, .ref x)]) rfl ?_
    refine g_aload_n C 3 dX11_eaters_35 rfl rfl ?_
    refine g_getR C K hLx hkx f_11_10 hb_492431 dX11_eaters_36 ?_
    refine g_iconst C (v := 0) dX11_eaters_39 (by decide) ?_
    refine h_putI C K hb_492431L hb_492431k f_11_102 p_10_5 dX11_eaters_40 (fun I_492458 hI_492458 => ?_)
    have hU_492459 := iv_put W9 hU hI_492458 (ro_o hb_492431k (by decide)) (lo := 0) (hi := 940) (rfl) (rg_w rc_0 (by decide) (by decide)) rfl
    have hF_492460 := fq_puto hF hI_492458 hb_492431k (by decide) (by decide)
    refine g_iload_n C 2 dX11_eaters_43 rfl rfl ?_
    refine g_if_eq C (tgt := 74) dX11_eaters_44 (by decide) (fun h_492461 => ?_) (fun h_492461 => ?_)
    · skip
      exact absurd h_492461 (by decide)
    · skip
      refine g_aload_n C 3 dX11_eaters_47 rfl rfl ?_
      refine g_getR C K hLx hkx f_11_19 hb_492432 dX11_eaters_48 ?_
      refine g_iload_n C 1 dX11_eaters_51 rfl rfl ?_
      refine g_callVI C K (c_X8_hasDish W9 hb_492432L hb_492432k x_492450  hU_492459) hb_492432L hb_492432k (by decide) rfl v_11_175 rfl ⟨rfl, rfl⟩ ⟨Nat.le_of_ble_eq_true rfl, Nat.le_of_ble_eq_true rfl⟩ (Nat.le_of_ble_eq_true rfl) ⟨Nat.le_of_ble_eq_true rfl, Nat.le_of_ble_eq_true rfl⟩ dX11_eaters_52 rfl (st := []) (fun x_492462 I_492463 J_492464 h_492465 => ?_)
      obtain ⟨rfl, rfl, rx_492462, ex_492462⟩ := h_492465
      refine g_if_eq C (tgt := 74) dX11_eaters_55 (by decide) (fun h_492466 => ?_) (fun h_492466 => ?_)
      · skip
        have r_492467 := (⟨(rx_492462).1, (eq_rg (h_492466) rc_0).2⟩ : Rg 0 0 x_492462)
        refine g_iconst C (v := (-1)) dX11_eaters_74 (by decide) ?_
        exact g_zret (ty := .int) (r := (-1)) B K rfl (rfl) ⟨hU_492459, hF_492460, hG, rg_all _⟩ dX11_eaters_75
      · skip
        have n_492468 : ¬ x_492462 = 0 := h_492466
        have r_492469 := ne_lo (lo := 1) n_492468 rx_492462 rc_0 rfl (by decide)
        have r_492470 := rg_i rx_492450 ((ex_492462) (rg_nz r_492469 (by decide))) (lo := 0) (hi := 5) (by decide) (by decide)
        refine g_aload_n C 3 dX11_eaters_58 rfl rfl ?_
        refine g_getR C K hLx hkx f_11_83 hb_492430 dX11_eaters_59 ?_
        refine g_aload_n C 3 dX11_eaters_62 rfl rfl ?_
        refine g_getR C K hLx hkx f_11_28 hb_492433 dX11_eaters_63 ?_
        refine g_iload_n C 1 dX11_eaters_66 rfl rfl ?_
        refine g_iload_n C 0 dX11_eaters_67 rfl rfl ?_
        refine g_callVI C K (c_X2_setsWith W9 hb_492430L hb_492430k hb_492433L hb_492433k x_492450 x_492454 (r_492470) (rx_492454) hU_492459) hb_492430L hb_492430k (by decide) rfl v_11_278 rfl ⟨rfl, rfl⟩ ⟨Nat.le_of_ble_eq_true rfl, Nat.le_of_ble_eq_true rfl⟩ (Nat.le_of_ble_eq_true rfl) ⟨Nat.le_of_ble_eq_true rfl, Nat.le_of_ble_eq_true rfl⟩ dX11_eaters_68 rfl (st := []) (fun x_492471 I_492472 J_492473 h_492474 => ?_)
        obtain ⟨hUI_492472, hFI_492472, hGJ_492473, rx_492471⟩ := h_492474
        have hF_492475 := fq_tr hF_492460 hFI_492472 (by decide)
        have hG_492476 := fq_tr hG hGJ_492473 (by decide)
        refine g_goto C (tgt := 75) dX11_eaters_71 (by decide) ?_
        exact g_zret (ty := .int) (r := x_492471) B K rfl (rfl) ⟨hUI_492472, hF_492475, hG_492476, rx_492471⟩ dX11_eaters_75
set_option maxRecDepth 100000 in
set_option maxHeartbeats 8000000 in
theorem c_X11_surely {l : Launch} {D : va_G} {cy : Nat → ClassId} {L : List Nat} {κ ln : Nat → Nat} {R : Nat → Nat → Option Nat} {I : Nat → Nat → Int32} {J : Nat → Nat → Int64} {ow : Nat → Nat × Nat} (W9 : ∀ a ∈ L, Shp L κ ln R ow a) {x : Nat} (hLx : x ∈ L) (hkx : κ x = 11) (hU : Iv L κ R ow I) : CtI l yX11_surely cX11_surely 1 (some .int) { frames := 0, cells := 0, slots := 0, locals := 0 } D cy L κ ln R I J [.ref x] (fun r I2 J2 => I = I2 ∧ J = J2 ∧ Rg (-2147483648) 2147483647 r) := by
  refine CtI.of (by decide +kernel) (Nat.le_of_ble_eq_true rfl) ?_
  intro p e s m below meth c B K
  have C := B.1
  obtain ⟨b_492481, hb_492481, hb_492481L, hb_492481k⟩ := shp_o (W9 x hLx) hkx 11 2 rfl (by decide)
  refine g_lo (is := [0]) (lo2 := [(0, .ref x)]) rfl ?_
  refine g_aload_n C 0 dX11_surely_0 rfl rfl ?_
  refine g_getR C K hLx hkx f_11_83 hb_492481 dX11_surely_1 ?_
  obtain ⟨x_492482, hx_492482, rx_492482⟩ := ex_get (I := I) (a := b_492481) (j := 1) (lo := (-2147483648)) (hi := 2147483647) hU.1 hb_492481L (ro_o hb_492481k (by decide)) rfl
  refine g_getI C K hb_492481L hb_492481k f_11_282 (v := x_492482) hx_492482 dX11_surely_4 ?_
  exact g_zret (ty := .int) (r := x_492482) B K rfl (rfl) ⟨rfl, rfl, rx_492482⟩ dX11_surely_7
