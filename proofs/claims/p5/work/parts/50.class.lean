theorem dX10_byteOf_0 : decode cX10_byteOf 0 = .ok (.iload_n 1, 1) := by decide +kernel
theorem dX10_byteOf_1 : decode cX10_byteOf 1 = .ok (.ifCond .lt 33, 3) := by decide +kernel
theorem dX10_byteOf_4 : decode cX10_byteOf 4 = .ok (.iload_n 1, 1) := by decide +kernel
theorem dX10_byteOf_5 : decode cX10_byteOf 5 = .ok (.aload_n 0, 1) := by decide +kernel
theorem dX10_byteOf_6 : decode cX10_byteOf 6 = .ok (.getfield 29, 3) := by decide +kernel
theorem dX10_byteOf_9 : decode cX10_byteOf 9 = .ok (.if_icmp .ge 25, 3) := by decide +kernel
theorem dX10_byteOf_12 : decode cX10_byteOf 12 = .ok (.iload_n 1, 1) := by decide +kernel
theorem dX10_byteOf_13 : decode cX10_byteOf 13 = .ok (.aload_n 0, 1) := by decide +kernel
theorem dX10_byteOf_14 : decode cX10_byteOf 14 = .ok (.getfield 9, 3) := by decide +kernel
theorem dX10_byteOf_17 : decode cX10_byteOf 17 = .ok (.arraylength, 1) := by decide +kernel
theorem dX10_byteOf_18 : decode cX10_byteOf 18 = .ok (.if_icmp .ge 16, 3) := by decide +kernel
theorem dX10_byteOf_21 : decode cX10_byteOf 21 = .ok (.aload_n 0, 1) := by decide +kernel
theorem dX10_byteOf_22 : decode cX10_byteOf 22 = .ok (.getfield 9, 3) := by decide +kernel
theorem dX10_byteOf_25 : decode cX10_byteOf 25 = .ok (.iload_n 1, 1) := by decide +kernel
theorem dX10_byteOf_26 : decode cX10_byteOf 26 = .ok (.baload, 1) := by decide +kernel
theorem dX10_byteOf_27 : decode cX10_byteOf 27 = .ok (.sipush 255, 3) := by decide +kernel
theorem dX10_byteOf_30 : decode cX10_byteOf 30 = .ok (.iand, 1) := by decide +kernel
theorem dX10_byteOf_31 : decode cX10_byteOf 31 = .ok (.goto 4, 3) := by decide +kernel
theorem dX10_byteOf_34 : decode cX10_byteOf 34 = .ok (.iconst (-1), 1) := by decide +kernel
theorem dX10_byteOf_35 : decode cX10_byteOf 35 = .ok (.ireturn, 1) := by decide +kernel
theorem dX11_eaters_0 : decode cX11_eaters 0 = .ok (.aload_n 0, 1) := by decide +kernel
theorem dX11_eaters_1 : decode cX11_eaters 1 = .ok (.getfield 10, 3) := by decide +kernel
theorem dX11_eaters_4 : decode cX11_eaters 4 = .ok (.getfield 102, 3) := by decide +kernel
theorem dX11_eaters_7 : decode cX11_eaters 7 = .ok (.iconst 2, 1) := by decide +kernel
theorem dX11_eaters_8 : decode cX11_eaters 8 = .ok (.if_icmp .ne 7, 3) := by decide +kernel
theorem dX11_eaters_11 : decode cX11_eaters 11 = .ok (.iconst 1, 1) := by decide +kernel
theorem dX11_eaters_12 : decode cX11_eaters 12 = .ok (.goto 4, 3) := by decide +kernel
theorem dX11_eaters_15 : decode cX11_eaters 15 = .ok (.iconst 0, 1) := by decide +kernel
theorem dX11_eaters_16 : decode cX11_eaters 16 = .ok (.istore_n 1, 1) := by decide +kernel
theorem dX11_eaters_17 : decode cX11_eaters 17 = .ok (.aload_n 0, 1) := by decide +kernel
theorem dX11_eaters_18 : decode cX11_eaters 18 = .ok (.getfield 10, 3) := by decide +kernel
theorem dX11_eaters_21 : decode cX11_eaters 21 = .ok (.iconst 0, 1) := by decide +kernel
theorem dX11_eaters_22 : decode cX11_eaters 22 = .ok (.invokevirtual 275, 3) := by decide +kernel
theorem dX11_eaters_25 : decode cX11_eaters 25 = .ok (.istore_n 2, 1) := by decide +kernel
theorem dX11_eaters_26 : decode cX11_eaters 26 = .ok (.aload_n 0, 1) := by decide +kernel
theorem dX11_eaters_27 : decode cX11_eaters 27 = .ok (.getfield 10, 3) := by decide +kernel
theorem dX11_eaters_30 : decode cX11_eaters 30 = .ok (.iconst 1, 1) := by decide +kernel
theorem dX11_eaters_31 : decode cX11_eaters 31 = .ok (.invokevirtual 275, 3) := by decide +kernel
theorem dX11_eaters_34 : decode cX11_eaters 34 = .ok (.istore_n 3, 1) := by decide +kernel
theorem dX11_eaters_35 : decode cX11_eaters 35 = .ok (.aload_n 0, 1) := by decide +kernel
theorem dX11_eaters_36 : decode cX11_eaters 36 = .ok (.getfield 10, 3) := by decide +kernel
theorem dX11_eaters_39 : decode cX11_eaters 39 = .ok (.iconst 0, 1) := by decide +kernel
theorem dX11_eaters_40 : decode cX11_eaters 40 = .ok (.putfield 102, 3) := by decide +kernel
theorem dX11_eaters_43 : decode cX11_eaters 43 = .ok (.iload_n 1, 1) := by decide +kernel
theorem dX11_eaters_44 : decode cX11_eaters 44 = .ok (.ifCond .eq 30, 3) := by decide +kernel
theorem dX11_eaters_47 : decode cX11_eaters 47 = .ok (.aload_n 0, 1) := by decide +kernel
theorem dX11_eaters_48 : decode cX11_eaters 48 = .ok (.getfield 19, 3) := by decide +kernel
theorem dX11_eaters_51 : decode cX11_eaters 51 = .ok (.iload_n 2, 1) := by decide +kernel
theorem dX11_eaters_52 : decode cX11_eaters 52 = .ok (.invokevirtual 175, 3) := by decide +kernel
theorem dX11_eaters_55 : decode cX11_eaters 55 = .ok (.ifCond .eq 19, 3) := by decide +kernel
theorem dX11_eaters_58 : decode cX11_eaters 58 = .ok (.aload_n 0, 1) := by decide +kernel
theorem dX11_eaters_59 : decode cX11_eaters 59 = .ok (.getfield 83, 3) := by decide +kernel
theorem dX11_eaters_62 : decode cX11_eaters 62 = .ok (.aload_n 0, 1) := by decide +kernel
theorem dX11_eaters_63 : decode cX11_eaters 63 = .ok (.getfield 28, 3) := by decide +kernel
theorem dX11_eaters_66 : decode cX11_eaters 66 = .ok (.iload_n 2, 1) := by decide +kernel
theorem dX11_eaters_67 : decode cX11_eaters 67 = .ok (.iload_n 3, 1) := by decide +kernel
theorem dX11_eaters_68 : decode cX11_eaters 68 = .ok (.invokevirtual 278, 3) := by decide +kernel
theorem dX11_eaters_71 : decode cX11_eaters 71 = .ok (.goto 4, 3) := by decide +kernel
theorem dX11_eaters_74 : decode cX11_eaters 74 = .ok (.iconst (-1), 1) := by decide +kernel
theorem dX11_eaters_75 : decode cX11_eaters 75 = .ok (.ireturn, 1) := by decide +kernel
theorem dX11_order_0 : decode cX11_order 0 = .ok (.aload_n 0, 1) := by decide +kernel
theorem dX11_order_1 : decode cX11_order 1 = .ok (.getfield 69, 3) := by decide +kernel
theorem dX11_order_4 : decode cX11_order 4 = .ok (.aload_n 0, 1) := by decide +kernel
theorem dX11_order_5 : decode cX11_order 5 = .ok (.getfield 28, 3) := by decide +kernel
theorem dX11_order_8 : decode cX11_order 8 = .ok (.invokevirtual 266, 3) := by decide +kernel
theorem dX11_order_11 : decode cX11_order 11 = .ok (.ireturn, 1) := by decide +kernel
theorem dX11_orderAt_0 : decode cX11_orderAt 0 = .ok (.iload_n 1, 1) := by decide +kernel
theorem dX11_orderAt_1 : decode cX11_orderAt 1 = .ok (.ifCond .lt 26, 3) := by decide +kernel
theorem dX11_orderAt_4 : decode cX11_orderAt 4 = .ok (.iload_n 1, 1) := by decide +kernel
theorem dX11_orderAt_5 : decode cX11_orderAt 5 = .ok (.aload_n 0, 1) := by decide +kernel
theorem dX11_orderAt_6 : decode cX11_orderAt 6 = .ok (.getfield 69, 3) := by decide +kernel
theorem dX11_orderAt_9 : decode cX11_orderAt 9 = .ok (.getfield 269, 3) := by decide +kernel
theorem dX11_orderAt_12 : decode cX11_orderAt 12 = .ok (.if_icmp .ge 15, 3) := by decide +kernel
theorem dX11_orderAt_15 : decode cX11_orderAt 15 = .ok (.aload_n 0, 1) := by decide +kernel
theorem dX11_orderAt_16 : decode cX11_orderAt 16 = .ok (.getfield 69, 3) := by decide +kernel
theorem dX11_orderAt_19 : decode cX11_orderAt 19 = .ok (.getfield 272, 3) := by decide +kernel
theorem dX11_orderAt_22 : decode cX11_orderAt 22 = .ok (.iload_n 1, 1) := by decide +kernel
theorem dX11_orderAt_23 : decode cX11_orderAt 23 = .ok (.iaload, 1) := by decide +kernel
theorem dX11_orderAt_24 : decode cX11_orderAt 24 = .ok (.goto 4, 3) := by decide +kernel
theorem dX11_orderAt_27 : decode cX11_orderAt 27 = .ok (.iconst (-1), 1) := by decide +kernel
theorem dX11_orderAt_28 : decode cX11_orderAt 28 = .ok (.ireturn, 1) := by decide +kernel
theorem dX11_surely_0 : decode cX11_surely 0 = .ok (.aload_n 0, 1) := by decide +kernel
theorem dX11_surely_1 : decode cX11_surely 1 = .ok (.getfield 83, 3) := by decide +kernel
theorem dX11_surely_4 : decode cX11_surely 4 = .ok (.getfield 282, 3) := by decide +kernel
theorem dX11_surely_7 : decode cX11_surely 7 = .ok (.ireturn, 1) := by decide +kernel
theorem dX2_countIn_0 : decode cX2_countIn 0 = .ok (.iconst 0, 1) := by decide +kernel
theorem dX2_countIn_1 : decode cX2_countIn 1 = .ok (.istore_n 2, 1) := by decide +kernel
theorem dX2_countIn_2 : decode cX2_countIn 2 = .ok (.iload_n 2, 1) := by decide +kernel
theorem dX2_countIn_3 : decode cX2_countIn 3 = .ok (.bipush 7, 2) := by decide +kernel
theorem dX2_countIn_5 : decode cX2_countIn 5 = .ok (.if_icmp .ge 23, 3) := by decide +kernel
theorem dX2_countIn_8 : decode cX2_countIn 8 = .ok (.aload_n 0, 1) := by decide +kernel
theorem dX2_countIn_9 : decode cX2_countIn 9 = .ok (.getfield 9, 3) := by decide +kernel
theorem dX2_countIn_12 : decode cX2_countIn 12 = .ok (.iload_n 2, 1) := by decide +kernel
theorem dX2_countIn_13 : decode cX2_countIn 13 = .ok (.dup2, 1) := by decide +kernel
theorem dX2_countIn_14 : decode cX2_countIn 14 = .ok (.iaload, 1) := by decide +kernel
theorem dX2_countIn_15 : decode cX2_countIn 15 = .ok (.iload_n 1, 1) := by decide +kernel
theorem dX2_countIn_16 : decode cX2_countIn 16 = .ok (.iload_n 2, 1) := by decide +kernel
theorem dX2_countIn_17 : decode cX2_countIn 17 = .ok (.ishr, 1) := by decide +kernel
theorem dX2_countIn_18 : decode cX2_countIn 18 = .ok (.iconst 1, 1) := by decide +kernel
theorem dX2_countIn_19 : decode cX2_countIn 19 = .ok (.iand, 1) := by decide +kernel
theorem dX2_countIn_20 : decode cX2_countIn 20 = .ok (.iadd, 1) := by decide +kernel
theorem dX2_countIn_21 : decode cX2_countIn 21 = .ok (.iastore, 1) := by decide +kernel
theorem dX2_countIn_22 : decode cX2_countIn 22 = .ok (.iinc 2 1, 3) := by decide +kernel
theorem dX2_countIn_25 : decode cX2_countIn 25 = .ok (.goto (-23), 3) := by decide +kernel
theorem dX2_countIn_28 : decode cX2_countIn 28 = .ok (.return_, 1) := by decide +kernel
theorem dX2_nearestToHalf_0 : decode cX2_nearestToHalf 0 = .ok (.iconst (-1), 1) := by decide +kernel
theorem dX2_nearestToHalf_1 : decode cX2_nearestToHalf 1 = .ok (.istore_n 3, 1) := by decide +kernel
theorem dX2_nearestToHalf_2 : decode cX2_nearestToHalf 2 = .ok (.sipush 1000, 3) := by decide +kernel
theorem dX2_nearestToHalf_5 : decode cX2_nearestToHalf 5 = .ok (.istore 4, 2) := by decide +kernel
theorem dX2_nearestToHalf_7 : decode cX2_nearestToHalf 7 = .ok (.iconst 0, 1) := by decide +kernel
theorem dX2_nearestToHalf_8 : decode cX2_nearestToHalf 8 = .ok (.istore 5, 2) := by decide +kernel
theorem dX2_nearestToHalf_10 : decode cX2_nearestToHalf 10 = .ok (.iload 5, 2) := by decide +kernel
theorem dX2_nearestToHalf_12 : decode cX2_nearestToHalf 12 = .ok (.iload_n 1, 1) := by decide +kernel
theorem dX2_nearestToHalf_13 : decode cX2_nearestToHalf 13 = .ok (.if_icmp .ge 39, 3) := by decide +kernel
theorem dX2_nearestToHalf_16 : decode cX2_nearestToHalf 16 = .ok (.iconst 2, 1) := by decide +kernel
theorem dX2_nearestToHalf_17 : decode cX2_nearestToHalf 17 = .ok (.aload_n 0, 1) := by decide +kernel
theorem dX2_nearestToHalf_18 : decode cX2_nearestToHalf 18 = .ok (.getfield 9, 3) := by decide +kernel
theorem dX2_nearestToHalf_21 : decode cX2_nearestToHalf 21 = .ok (.iload 5, 2) := by decide +kernel
theorem dX2_nearestToHalf_23 : decode cX2_nearestToHalf 23 = .ok (.iaload, 1) := by decide +kernel
theorem dX2_nearestToHalf_24 : decode cX2_nearestToHalf 24 = .ok (.imul, 1) := by decide +kernel
theorem dX2_nearestToHalf_25 : decode cX2_nearestToHalf 25 = .ok (.iload_n 2, 1) := by decide +kernel
theorem dX2_nearestToHalf_26 : decode cX2_nearestToHalf 26 = .ok (.isub, 1) := by decide +kernel
theorem dX2_nearestToHalf_27 : decode cX2_nearestToHalf 27 = .ok (.invokestatic 48, 3) := by decide +kernel
theorem dX2_nearestToHalf_30 : decode cX2_nearestToHalf 30 = .ok (.istore 6, 2) := by decide +kernel
theorem dX2_nearestToHalf_32 : decode cX2_nearestToHalf 32 = .ok (.iload 6, 2) := by decide +kernel
theorem dX2_nearestToHalf_34 : decode cX2_nearestToHalf 34 = .ok (.iload 4, 2) := by decide +kernel
theorem dX2_nearestToHalf_36 : decode cX2_nearestToHalf 36 = .ok (.if_icmp .ge 10, 3) := by decide +kernel
theorem dX2_nearestToHalf_39 : decode cX2_nearestToHalf 39 = .ok (.iload 6, 2) := by decide +kernel
theorem dX2_nearestToHalf_41 : decode cX2_nearestToHalf 41 = .ok (.istore 4, 2) := by decide +kernel
theorem dX2_nearestToHalf_43 : decode cX2_nearestToHalf 43 = .ok (.iload 5, 2) := by decide +kernel
theorem dX2_nearestToHalf_45 : decode cX2_nearestToHalf 45 = .ok (.istore_n 3, 1) := by decide +kernel
theorem dX2_nearestToHalf_46 : decode cX2_nearestToHalf 46 = .ok (.iinc 5 1, 3) := by decide +kernel
theorem dX2_nearestToHalf_49 : decode cX2_nearestToHalf 49 = .ok (.goto (-39), 3) := by decide +kernel
theorem dX2_nearestToHalf_52 : decode cX2_nearestToHalf 52 = .ok (.iload_n 3, 1) := by decide +kernel
theorem dX2_nearestToHalf_53 : decode cX2_nearestToHalf 53 = .ok (.ireturn, 1) := by decide +kernel
theorem dX2_setsWith_0 : decode cX2_setsWith 0 = .ok (.aload_n 1, 1) := by decide +kernel
theorem dX2_setsWith_1 : decode cX2_setsWith 1 = .ok (.getfield 22, 3) := by decide +kernel
theorem dX2_setsWith_4 : decode cX2_setsWith 4 = .ok (.invokevirtual 28, 3) := by decide +kernel
theorem dX2_setsWith_7 : decode cX2_setsWith 7 = .ok (.istore 4, 2) := by decide +kernel
theorem dX2_setsWith_9 : decode cX2_setsWith 9 = .ok (.iconst 0, 1) := by decide +kernel
theorem dX2_setsWith_10 : decode cX2_setsWith 10 = .ok (.istore 5, 2) := by decide +kernel
theorem dX2_setsWith_12 : decode cX2_setsWith 12 = .ok (.iload 4, 2) := by decide +kernel
theorem dX2_setsWith_14 : decode cX2_setsWith 14 = .ok (.istore 6, 2) := by decide +kernel
theorem dX2_setsWith_16 : decode cX2_setsWith 16 = .ok (.iconst 0, 1) := by decide +kernel
theorem dX2_setsWith_17 : decode cX2_setsWith 17 = .ok (.istore 7, 2) := by decide +kernel
theorem dX2_setsWith_19 : decode cX2_setsWith 19 = .ok (.iload 7, 2) := by decide +kernel
theorem dX2_setsWith_21 : decode cX2_setsWith 21 = .ok (.bipush 7, 2) := by decide +kernel
theorem dX2_setsWith_23 : decode cX2_setsWith 23 = .ok (.if_icmp .ge 17, 3) := by decide +kernel
theorem dX2_setsWith_26 : decode cX2_setsWith 26 = .ok (.aload_n 0, 1) := by decide +kernel
theorem dX2_setsWith_27 : decode cX2_setsWith 27 = .ok (.getfield 9, 3) := by decide +kernel
theorem dX2_setsWith_30 : decode cX2_setsWith 30 = .ok (.iload 7, 2) := by decide +kernel
theorem dX2_setsWith_32 : decode cX2_setsWith 32 = .ok (.iconst 0, 1) := by decide +kernel
theorem dX2_setsWith_33 : decode cX2_setsWith 33 = .ok (.iastore, 1) := by decide +kernel
theorem dX2_setsWith_34 : decode cX2_setsWith 34 = .ok (.iinc 7 1, 3) := by decide +kernel
theorem dX2_setsWith_37 : decode cX2_setsWith 37 = .ok (.goto (-18), 3) := by decide +kernel
theorem dX2_setsWith_40 : decode cX2_setsWith 40 = .ok (.iconst 0, 1) := by decide +kernel
theorem dX2_setsWith_41 : decode cX2_setsWith 41 = .ok (.istore 7, 2) := by decide +kernel
theorem dX2_setsWith_43 : decode cX2_setsWith 43 = .ok (.iload 7, 2) := by decide +kernel
theorem dX2_setsWith_45 : decode cX2_setsWith 45 = .ok (.iload 4, 2) := by decide +kernel
theorem dX2_setsWith_47 : decode cX2_setsWith 47 = .ok (.if_icmp .gt 36, 3) := by decide +kernel
theorem dX2_setsWith_50 : decode cX2_setsWith 50 = .ok (.aload_n 1, 1) := by decide +kernel
theorem dX2_setsWith_51 : decode cX2_setsWith 51 = .ok (.iload 7, 2) := by decide +kernel
theorem dX2_setsWith_53 : decode cX2_setsWith 53 = .ok (.iload_n 2, 1) := by decide +kernel
theorem dX2_setsWith_54 : decode cX2_setsWith 54 = .ok (.invokevirtual 34, 3) := by decide +kernel
theorem dX2_setsWith_57 : decode cX2_setsWith 57 = .ok (.iload_n 3, 1) := by decide +kernel
theorem dX2_setsWith_58 : decode cX2_setsWith 58 = .ok (.if_icmp .ne 19, 3) := by decide +kernel
theorem dX2_setsWith_61 : decode cX2_setsWith 61 = .ok (.iinc 5 1, 3) := by decide +kernel
theorem dX2_setsWith_64 : decode cX2_setsWith 64 = .ok (.iload 6, 2) := by decide +kernel
theorem dX2_setsWith_66 : decode cX2_setsWith 66 = .ok (.iload 7, 2) := by decide +kernel
theorem dX2_setsWith_68 : decode cX2_setsWith 68 = .ok (.iand, 1) := by decide +kernel
theorem dX2_setsWith_69 : decode cX2_setsWith 69 = .ok (.istore 6, 2) := by decide +kernel
theorem dX2_setsWith_71 : decode cX2_setsWith 71 = .ok (.aload_n 0, 1) := by decide +kernel
theorem dX2_setsWith_72 : decode cX2_setsWith 72 = .ok (.iload 7, 2) := by decide +kernel
theorem dX2_setsWith_74 : decode cX2_setsWith 74 = .ok (.invokevirtual 38, 3) := by decide +kernel
theorem dX2_setsWith_77 : decode cX2_setsWith 77 = .ok (.iinc 7 1, 3) := by decide +kernel
theorem dX2_setsWith_80 : decode cX2_setsWith 80 = .ok (.goto (-37), 3) := by decide +kernel
theorem dX2_setsWith_83 : decode cX2_setsWith 83 = .ok (.iload 5, 2) := by decide +kernel
theorem dX2_setsWith_85 : decode cX2_setsWith 85 = .ok (.ifCond .le 26, 3) := by decide +kernel
theorem dX2_setsWith_88 : decode cX2_setsWith 88 = .ok (.aload_n 0, 1) := by decide +kernel
theorem dX2_setsWith_89 : decode cX2_setsWith 89 = .ok (.iload 6, 2) := by decide +kernel
theorem dX2_setsWith_91 : decode cX2_setsWith 91 = .ok (.putfield 15, 3) := by decide +kernel
theorem dX2_setsWith_94 : decode cX2_setsWith 94 = .ok (.aload_n 0, 1) := by decide +kernel
theorem dX2_setsWith_95 : decode cX2_setsWith 95 = .ok (.aload_n 0, 1) := by decide +kernel
theorem dX2_setsWith_96 : decode cX2_setsWith 96 = .ok (.aload_n 1, 1) := by decide +kernel
theorem dX2_setsWith_97 : decode cX2_setsWith 97 = .ok (.getfield 22, 3) := by decide +kernel
theorem dX2_setsWith_100 : decode cX2_setsWith 100 = .ok (.getfield 42, 3) := by decide +kernel
theorem dX2_setsWith_103 : decode cX2_setsWith 103 = .ok (.iload 5, 2) := by decide +kernel
theorem dX2_setsWith_105 : decode cX2_setsWith 105 = .ok (.invokevirtual 45, 3) := by decide +kernel
theorem dX2_setsWith_108 : decode cX2_setsWith 108 = .ok (.putfield 19, 3) := by decide +kernel
theorem dX2_setsWith_111 : decode cX2_setsWith 111 = .ok (.iload 5, 2) := by decide +kernel
theorem dX2_setsWith_113 : decode cX2_setsWith 113 = .ok (.ireturn, 1) := by decide +kernel
theorem dX4_findFrom_0 : decode cX4_findFrom 0 = .ok (.aload_n 0, 1) := by decide +kernel
theorem dX4_findFrom_1 : decode cX4_findFrom 1 = .ok (.aload_n 1, 1) := by decide +kernel
theorem dX4_findFrom_2 : decode cX4_findFrom 2 = .ok (.invokevirtual 34, 3) := by decide +kernel
theorem dX4_findFrom_5 : decode cX4_findFrom 5 = .ok (.invokestatic 38, 3) := by decide +kernel
theorem dX4_findFrom_8 : decode cX4_findFrom 8 = .ok (.putfield 24, 3) := by decide +kernel
theorem dX4_findFrom_11 : decode cX4_findFrom 11 = .ok (.aload_n 0, 1) := by decide +kernel
theorem dX4_findFrom_12 : decode cX4_findFrom 12 = .ok (.sipush 1000, 3) := by decide +kernel
theorem dX4_findFrom_15 : decode cX4_findFrom 15 = .ok (.putfield 28, 3) := by decide +kernel
theorem dX4_findFrom_18 : decode cX4_findFrom 18 = .ok (.aload_n 0, 1) := by decide +kernel
theorem dX4_findFrom_19 : decode cX4_findFrom 19 = .ok (.getfield 11, 3) := by decide +kernel
theorem dX4_findFrom_22 : decode cX4_findFrom 22 = .ok (.iconst 0, 1) := by decide +kernel
theorem dX4_findFrom_23 : decode cX4_findFrom 23 = .ok (.aaload, 1) := by decide +kernel
theorem dX4_findFrom_24 : decode cX4_findFrom 24 = .ok (.aload_n 1, 1) := by decide +kernel
theorem dX4_findFrom_25 : decode cX4_findFrom 25 = .ok (.invokevirtual 44, 3) := by decide +kernel
theorem dX4_findFrom_28 : decode cX4_findFrom 28 = .ok (.aload_n 0, 1) := by decide +kernel
theorem dX4_findFrom_29 : decode cX4_findFrom 29 = .ok (.iconst 0, 1) := by decide +kernel
theorem dX4_findFrom_30 : decode cX4_findFrom 30 = .ok (.aload_n 1, 1) := by decide +kernel
theorem dX4_findFrom_31 : decode cX4_findFrom 31 = .ok (.invokevirtual 34, 3) := by decide +kernel
theorem dX4_findFrom_34 : decode cX4_findFrom 34 = .ok (.iconst 0, 1) := by decide +kernel
theorem dX4_findFrom_35 : decode cX4_findFrom 35 = .ok (.invokevirtual 48, 3) := by decide +kernel
theorem dX4_findFrom_38 : decode cX4_findFrom 38 = .ok (.aload_n 0, 1) := by decide +kernel
theorem dX4_findFrom_39 : decode cX4_findFrom 39 = .ok (.getfield 28, 3) := by decide +kernel
theorem dX4_findFrom_42 : decode cX4_findFrom 42 = .ok (.ireturn, 1) := by decide +kernel
theorem rc_255 : Rg 255 255 255 := ⟨by decide, by decide⟩
theorem rc_1000 : Rg 1000 1000 1000 := ⟨by decide, by decide⟩
set_option maxRecDepth 100000 in
set_option maxHeartbeats 8000000 in
theorem c_X4_goOn_4 {l : Launch} {D : va_G} {cy : Nat → ClassId} {L : List Nat} {κ ln : Nat → Nat} {R : Nat → Nat → Option Nat} {I : Nat → Nat → Int32} {J : Nat → Nat → Int64} {ow : Nat → Nat × Nat} (W9 : ∀ a ∈ L, Shp L κ ln R ow a) {x : Nat} (hLx : x ∈ L) (hkx : κ x = 4) (a0 : Int32) (a1 : Int32) (a2 : Int32) (ra0 : Rg 4 4 a0) (ra1 : Rg 0 127 a1) (hU : Iv L κ R ow I) : CtV l yX4_goOn cX4_goOn 9 none { frames := 6, cells := 0, slots := 0, locals := 163 } D cy L κ ln R I J [.ref x, .int a0, .int a1, .int a2] (fun I2 J2 => Iv L κ R ow I2 ∧ Fq L κ ow [107, 108, 109, 110, 111, 112, 404, 16100, 16200, 16300, 16400, 16500, 16600, 34100, 34200] I I2 ∧ Fq L κ ow [] J J2) := by
  refine CtV.of (by decide +kernel) (Nat.le_of_ble_eq_true rfl) ?_
  intro p e s m below meth c B K
  have C := B.1
  have hF : Fq L κ ow [107, 108, 109, 110, 111, 112, 404, 16100, 16200, 16300, 16400, 16500, 16600, 34100, 34200] I I := fq_rf
  have hG : Fq L κ ow [] J J := fq_rf
  obtain ⟨b_1, hb_1, hb_1L, hb_1k, hb_1n, hb_1o⟩ := shp_a (W9 x hLx) hkx 2 14 7 rfl (by decide)
  obtain ⟨b_2, hb_2, hb_2L, hb_2k, hb_2n, hb_2o⟩ := shp_a (W9 x hLx) hkx 1 14 7 rfl (by decide)
  obtain ⟨b_3, hb_3, hb_3L, hb_3k, hb_3n, hb_3o⟩ := shp_a (W9 x hLx) hkx 0 17 8 rfl (by decide)
  refine g_lo (is := [0, 1, 2, 3]) (lo2 := [(0, .ref x), (1, .int a0), (2, .int a1), (3, .int a2)]) rfl ?_
  have j_10 : ∀ (I_4 : Nat → Nat → Int32) (J_5 : Nat → Nat → Int64) (hU_6 : Iv L κ R ow I_4) (hF_7 : Fq L κ ow [107, 108, 109, 110, 111, 112, 404, 16100, 16200, 16300, 16400, 16500, 16600, 34100, 34200] I I_4) (hG_8 : Fq L κ ow [] J J_5) (v_9 : Int32) (rv_9 : Rg 4 4 v_9) (v_10 : Int32) (rv_10 : Rg 0 0 v_10) (v_11 : Int32), WG p l e { frames := 6, cells := 0, slots := 0, locals := 163 } s m ([.ref x, .int a0, .int a1, .int a2] : List Value).toArray below meth c 9 0 0 (MQ below (Qv_ D cy L κ ln R (fun I2 J2 => Iv L κ R ow I2 ∧ Fq L κ ow [107, 108, 109, 110, 111, 112, 404, 16100, 16200, 16300, 16400, 16500, 16600, 34100, 34200] I I2 ∧ Fq L κ ow [] J J2)) ([.ref x, .int a0, .int a1, .int a2] : List Value).toArray s 0 0 (Al_ L)) D cy (Al_ L) s.heap L κ ln R I_4 J_5 10 [(0, .ref x), (1, .int v_9), (2, .int v_10), (3, .int v_11)] [] := by
    intro I_4 J_5 hU_6 hF_7 hG_8 v_9 rv_9 v_10 rv_10 v_11
    refine g_aload_n C 0 dX4_goOn_10 rfl rfl ?_
    refine g_iload_n C 3 dX4_goOn_11 rfl rfl ?_
    refine h_putI C K hLx hkx f_4_28 p_4_4 dX4_goOn_12 (fun I_12 hI_12 => ?_)
    have hU_13 := iv_put W9 hU_6 hI_12 (ro_o hkx (by decide)) (lo := (-2147483648)) (hi := 2147483647) (rfl) ((rg_all v_11)) rfl
    have hF_14 := fq_puto hF_7 hI_12 hkx (by decide) (by decide)
    refine g_aload_n C 0 dX4_goOn_15 rfl rfl ?_
    refine g_getR C K hLx hkx f_4_17 hb_2 dX4_goOn_16 ?_
    refine g_iconst C (v := 0) dX4_goOn_19 (by decide) ?_
    refine g_aload_n C 0 dX4_goOn_20 rfl rfl ?_
    refine g_getR C K hLx hkx f_4_21 hb_1 dX4_goOn_21 ?_
    refine g_iconst C (v := 0) dX4_goOn_24 (by decide) ?_
    refine g_bipush C (v := 7) dX4_goOn_25 (by decide) ?_
    refine h_copyI C K hb_1L hb_1k hb_2L hb_2k ac_4_52 7 (by decide) (by decide) (by rw [hb_2n]; decide) (by rw [hb_1n]; decide) w_cp (Nat.le_of_ble_eq_true rfl) (Nat.le_of_ble_eq_true rfl) dX4_goOn_27 (fun I_15 hI_15 => ?_)
    have hU_16 := iv_cp W9 hU_13 (uv_cpf hU_13.1 hI_15 (ro_a hb_1k (by decide) hb_1o hkx rfl) (fun _ => rfl)) hI_15 (ro_a hb_1k (by decide) hb_1o hkx rfl) (fun _ => rfl)
    have hF_17 := fq_cp hF_14 hI_15 (ro_a hb_1k (by decide) hb_1o hkx rfl) (by decide) (by decide)
    exact g_vret B K rfl ⟨hU_16, hF_17, hG_8⟩ dX4_goOn_30
  have l_52 : ∀ (n_52 : Nat) (I_18 : Nat → Nat → Int32) (J_19 : Nat → Nat → Int64) (hU_20 : Iv L κ R ow I_18) (hF_21 : Fq L κ ow [107, 108, 109, 110, 111, 112, 404, 16100, 16200, 16300, 16400, 16500, 16600, 34100, 34200] I I_18) (hG_22 : Fq L κ ow [] J J_19) (v_23 : Int32) (rv_23 : Rg 4 4 v_23) (v_24 : Int32) (rv_24 : Rg 1 127 v_24) (nv_24_0 : ¬ v_24 = 0) (v_25 : Int32) {b_26 : Nat} (hb_26L : b_26 ∈ L) (hb_26k : κ b_26 = 1) {b_27 : Nat} (hb_27L : b_27 ∈ L) (hb_27k : κ b_27 = 1) (v_28 : Int32) (rv_28 : Rg 0 7 v_28) (hm_29 : 7 < (v_28 : Int32).toInt + (n_52 : Int)), WG p l e { frames := 6, cells := 0, slots := 0, locals := 163 } s m ([.ref x, .int a0, .int a1, .int a2] : List Value).toArray below meth c 9 0 0 (MQ below (Qv_ D cy L κ ln R (fun I2 J2 => Iv L κ R ow I2 ∧ Fq L κ ow [107, 108, 109, 110, 111, 112, 404, 16100, 16200, 16300, 16400, 16500, 16600, 34100, 34200] I I2 ∧ Fq L κ ow [] J J2)) ([.ref x, .int a0, .int a1, .int a2] : List Value).toArray s 0 0 (Al_ L)) D cy (Al_ L) s.heap L κ ln R I_18 J_19 52 [(0, .ref x), (1, .int v_23), (2, .int v_24), (3, .int v_25), (4, .ref b_26), (5, .ref b_27), (6, .int v_28)] [] := by
    intro n_52
    induction n_52 with
    | zero =>
      intro I_18 J_19 hU_20 hF_21 hG_22 v_23 rv_23 v_24 rv_24 nv_24_0 v_25 b_26 hb_26L hb_26k b_27 hb_27L hb_27k v_28 rv_28 hm_29
      exact ms_0 rv_28 hm_29
    | succ n_52 ih_52 =>
      intro I_18 J_19 hU_20 hF_21 hG_22 v_23 rv_23 v_24 rv_24 nv_24_0 v_25 b_26 hb_26L hb_26k b_27 hb_27L hb_27k v_28 rv_28 hm_29
      have j_147 : ∀ (I_30 : Nat → Nat → Int32) (J_31 : Nat → Nat → Int64) (hU_32 : Iv L κ R ow I_30) (hF_33 : Fq L κ ow [107, 108, 109, 110, 111, 112, 404, 16100, 16200, 16300, 16400, 16500, 16600, 34100, 34200] I I_30) (hG_34 : Fq L κ ow [] J J_31) (v_35 : Int32) (rv_35 : Rg 4 4 v_35) (v_36 : Int32) (rv_36 : Rg 1 127 v_36) (nv_36_0 : ¬ v_36 = 0) (v_37 : Int32) {b_38 : Nat} (hb_38L : b_38 ∈ L) (hb_38k : κ b_38 = 1) {b_39 : Nat} (hb_39L : b_39 ∈ L) (hb_39k : κ b_39 = 1) (v_40 : Int32) (rv_40 : Rg 0 6 v_40) (hm_41 : 7 < (v_40 : Int32).toInt + ((n_52 + 1 : Nat) : Int)), WG p l e { frames := 6, cells := 0, slots := 0, locals := 163 } s m ([.ref x, .int a0, .int a1, .int a2] : List Value).toArray below meth c 9 0 0 (MQ below (Qv_ D cy L κ ln R (fun I2 J2 => Iv L κ R ow I2 ∧ Fq L κ ow [107, 108, 109, 110, 111, 112, 404, 16100, 16200, 16300, 16400, 16500, 16600, 34100, 34200] I I2 ∧ Fq L κ ow [] J J2)) ([.ref x, .int a0, .int a1, .int a2] : List Value).toArray s 0 0 (Al_ L)) D cy (Al_ L) s.heap L κ ln R I_30 J_31 147 [(0, .ref x), (1, .int v_35), (2, .int v_36), (3, .int v_37), (4, .ref b_38), (5, .ref b_39), (6, .int v_40)] [] := by
        intro I_30 J_31 hU_32 hF_33 hG_34 v_35 rv_35 v_36 rv_36 nv_36_0 v_37 b_38 hb_38L hb_38k b_39 hb_39L hb_39k v_40 rv_40 hm_41
        obtain ⟨x_42, hx_42, rx_42, tx_42⟩ := ex_add (y := 1) 1 7 rv_40 rc_1 (by decide) (by decide) (by decide) (by decide)
        refine g_iinc C dX4_goOn_147 (k := 6) (v := x_42) rfl hx_42 (by decide) (lo2 := [(6, .int x_42), (0, .ref x), (1, .int v_35), (2, .int v_36), (3, .int v_37), (4, .ref b_38), (5, .ref b_39)]) rfl ?_
        refine g_goto C (tgt := 52) dX4_goOn_150 (by decide) ?_
        refine g_lo (is := [1, 2, 3, 4, 5, 6, 0]) (lo2 := [(0, .ref x), (1, .int v_35), (2, .int v_36), (3, .int v_37), (4, .ref b_38), (5, .ref b_39), (6, .int x_42)]) rfl ?_
        exact ih_52 I_30 J_31 hU_32 hF_33 hG_34 v_35 (rv_35) v_36 (rv_36) (nv_36_0) v_37 hb_38L hb_38k hb_39L hb_39k x_42 (rg_w rx_42 (by decide) (by decide)) (ms_1 hm_41 (ti_k tx_42 rc_1) (by decide))
      refine g_iload C 6 dX4_goOn_52 rfl ?_
      refine g_bipush C (v := 7) dX4_goOn_54 (by decide) ?_
      refine g_icmp_ge C (tgt := 153) dX4_goOn_56 (by decide) (fun h_43 => ?_) (fun h_43 => ?_)
      · skip
        have r_44 := le_r (h_43) rc_7 rv_28
        exact g_vret B K rfl ⟨hU_20, hF_21, hG_22⟩ dX4_goOn_153
      · skip
        have r_45 := lt_l (hi := 6) (nle h_43) rv_28 rc_7 (by decide)
        refine g_iload_n C 2 dX4_goOn_59 rfl rfl ?_
        refine g_iload C 6 dX4_goOn_60 rfl ?_
        obtain ⟨x_46, hx_46, rx_46⟩ := ex_shr (x := v_24) (y := v_28) (b := 127) (rg_w rv_24 (by decide) (by decide))
        refine g_ishr C (v := x_46) dX4_goOn_62 hx_46 ?_
        refine g_iconst C (v := 1) dX4_goOn_63 (by decide) ?_
        obtain ⟨x_47, hx_47, rx_47⟩ := ex_andr (x := x_46) (y := 1) (b := 1) (rg_w rc_1 (by decide) (by decide))
        refine g_iand C (v := x_47) dX4_goOn_64 hx_47 ?_
        refine g_if_eq C (tgt := 147) dX4_goOn_65 (by decide) (fun h_48 => ?_) (fun h_48 => ?_)
        · skip
          have r_49 := (⟨(rx_47).1, (eq_rg (h_48) rc_0).2⟩ : Rg 0 0 x_47)
          refine g_lo (is := [0, 1, 2, 3, 4, 5, 6]) (lo2 := [(0, .ref x), (1, .int v_23), (2, .int v_24), (3, .int v_25), (4, .ref b_26), (5, .ref b_27), (6, .int v_28)]) rfl ?_
          exact j_147 I_18 J_19 hU_20 hF_21 hG_22 v_23 (rv_23) v_24 (rv_24) (nv_24_0) v_25 hb_26L hb_26k hb_27L hb_27k v_28 (r_45) hm_29
        · skip
          have n_50 : ¬ x_47 = 0 := h_48
          have r_51 := ne_lo (lo := 1) n_50 rx_47 rc_0 rfl (by decide)
          refine g_aload C 5 dX4_goOn_68 rfl ?_
          refine g_aload C 4 dX4_goOn_70 rfl ?_
          refine g_callVV C K (c_X1_become W9 hb_27L hb_27k hb_26L hb_26k  hU_20) hb_27L hb_27k (by decide) rfl v_4_44 rfl ⟨rfl, rfl⟩ ⟨Nat.le_of_ble_eq_true rfl, Nat.le_of_ble_eq_true rfl⟩ (Nat.le_of_ble_eq_true rfl) ⟨Nat.le_of_ble_eq_true rfl, Nat.le_of_ble_eq_true rfl⟩ dX4_goOn_72 rfl (st := []) (fun I_53 J_54 h_55 => ?_)
          obtain ⟨hUI_53, hFI_53, hGJ_54⟩ := h_55
          have hF_56 := fq_tr hF_21 hFI_53 (by decide)
          have hG_57 := fq_tr hG_22 hGJ_54 (by decide)
          refine g_aload C 5 dX4_goOn_75 rfl ?_
          refine g_iload C 6 dX4_goOn_77 rfl ?_
          refine g_callVV C K (c_X1_eatAll W9 hb_27L hb_27k v_28 (r_45) hUI_53) hb_27L hb_27k (by decide) rfl v_4_58 rfl ⟨rfl, rfl⟩ ⟨Nat.le_of_ble_eq_true rfl, Nat.le_of_ble_eq_true rfl⟩ (Nat.le_of_ble_eq_true rfl) ⟨Nat.le_of_ble_eq_true rfl, Nat.le_of_ble_eq_true rfl⟩ dX4_goOn_79 rfl (st := []) (fun I_59 J_60 h_61 => ?_)
          obtain ⟨hUI_59, hFI_59, hGJ_60⟩ := h_61
          have hF_62 := fq_tr hF_56 hFI_59 (by decide)
          have hG_63 := fq_tr hG_57 hGJ_60 (by decide)
          refine g_aload C 5 dX4_goOn_82 rfl ?_
          refine g_iload C 6 dX4_goOn_84 rfl ?_
          refine g_callVI C K (c_X1_tryToRise W9 hb_27L hb_27k v_28 (r_45) hUI_59) hb_27L hb_27k (by decide) rfl v_4_62 rfl ⟨rfl, rfl⟩ ⟨Nat.le_of_ble_eq_true rfl, Nat.le_of_ble_eq_true rfl⟩ (Nat.le_of_ble_eq_true rfl) ⟨Nat.le_of_ble_eq_true rfl, Nat.le_of_ble_eq_true rfl⟩ dX4_goOn_86 rfl (st := []) (fun x_64 I_65 J_66 h_67 => ?_)
          obtain ⟨hUI_65, hFI_65, hGJ_66, rx_64⟩ := h_67
          have hF_68 := fq_tr hF_62 hFI_65 (by decide)
          have hG_69 := fq_tr hG_63 hGJ_66 (by decide)
          refine g_pop C dX4_goOn_89 rfl ?_
          refine g_aload_n C 0 dX4_goOn_90 rfl rfl ?_
          refine g_getR C K hLx hkx f_4_17 hb_2 dX4_goOn_91 ?_
          refine g_iload_n C 1 dX4_goOn_94 rfl rfl ?_
          refine g_iload C 6 dX4_goOn_95 rfl ?_
          refine h_iast C K hb_2L hb_2k (v_23.toNatClampNeg) (rfl) (ix_0 rv_23 (by decide)) (ix_lt rv_23 (by decide) hb_2n (by decide)) dX4_goOn_97 (fun I_70 hI_70 => ?_)
          have hU_71 := iv_put W9 hUI_65 hI_70 (ro_a hb_2k (by decide) hb_2o hkx rfl) (lo := (-2147483648)) (hi := 2147483647) (rfl) (rg_all _) rfl
          have hF_72 := fq_puta hF_68 hI_70 (ro_a hb_2k (by decide) hb_2o hkx rfl) (by decide) (by decide)
          refine g_iload_n C 2 dX4_goOn_98 rfl rfl ?_
          refine g_iconst C (v := 1) dX4_goOn_99 (by decide) ?_
          refine g_iload C 6 dX4_goOn_100 rfl ?_
          obtain ⟨x_73, hx_73, rx_73⟩ := ex_shl (x := 1) (y := v_28) 6 64 rfl (r_45) (by decide)
          refine g_ishl C (v := x_73) dX4_goOn_102 hx_73 ?_
          refine g_iconst C (v := (-1)) dX4_goOn_103 (by decide) ?_
          obtain ⟨x_74, hx_74, rx_74⟩ := ex_any (z0 := x_73 ^^^ (-1))
          refine g_ixor C (v := x_74) dX4_goOn_104 hx_74 ?_
          obtain ⟨x_75, hx_75, rx_75⟩ := ex_andl (x := v_24) (y := x_74) (b := 127) (rg_w rv_24 (by decide) (by decide))
          refine g_iand C (v := x_75) dX4_goOn_105 hx_75 ?_
          refine g_istore C dX4_goOn_106 (by decide) (lo2 := [(7, .int x_75), (0, .ref x), (1, .int v_23), (2, .int v_24), (3, .int v_25), (4, .ref b_26), (5, .ref b_27), (6, .int v_28)]) rfl ?_
          refine g_iload_n C 4 dX4_goOn_108 rfl rfl ?_
          refine g_aload C 6 dX4_goOn_109 rfl ?_
          refine g_iload C 7 dX4_goOn_111 rfl ?_
          refine g_callVI C K (c_X1_wantsYet W9 hb_27L hb_27k v_28 (r_45) hU_71) hb_27L hb_27k (by decide) rfl v_4_65 rfl ⟨rfl, rfl⟩ ⟨Nat.le_of_ble_eq_true rfl, Nat.le_of_ble_eq_true rfl⟩ (Nat.le_of_ble_eq_true rfl) ⟨Nat.le_of_ble_eq_true rfl, Nat.le_of_ble_eq_true rfl⟩ dX4_goOn_113 rfl (st := [.int v_25]) (fun x_76 I_77 J_78 h_79 => ?_)
          obtain ⟨rfl, rfl, rx_76⟩ := h_79
          obtain ⟨x_80, hx_80, rx_80⟩ := ex_any (z0 := v_25 + x_76)
          refine g_iadd C (v := x_80) dX4_goOn_116 hx_80 ?_
          refine g_istore C dX4_goOn_117 (by decide) (lo2 := [(8, .int x_80), (7, .int x_75), (0, .ref x), (1, .int v_23), (2, .int v_24), (3, .int v_25), (4, .ref b_26), (5, .ref b_27), (6, .int v_28)]) rfl ?_
          refine g_iload C 0 dX4_goOn_119 rfl ?_
          refine g_aload C 7 dX4_goOn_121 rfl ?_
          refine g_iload C 1 dX4_goOn_123 rfl ?_
          refine g_callSI C K (c_X4_atLeastWanted W9 hb_27L hb_27k x_75 (rx_75) hU_71) s_4_68 rfl ⟨rfl, rfl⟩ ⟨Nat.le_of_ble_eq_true rfl, Nat.le_of_ble_eq_true rfl⟩ (Nat.le_of_ble_eq_true rfl) ⟨Nat.le_of_ble_eq_true rfl, Nat.le_of_ble_eq_true rfl⟩ dX4_goOn_125 rfl (st := [.int x_80]) (fun x_81 I_82 J_83 h_84 => ?_)
          obtain ⟨rfl, rfl, rx_81⟩ := h_84
          obtain ⟨x_85, hx_85, rx_85⟩ := ex_any (z0 := x_80 + x_81)
          refine g_iadd C (v := x_85) dX4_goOn_128 hx_85 ?_
          refine g_aload_n C 2 dX4_goOn_129 rfl rfl ?_
          obtain ⟨x_86, hx_86, rx_86⟩ := ex_get (I := I_70) (a := x) (j := 4) (lo := (-2147483648)) (hi := 2147483647) hU_71.1 hLx (ro_o hkx (by decide)) rfl
          refine g_getI C K hLx hkx f_4_28 (v := x_86) hx_86 dX4_goOn_130 ?_
          refine g_icmp_ge C (tgt := 147) dX4_goOn_133 (by decide) (fun h_87 => ?_) (fun h_87 => ?_)
          · skip
            refine g_lo (is := [2, 3, 4, 5, 6, 7, 8]) (lo2 := [(0, .ref x), (1, .int v_23), (2, .int v_24), (3, .int v_25), (4, .ref b_26), (5, .ref b_27), (6, .int v_28)]) rfl ?_
            exact j_147 I_70 J_66 hU_71 hF_72 hG_69 v_23 (rv_23) v_24 (rv_24) (nv_24_0) v_25 hb_26L hb_26k hb_27L hb_27k v_28 (r_45) hm_29
          · skip
            have r_88 := lt_l (hi := 2147483646) (nle h_87) rx_85 rx_86 (by decide)
            have r_89 := lt_r (lo := (-2147483647)) (nle h_87) rx_85 rx_86 (by decide)
            refine g_aload_n C 2 dX4_goOn_136 rfl rfl ?_
            refine g_iload_n C 3 dX4_goOn_137 rfl rfl ?_
            refine g_iconst C (v := 1) dX4_goOn_138 (by decide) ?_
            obtain ⟨x_90, hx_90, rx_90, tx_90⟩ := ex_add 5 5 rv_23 rc_1 (by decide) (by decide) (by decide) (by decide)
            refine g_iadd C (v := x_90) dX4_goOn_139 hx_90 ?_
            refine g_iload C 1 dX4_goOn_140 rfl ?_
            refine g_iload C 0 dX4_goOn_142 rfl ?_
            refine g_callVV C K (c_X4_goOn_5 W9 hLx hkx x_90 x_75 x_80 (rx_90) (rx_75) hU_71) hLx hkx (by decide) rfl v_4_48 rfl ⟨rfl, rfl⟩ ⟨Nat.le_of_ble_eq_true rfl, Nat.le_of_ble_eq_true rfl⟩ (Nat.le_of_ble_eq_true rfl) ⟨Nat.le_of_ble_eq_true rfl, Nat.le_of_ble_eq_true rfl⟩ dX4_goOn_144 rfl (st := []) (fun I_92 J_93 h_94 => ?_)
            obtain ⟨hUI_92, hFI_92, hGJ_93⟩ := h_94
            have hF_95 := fq_tr hF_72 hFI_92 (by decide)
            have hG_96 := fq_tr hG_69 hGJ_93 (by decide)
            refine g_lo (is := [2, 3, 4, 5, 6, 7, 8]) (lo2 := [(0, .ref x), (1, .int v_23), (2, .int v_24), (3, .int v_25), (4, .ref b_26), (5, .ref b_27), (6, .int v_28)]) rfl ?_
            exact j_147 I_92 J_93 hUI_92 hF_95 hG_96 v_23 (rv_23) v_24 (rv_24) (nv_24_0) v_25 hb_26L hb_26k hb_27L hb_27k v_28 (r_45) hm_29
  refine g_iload_n C 2 dX4_goOn_0 rfl rfl ?_
  refine g_if_eq C (tgt := 10) dX4_goOn_1 (by decide) (fun h_97 => ?_) (fun h_97 => ?_)
  · skip
    have r_98 := (⟨(ra1).1, (eq_rg (h_97) rc_0).2⟩ : Rg 0 0 a1)
    refine g_lo (is := [0, 1, 2, 3]) (lo2 := [(0, .ref x), (1, .int a0), (2, .int a1), (3, .int a2)]) rfl ?_
    exact j_10 I J hU hF hG a0 (ra0) a1 (r_98) a2
  · skip
    have n_99 : ¬ a1 = 0 := h_97
    have r_100 := ne_lo (lo := 1) n_99 ra1 rc_0 rfl (by decide)
    refine g_iload_n C 1 dX4_goOn_4 rfl rfl ?_
    refine g_bipush C (v := 7) dX4_goOn_5 (by decide) ?_
    refine g_icmp_lt C (tgt := 31) dX4_goOn_7 (by decide) (fun h_101 => ?_) (fun h_101 => ?_)
    · skip
      refine g_aload_n C 0 dX4_goOn_31 rfl rfl ?_
      refine g_getR C K hLx hkx f_4_11 hb_3 dX4_goOn_32 ?_
      refine g_iload_n C 1 dX4_goOn_35 rfl rfl ?_
      obtain ⟨b_102, hb_102, hb_102L, hb_102k⟩ := (W9 b_3 hb_3L).2.1 hb_3k (a0.toNatClampNeg) (ix_lt ra0 (by decide) hb_3n (by decide))
      refine h_aaldC C K hb_3L hb_3k (a0.toNatClampNeg) (rfl) (ix_0 ra0 (by decide)) (ix_lt ra0 (by decide) hb_3n (by decide)) hb_102 dX4_goOn_36 ?_
      refine g_astore C dX4_goOn_37 (by decide) (lo2 := [(4, .ref b_102), (0, .ref x), (1, .int a0), (2, .int a1), (3, .int a2)]) rfl ?_
      refine g_aload_n C 1 dX4_goOn_39 rfl rfl ?_
      refine g_getR C K hLx hkx f_4_11 hb_3 dX4_goOn_40 ?_
      refine g_iload_n C 2 dX4_goOn_43 rfl rfl ?_
      refine g_iconst C (v := 1) dX4_goOn_44 (by decide) ?_
      obtain ⟨x_103, hx_103, rx_103, tx_103⟩ := ex_add 5 5 ra0 rc_1 (by decide) (by decide) (by decide) (by decide)
      refine g_iadd C (v := x_103) dX4_goOn_45 hx_103 ?_
      obtain ⟨b_104, hb_104, hb_104L, hb_104k⟩ := (W9 b_3 hb_3L).2.1 hb_3k (x_103.toNatClampNeg) (ix_lt rx_103 (by decide) hb_3n (by decide))
      refine h_aaldC C K hb_3L hb_3k (x_103.toNatClampNeg) (rfl) (ix_0 rx_103 (by decide)) (ix_lt rx_103 (by decide) hb_3n (by decide)) hb_104 dX4_goOn_46 ?_
      refine g_astore C dX4_goOn_47 (by decide) (lo2 := [(5, .ref b_104), (4, .ref b_102), (0, .ref x), (1, .int a0), (2, .int a1), (3, .int a2)]) rfl ?_
      refine g_iconst C (v := 0) dX4_goOn_49 (by decide) ?_
      refine g_istore C dX4_goOn_50 (by decide) (lo2 := [(6, .int 0), (5, .ref b_104), (4, .ref b_102), (0, .ref x), (1, .int a0), (2, .int a1), (3, .int a2)]) rfl ?_
      refine g_lo (is := [3, 4, 5, 6, 2, 1, 0]) (lo2 := [(0, .ref x), (1, .int a0), (2, .int a1), (3, .int a2), (4, .ref b_102), (5, .ref b_104), (6, .int 0)]) rfl ?_
      exact l_52 8 I J hU hF hG a0 (ra0) a1 (r_100) (n_99) a2 hb_102L hb_102k hb_104L hb_104k 0 (rg_w rc_0 (by decide) (by decide)) (ms_s (a := 0) (b := 7) (N := 8) (rg_w rc_0 (by decide) (by decide)) (by decide))
    · skip
      have r_105 := le_r (nlt h_101) rc_7 ra0
      exact rg_no r_105 (by decide)
set_option maxRecDepth 100000 in
set_option maxHeartbeats 8000000 in
theorem c_X4_goOn_3 {l : Launch} {D : va_G} {cy : Nat → ClassId} {L : List Nat} {κ ln : Nat → Nat} {R : Nat → Nat → Option Nat} {I : Nat → Nat → Int32} {J : Nat → Nat → Int64} {ow : Nat → Nat × Nat} (W9 : ∀ a ∈ L, Shp L κ ln R ow a) {x : Nat} (hLx : x ∈ L) (hkx : κ x = 4) (a0 : Int32) (a1 : Int32) (a2 : Int32) (ra0 : Rg 3 3 a0) (ra1 : Rg 0 127 a1) (hU : Iv L κ R ow I) : CtV l yX4_goOn cX4_goOn 9 none { frames := 7, cells := 0, slots := 0, locals := 191 } D cy L κ ln R I J [.ref x, .int a0, .int a1, .int a2] (fun I2 J2 => Iv L κ R ow I2 ∧ Fq L κ ow [107, 108, 109, 110, 111, 112, 404, 16100, 16200, 16300, 16400, 16500, 16600, 34100, 34200] I I2 ∧ Fq L κ ow [] J J2) := by
  refine CtV.of (by decide +kernel) (Nat.le_of_ble_eq_true rfl) ?_
  intro p e s m below meth c B K
  have C := B.1
  have hF : Fq L κ ow [107, 108, 109, 110, 111, 112, 404, 16100, 16200, 16300, 16400, 16500, 16600, 34100, 34200] I I := fq_rf
  have hG : Fq L κ ow [] J J := fq_rf
  obtain ⟨b_1, hb_1, hb_1L, hb_1k, hb_1n, hb_1o⟩ := shp_a (W9 x hLx) hkx 2 14 7 rfl (by decide)
  obtain ⟨b_2, hb_2, hb_2L, hb_2k, hb_2n, hb_2o⟩ := shp_a (W9 x hLx) hkx 1 14 7 rfl (by decide)
  obtain ⟨b_3, hb_3, hb_3L, hb_3k, hb_3n, hb_3o⟩ := shp_a (W9 x hLx) hkx 0 17 8 rfl (by decide)
  refine g_lo (is := [0, 1, 2, 3]) (lo2 := [(0, .ref x), (1, .int a0), (2, .int a1), (3, .int a2)]) rfl ?_
  have j_10 : ∀ (I_4 : Nat → Nat → Int32) (J_5 : Nat → Nat → Int64) (hU_6 : Iv L κ R ow I_4) (hF_7 : Fq L κ ow [107, 108, 109, 110, 111, 112, 404, 16100, 16200, 16300, 16400, 16500, 16600, 34100, 34200] I I_4) (hG_8 : Fq L κ ow [] J J_5) (v_9 : Int32) (rv_9 : Rg 3 3 v_9) (v_10 : Int32) (rv_10 : Rg 0 0 v_10) (v_11 : Int32), WG p l e { frames := 7, cells := 0, slots := 0, locals := 191 } s m ([.ref x, .int a0, .int a1, .int a2] : List Value).toArray below meth c 9 0 0 (MQ below (Qv_ D cy L κ ln R (fun I2 J2 => Iv L κ R ow I2 ∧ Fq L κ ow [107, 108, 109, 110, 111, 112, 404, 16100, 16200, 16300, 16400, 16500, 16600, 34100, 34200] I I2 ∧ Fq L κ ow [] J J2)) ([.ref x, .int a0, .int a1, .int a2] : List Value).toArray s 0 0 (Al_ L)) D cy (Al_ L) s.heap L κ ln R I_4 J_5 10 [(0, .ref x), (1, .int v_9), (2, .int v_10), (3, .int v_11)] [] := by
    intro I_4 J_5 hU_6 hF_7 hG_8 v_9 rv_9 v_10 rv_10 v_11
    refine g_aload_n C 0 dX4_goOn_10 rfl rfl ?_
    refine g_iload_n C 3 dX4_goOn_11 rfl rfl ?_
    refine h_putI C K hLx hkx f_4_28 p_4_4 dX4_goOn_12 (fun I_12 hI_12 => ?_)
    have hU_13 := iv_put W9 hU_6 hI_12 (ro_o hkx (by decide)) (lo := (-2147483648)) (hi := 2147483647) (rfl) ((rg_all v_11)) rfl
    have hF_14 := fq_puto hF_7 hI_12 hkx (by decide) (by decide)
    refine g_aload_n C 0 dX4_goOn_15 rfl rfl ?_
    refine g_getR C K hLx hkx f_4_17 hb_2 dX4_goOn_16 ?_
    refine g_iconst C (v := 0) dX4_goOn_19 (by decide) ?_
    refine g_aload_n C 0 dX4_goOn_20 rfl rfl ?_
    refine g_getR C K hLx hkx f_4_21 hb_1 dX4_goOn_21 ?_
    refine g_iconst C (v := 0) dX4_goOn_24 (by decide) ?_
    refine g_bipush C (v := 7) dX4_goOn_25 (by decide) ?_
    refine h_copyI C K hb_1L hb_1k hb_2L hb_2k ac_4_52 7 (by decide) (by decide) (by rw [hb_2n]; decide) (by rw [hb_1n]; decide) w_cp (Nat.le_of_ble_eq_true rfl) (Nat.le_of_ble_eq_true rfl) dX4_goOn_27 (fun I_15 hI_15 => ?_)
    have hU_16 := iv_cp W9 hU_13 (uv_cpf hU_13.1 hI_15 (ro_a hb_1k (by decide) hb_1o hkx rfl) (fun _ => rfl)) hI_15 (ro_a hb_1k (by decide) hb_1o hkx rfl) (fun _ => rfl)
    have hF_17 := fq_cp hF_14 hI_15 (ro_a hb_1k (by decide) hb_1o hkx rfl) (by decide) (by decide)
    exact g_vret B K rfl ⟨hU_16, hF_17, hG_8⟩ dX4_goOn_30
  have l_52 : ∀ (n_52 : Nat) (I_18 : Nat → Nat → Int32) (J_19 : Nat → Nat → Int64) (hU_20 : Iv L κ R ow I_18) (hF_21 : Fq L κ ow [107, 108, 109, 110, 111, 112, 404, 16100, 16200, 16300, 16400, 16500, 16600, 34100, 34200] I I_18) (hG_22 : Fq L κ ow [] J J_19) (v_23 : Int32) (rv_23 : Rg 3 3 v_23) (v_24 : Int32) (rv_24 : Rg 1 127 v_24) (nv_24_0 : ¬ v_24 = 0) (v_25 : Int32) {b_26 : Nat} (hb_26L : b_26 ∈ L) (hb_26k : κ b_26 = 1) {b_27 : Nat} (hb_27L : b_27 ∈ L) (hb_27k : κ b_27 = 1) (v_28 : Int32) (rv_28 : Rg 0 7 v_28) (hm_29 : 7 < (v_28 : Int32).toInt + (n_52 : Int)), WG p l e { frames := 7, cells := 0, slots := 0, locals := 191 } s m ([.ref x, .int a0, .int a1, .int a2] : List Value).toArray below meth c 9 0 0 (MQ below (Qv_ D cy L κ ln R (fun I2 J2 => Iv L κ R ow I2 ∧ Fq L κ ow [107, 108, 109, 110, 111, 112, 404, 16100, 16200, 16300, 16400, 16500, 16600, 34100, 34200] I I2 ∧ Fq L κ ow [] J J2)) ([.ref x, .int a0, .int a1, .int a2] : List Value).toArray s 0 0 (Al_ L)) D cy (Al_ L) s.heap L κ ln R I_18 J_19 52 [(0, .ref x), (1, .int v_23), (2, .int v_24), (3, .int v_25), (4, .ref b_26), (5, .ref b_27), (6, .int v_28)] [] := by
    intro n_52
    induction n_52 with
    | zero =>
      intro I_18 J_19 hU_20 hF_21 hG_22 v_23 rv_23 v_24 rv_24 nv_24_0 v_25 b_26 hb_26L hb_26k b_27 hb_27L hb_27k v_28 rv_28 hm_29
      exact ms_0 rv_28 hm_29
    | succ n_52 ih_52 =>
      intro I_18 J_19 hU_20 hF_21 hG_22 v_23 rv_23 v_24 rv_24 nv_24_0 v_25 b_26 hb_26L hb_26k b_27 hb_27L hb_27k v_28 rv_28 hm_29
      have j_147 : ∀ (I_30 : Nat → Nat → Int32) (J_31 : Nat → Nat → Int64) (hU_32 : Iv L κ R ow I_30) (hF_33 : Fq L κ ow [107, 108, 109, 110, 111, 112, 404, 16100, 16200, 16300, 16400, 16500, 16600, 34100, 34200] I I_30) (hG_34 : Fq L κ ow [] J J_31) (v_35 : Int32) (rv_35 : Rg 3 3 v_35) (v_36 : Int32) (rv_36 : Rg 1 127 v_36) (nv_36_0 : ¬ v_36 = 0) (v_37 : Int32) {b_38 : Nat} (hb_38L : b_38 ∈ L) (hb_38k : κ b_38 = 1) {b_39 : Nat} (hb_39L : b_39 ∈ L) (hb_39k : κ b_39 = 1) (v_40 : Int32) (rv_40 : Rg 0 6 v_40) (hm_41 : 7 < (v_40 : Int32).toInt + ((n_52 + 1 : Nat) : Int)), WG p l e { frames := 7, cells := 0, slots := 0, locals := 191 } s m ([.ref x, .int a0, .int a1, .int a2] : List Value).toArray below meth c 9 0 0 (MQ below (Qv_ D cy L κ ln R (fun I2 J2 => Iv L κ R ow I2 ∧ Fq L κ ow [107, 108, 109, 110, 111, 112, 404, 16100, 16200, 16300, 16400, 16500, 16600, 34100, 34200] I I2 ∧ Fq L κ ow [] J J2)) ([.ref x, .int a0, .int a1, .int a2] : List Value).toArray s 0 0 (Al_ L)) D cy (Al_ L) s.heap L κ ln R I_30 J_31 147 [(0, .ref x), (1, .int v_35), (2, .int v_36), (3, .int v_37), (4, .ref b_38), (5, .ref b_39), (6, .int v_40)] [] := by
        intro I_30 J_31 hU_32 hF_33 hG_34 v_35 rv_35 v_36 rv_36 nv_36_0 v_37 b_38 hb_38L hb_38k b_39 hb_39L hb_39k v_40 rv_40 hm_41
        obtain ⟨x_42, hx_42, rx_42, tx_42⟩ := ex_add (y := 1) 1 7 rv_40 rc_1 (by decide) (by decide) (by decide) (by decide)
        refine g_iinc C dX4_goOn_147 (k := 6) (v := x_42) rfl hx_42 (by decide) (lo2 := [(6, .int x_42), (0, .ref x), (1, .int v_35), (2, .int v_36), (3, .int v_37), (4, .ref b_38), (5, .ref b_39)]) rfl ?_
        refine g_goto C (tgt := 52) dX4_goOn_150 (by decide) ?_
        refine g_lo (is := [1, 2, 3, 4, 5, 6, 0]) (lo2 := [(0, .ref x), (1, .int v_35), (2, .int v_36), (3, .int v_37), (4, .ref b_38), (5, .ref b_39), (6, .int x_42)]) rfl ?_
        exact ih_52 I_30 J_31 hU_32 hF_33 hG_34 v_35 (rv_35) v_36 (rv_36) (nv_36_0) v_37 hb_38L hb_38k hb_39L hb_39k x_42 (rg_w rx_42 (by decide) (by decide)) (ms_1 hm_41 (ti_k tx_42 rc_1) (by decide))
      refine g_iload C 6 dX4_goOn_52 rfl ?_
      refine g_bipush C (v := 7) dX4_goOn_54 (by decide) ?_
      refine g_icmp_ge C (tgt := 153) dX4_goOn_56 (by decide) (fun h_43 => ?_) (fun h_43 => ?_)
      · skip
        have r_44 := le_r (h_43) rc_7 rv_28
        exact g_vret B K rfl ⟨hU_20, hF_21, hG_22⟩ dX4_goOn_153
      · skip
        have r_45 := lt_l (hi := 6) (nle h_43) rv_28 rc_7 (by decide)
        refine g_iload_n C 2 dX4_goOn_59 rfl rfl ?_
        refine g_iload C 6 dX4_goOn_60 rfl ?_
        obtain ⟨x_46, hx_46, rx_46⟩ := ex_shr (x := v_24) (y := v_28) (b := 127) (rg_w rv_24 (by decide) (by decide))
        refine g_ishr C (v := x_46) dX4_goOn_62 hx_46 ?_
        refine g_iconst C (v := 1) dX4_goOn_63 (by decide) ?_
        obtain ⟨x_47, hx_47, rx_47⟩ := ex_andr (x := x_46) (y := 1) (b := 1) (rg_w rc_1 (by decide) (by decide))
        refine g_iand C (v := x_47) dX4_goOn_64 hx_47 ?_
        refine g_if_eq C (tgt := 147) dX4_goOn_65 (by decide) (fun h_48 => ?_) (fun h_48 => ?_)
        · skip
          have r_49 := (⟨(rx_47).1, (eq_rg (h_48) rc_0).2⟩ : Rg 0 0 x_47)
          refine g_lo (is := [0, 1, 2, 3, 4, 5, 6]) (lo2 := [(0, .ref x), (1, .int v_23), (2, .int v_24), (3, .int v_25), (4, .ref b_26), (5, .ref b_27), (6, .int v_28)]) rfl ?_
          exact j_147 I_18 J_19 hU_20 hF_21 hG_22 v_23 (rv_23) v_24 (rv_24) (nv_24_0) v_25 hb_26L hb_26k hb_27L hb_27k v_28 (r_45) hm_29
        · skip
          have n_50 : ¬ x_47 = 0 := h_48
          have r_51 := ne_lo (lo := 1) n_50 rx_47 rc_0 rfl (by decide)
          refine g_aload C 5 dX4_goOn_68 rfl ?_
          refine g_aload C 4 dX4_goOn_70 rfl ?_
          refine g_callVV C K (c_X1_become W9 hb_27L hb_27k hb_26L hb_26k  hU_20) hb_27L hb_27k (by decide) rfl v_4_44 rfl ⟨rfl, rfl⟩ ⟨Nat.le_of_ble_eq_true rfl, Nat.le_of_ble_eq_true rfl⟩ (Nat.le_of_ble_eq_true rfl) ⟨Nat.le_of_ble_eq_true rfl, Nat.le_of_ble_eq_true rfl⟩ dX4_goOn_72 rfl (st := []) (fun I_53 J_54 h_55 => ?_)
          obtain ⟨hUI_53, hFI_53, hGJ_54⟩ := h_55
          have hF_56 := fq_tr hF_21 hFI_53 (by decide)
          have hG_57 := fq_tr hG_22 hGJ_54 (by decide)
          refine g_aload C 5 dX4_goOn_75 rfl ?_
          refine g_iload C 6 dX4_goOn_77 rfl ?_
          refine g_callVV C K (c_X1_eatAll W9 hb_27L hb_27k v_28 (r_45) hUI_53) hb_27L hb_27k (by decide) rfl v_4_58 rfl ⟨rfl, rfl⟩ ⟨Nat.le_of_ble_eq_true rfl, Nat.le_of_ble_eq_true rfl⟩ (Nat.le_of_ble_eq_true rfl) ⟨Nat.le_of_ble_eq_true rfl, Nat.le_of_ble_eq_true rfl⟩ dX4_goOn_79 rfl (st := []) (fun I_59 J_60 h_61 => ?_)
          obtain ⟨hUI_59, hFI_59, hGJ_60⟩ := h_61
          have hF_62 := fq_tr hF_56 hFI_59 (by decide)
          have hG_63 := fq_tr hG_57 hGJ_60 (by decide)
          refine g_aload C 5 dX4_goOn_82 rfl ?_
          refine g_iload C 6 dX4_goOn_84 rfl ?_
          refine g_callVI C K (c_X1_tryToRise W9 hb_27L hb_27k v_28 (r_45) hUI_59) hb_27L hb_27k (by decide) rfl v_4_62 rfl ⟨rfl, rfl⟩ ⟨Nat.le_of_ble_eq_true rfl, Nat.le_of_ble_eq_true rfl⟩ (Nat.le_of_ble_eq_true rfl) ⟨Nat.le_of_ble_eq_true rfl, Nat.le_of_ble_eq_true rfl⟩ dX4_goOn_86 rfl (st := []) (fun x_64 I_65 J_66 h_67 => ?_)
          obtain ⟨hUI_65, hFI_65, hGJ_66, rx_64⟩ := h_67
          have hF_68 := fq_tr hF_62 hFI_65 (by decide)
          have hG_69 := fq_tr hG_63 hGJ_66 (by decide)
          refine g_pop C dX4_goOn_89 rfl ?_
          refine g_aload_n C 0 dX4_goOn_90 rfl rfl ?_
          refine g_getR C K hLx hkx f_4_17 hb_2 dX4_goOn_91 ?_
          refine g_iload_n C 1 dX4_goOn_94 rfl rfl ?_
          refine g_iload C 6 dX4_goOn_95 rfl ?_
          refine h_iast C K hb_2L hb_2k (v_23.toNatClampNeg) (rfl) (ix_0 rv_23 (by decide)) (ix_lt rv_23 (by decide) hb_2n (by decide)) dX4_goOn_97 (fun I_70 hI_70 => ?_)
          have hU_71 := iv_put W9 hUI_65 hI_70 (ro_a hb_2k (by decide) hb_2o hkx rfl) (lo := (-2147483648)) (hi := 2147483647) (rfl) (rg_all _) rfl
          have hF_72 := fq_puta hF_68 hI_70 (ro_a hb_2k (by decide) hb_2o hkx rfl) (by decide) (by decide)
          refine g_iload_n C 2 dX4_goOn_98 rfl rfl ?_
          refine g_iconst C (v := 1) dX4_goOn_99 (by decide) ?_
          refine g_iload C 6 dX4_goOn_100 rfl ?_
          obtain ⟨x_73, hx_73, rx_73⟩ := ex_shl (x := 1) (y := v_28) 6 64 rfl (r_45) (by decide)
          refine g_ishl C (v := x_73) dX4_goOn_102 hx_73 ?_
          refine g_iconst C (v := (-1)) dX4_goOn_103 (by decide) ?_
          obtain ⟨x_74, hx_74, rx_74⟩ := ex_any (z0 := x_73 ^^^ (-1))
          refine g_ixor C (v := x_74) dX4_goOn_104 hx_74 ?_
          obtain ⟨x_75, hx_75, rx_75⟩ := ex_andl (x := v_24) (y := x_74) (b := 127) (rg_w rv_24 (by decide) (by decide))
          refine g_iand C (v := x_75) dX4_goOn_105 hx_75 ?_
          refine g_istore C dX4_goOn_106 (by decide) (lo2 := [(7, .int x_75), (0, .ref x), (1, .int v_23), (2, .int v_24), (3, .int v_25), (4, .ref b_26), (5, .ref b_27), (6, .int v_28)]) rfl ?_
          refine g_iload_n C 4 dX4_goOn_108 rfl rfl ?_
          refine g_aload C 6 dX4_goOn_109 rfl ?_
          refine g_iload C 7 dX4_goOn_111 rfl ?_
          refine g_callVI C K (c_X1_wantsYet W9 hb_27L hb_27k v_28 (r_45) hU_71) hb_27L hb_27k (by decide) rfl v_4_65 rfl ⟨rfl, rfl⟩ ⟨Nat.le_of_ble_eq_true rfl, Nat.le_of_ble_eq_true rfl⟩ (Nat.le_of_ble_eq_true rfl) ⟨Nat.le_of_ble_eq_true rfl, Nat.le_of_ble_eq_true rfl⟩ dX4_goOn_113 rfl (st := [.int v_25]) (fun x_76 I_77 J_78 h_79 => ?_)
          obtain ⟨rfl, rfl, rx_76⟩ := h_79
          obtain ⟨x_80, hx_80, rx_80⟩ := ex_any (z0 := v_25 + x_76)
          refine g_iadd C (v := x_80) dX4_goOn_116 hx_80 ?_
          refine g_istore C dX4_goOn_117 (by decide) (lo2 := [(8, .int x_80), (7, .int x_75), (0, .ref x), (1, .int v_23), (2, .int v_24), (3, .int v_25), (4, .ref b_26), (5, .ref b_27), (6, .int v_28)]) rfl ?_
          refine g_iload C 0 dX4_goOn_119 rfl ?_
          refine g_aload C 7 dX4_goOn_121 rfl ?_
          refine g_iload C 1 dX4_goOn_123 rfl ?_
          refine g_callSI C K (c_X4_atLeastWanted W9 hb_27L hb_27k x_75 (rx_75) hU_71) s_4_68 rfl ⟨rfl, rfl⟩ ⟨Nat.le_of_ble_eq_true rfl, Nat.le_of_ble_eq_true rfl⟩ (Nat.le_of_ble_eq_true rfl) ⟨Nat.le_of_ble_eq_true rfl, Nat.le_of_ble_eq_true rfl⟩ dX4_goOn_125 rfl (st := [.int x_80]) (fun x_81 I_82 J_83 h_84 => ?_)
          obtain ⟨rfl, rfl, rx_81⟩ := h_84
          obtain ⟨x_85, hx_85, rx_85⟩ := ex_any (z0 := x_80 + x_81)
          refine g_iadd C (v := x_85) dX4_goOn_128 hx_85 ?_
          refine g_aload_n C 2 dX4_goOn_129 rfl rfl ?_
          obtain ⟨x_86, hx_86, rx_86⟩ := ex_get (I := I_70) (a := x) (j := 4) (lo := (-2147483648)) (hi := 2147483647) hU_71.1 hLx (ro_o hkx (by decide)) rfl
          refine g_getI C K hLx hkx f_4_28 (v := x_86) hx_86 dX4_goOn_130 ?_
          refine g_icmp_ge C (tgt := 147) dX4_goOn_133 (by decide) (fun h_87 => ?_) (fun h_87 => ?_)
          · skip
            refine g_lo (is := [2, 3, 4, 5, 6, 7, 8]) (lo2 := [(0, .ref x), (1, .int v_23), (2, .int v_24), (3, .int v_25), (4, .ref b_26), (5, .ref b_27), (6, .int v_28)]) rfl ?_
            exact j_147 I_70 J_66 hU_71 hF_72 hG_69 v_23 (rv_23) v_24 (rv_24) (nv_24_0) v_25 hb_26L hb_26k hb_27L hb_27k v_28 (r_45) hm_29
          · skip
            have r_88 := lt_l (hi := 2147483646) (nle h_87) rx_85 rx_86 (by decide)
            have r_89 := lt_r (lo := (-2147483647)) (nle h_87) rx_85 rx_86 (by decide)
            refine g_aload_n C 2 dX4_goOn_136 rfl rfl ?_
            refine g_iload_n C 3 dX4_goOn_137 rfl rfl ?_
            refine g_iconst C (v := 1) dX4_goOn_138 (by decide) ?_
            obtain ⟨x_90, hx_90, rx_90, tx_90⟩ := ex_add 4 4 rv_23 rc_1 (by decide) (by decide) (by decide) (by decide)
            refine g_iadd C (v := x_90) dX4_goOn_139 hx_90 ?_
            refine g_iload C 1 dX4_goOn_140 rfl ?_
            refine g_iload C 0 dX4_goOn_142 rfl ?_
            refine g_callVV C K (c_X4_goOn_4 W9 hLx hkx x_90 x_75 x_80 (rx_90) (rx_75) hU_71) hLx hkx (by decide) rfl v_4_48 rfl ⟨rfl, rfl⟩ ⟨Nat.le_of_ble_eq_true rfl, Nat.le_of_ble_eq_true rfl⟩ (Nat.le_of_ble_eq_true rfl) ⟨Nat.le_of_ble_eq_true rfl, Nat.le_of_ble_eq_true rfl⟩ dX4_goOn_144 rfl (st := []) (fun I_92 J_93 h_94 => ?_)
            obtain ⟨hUI_92, hFI_92, hGJ_93⟩ := h_94
            have hF_95 := fq_tr hF_72 hFI_92 (by decide)
            have hG_96 := fq_tr hG_69 hGJ_93 (by decide)
            refine g_lo (is := [2, 3, 4, 5, 6, 7, 8]) (lo2 := [(0, .ref x), (1, .int v_23), (2, .int v_24), (3, .int v_25), (4, .ref b_26), (5, .ref b_27), (6, .int v_28)]) rfl ?_
            exact j_147 I_92 J_93 hUI_92 hF_95 hG_96 v_23 (rv_23) v_24 (rv_24) (nv_24_0) v_25 hb_26L hb_26k hb_27L hb_27k v_28 (r_45) hm_29
  refine g_iload_n C 2 dX4_goOn_0 rfl rfl ?_
  refine g_if_eq C (tgt := 10) dX4_goOn_1 (by decide) (fun h_97 => ?_) (fun h_97 => ?_)
  · skip
    have r_98 := (⟨(ra1).1, (eq_rg (h_97) rc_0).2⟩ : Rg 0 0 a1)
    refine g_lo (is := [0, 1, 2, 3]) (lo2 := [(0, .ref x), (1, .int a0), (2, .int a1), (3, .int a2)]) rfl ?_
    exact j_10 I J hU hF hG a0 (ra0) a1 (r_98) a2
  · skip
    have n_99 : ¬ a1 = 0 := h_97
    have r_100 := ne_lo (lo := 1) n_99 ra1 rc_0 rfl (by decide)
    refine g_iload_n C 1 dX4_goOn_4 rfl rfl ?_
    refine g_bipush C (v := 7) dX4_goOn_5 (by decide) ?_
    refine g_icmp_lt C (tgt := 31) dX4_goOn_7 (by decide) (fun h_101 => ?_) (fun h_101 => ?_)
    · skip
      refine g_aload_n C 0 dX4_goOn_31 rfl rfl ?_
      refine g_getR C K hLx hkx f_4_11 hb_3 dX4_goOn_32 ?_
      refine g_iload_n C 1 dX4_goOn_35 rfl rfl ?_
      obtain ⟨b_102, hb_102, hb_102L, hb_102k⟩ := (W9 b_3 hb_3L).2.1 hb_3k (a0.toNatClampNeg) (ix_lt ra0 (by decide) hb_3n (by decide))
      refine h_aaldC C K hb_3L hb_3k (a0.toNatClampNeg) (rfl) (ix_0 ra0 (by decide)) (ix_lt ra0 (by decide) hb_3n (by decide)) hb_102 dX4_goOn_36 ?_
      refine g_astore C dX4_goOn_37 (by decide) (lo2 := [(4, .ref b_102), (0, .ref x), (1, .int a0), (2, .int a1), (3, .int a2)]) rfl ?_
      refine g_aload_n C 1 dX4_goOn_39 rfl rfl ?_
      refine g_getR C K hLx hkx f_4_11 hb_3 dX4_goOn_40 ?_
      refine g_iload_n C 2 dX4_goOn_43 rfl rfl ?_
      refine g_iconst C (v := 1) dX4_goOn_44 (by decide) ?_
      obtain ⟨x_103, hx_103, rx_103, tx_103⟩ := ex_add 4 4 ra0 rc_1 (by decide) (by decide) (by decide) (by decide)
      refine g_iadd C (v := x_103) dX4_goOn_45 hx_103 ?_
      obtain ⟨b_104, hb_104, hb_104L, hb_104k⟩ := (W9 b_3 hb_3L).2.1 hb_3k (x_103.toNatClampNeg) (ix_lt rx_103 (by decide) hb_3n (by decide))
      refine h_aaldC C K hb_3L hb_3k (x_103.toNatClampNeg) (rfl) (ix_0 rx_103 (by decide)) (ix_lt rx_103 (by decide) hb_3n (by decide)) hb_104 dX4_goOn_46 ?_
      refine g_astore C dX4_goOn_47 (by decide) (lo2 := [(5, .ref b_104), (4, .ref b_102), (0, .ref x), (1, .int a0), (2, .int a1), (3, .int a2)]) rfl ?_
      refine g_iconst C (v := 0) dX4_goOn_49 (by decide) ?_
      refine g_istore C dX4_goOn_50 (by decide) (lo2 := [(6, .int 0), (5, .ref b_104), (4, .ref b_102), (0, .ref x), (1, .int a0), (2, .int a1), (3, .int a2)]) rfl ?_
      refine g_lo (is := [3, 4, 5, 6, 2, 1, 0]) (lo2 := [(0, .ref x), (1, .int a0), (2, .int a1), (3, .int a2), (4, .ref b_102), (5, .ref b_104), (6, .int 0)]) rfl ?_
      exact l_52 8 I J hU hF hG a0 (ra0) a1 (r_100) (n_99) a2 hb_102L hb_102k hb_104L hb_104k 0 (rg_w rc_0 (by decide) (by decide)) (ms_s (a := 0) (b := 7) (N := 8) (rg_w rc_0 (by decide) (by decide)) (by decide))
    · skip
      have r_105 := le_r (nlt h_101) rc_7 ra0
      exact rg_no r_105 (by decide)
set_option maxRecDepth 100000 in
set_option maxHeartbeats 8000000 in
theorem c_X4_goOn_2 {l : Launch} {D : va_G} {cy : Nat → ClassId} {L : List Nat} {κ ln : Nat → Nat} {R : Nat → Nat → Option Nat} {I : Nat → Nat → Int32} {J : Nat → Nat → Int64} {ow : Nat → Nat × Nat} (W9 : ∀ a ∈ L, Shp L κ ln R ow a) {x : Nat} (hLx : x ∈ L) (hkx : κ x = 4) (a0 : Int32) (a1 : Int32) (a2 : Int32) (ra0 : Rg 2 2 a0) (ra1 : Rg 0 127 a1) (hU : Iv L κ R ow I) : CtV l yX4_goOn cX4_goOn 9 none { frames := 8, cells := 0, slots := 0, locals := 219 } D cy L κ ln R I J [.ref x, .int a0, .int a1, .int a2] (fun I2 J2 => Iv L κ R ow I2 ∧ Fq L κ ow [107, 108, 109, 110, 111, 112, 404, 16100, 16200, 16300, 16400, 16500, 16600, 34100, 34200] I I2 ∧ Fq L κ ow [] J J2) := by
  refine CtV.of (by decide +kernel) (Nat.le_of_ble_eq_true rfl) ?_
  intro p e s m below meth c B K
  have C := B.1
  have hF : Fq L κ ow [107, 108, 109, 110, 111, 112, 404, 16100, 16200, 16300, 16400, 16500, 16600, 34100, 34200] I I := fq_rf
  have hG : Fq L κ ow [] J J := fq_rf
  obtain ⟨b_1, hb_1, hb_1L, hb_1k, hb_1n, hb_1o⟩ := shp_a (W9 x hLx) hkx 2 14 7 rfl (by decide)
  obtain ⟨b_2, hb_2, hb_2L, hb_2k, hb_2n, hb_2o⟩ := shp_a (W9 x hLx) hkx 1 14 7 rfl (by decide)
  obtain ⟨b_3, hb_3, hb_3L, hb_3k, hb_3n, hb_3o⟩ := shp_a (W9 x hLx) hkx 0 17 8 rfl (by decide)
  refine g_lo (is := [0, 1, 2, 3]) (lo2 := [(0, .ref x), (1, .int a0), (2, .int a1), (3, .int a2)]) rfl ?_
  have j_10 : ∀ (I_4 : Nat → Nat → Int32) (J_5 : Nat → Nat → Int64) (hU_6 : Iv L κ R ow I_4) (hF_7 : Fq L κ ow [107, 108, 109, 110, 111, 112, 404, 16100, 16200, 16300, 16400, 16500, 16600, 34100, 34200] I I_4) (hG_8 : Fq L κ ow [] J J_5) (v_9 : Int32) (rv_9 : Rg 2 2 v_9) (v_10 : Int32) (rv_10 : Rg 0 0 v_10) (v_11 : Int32), WG p l e { frames := 8, cells := 0, slots := 0, locals := 219 } s m ([.ref x, .int a0, .int a1, .int a2] : List Value).toArray below meth c 9 0 0 (MQ below (Qv_ D cy L κ ln R (fun I2 J2 => Iv L κ R ow I2 ∧ Fq L κ ow [107, 108, 109, 110, 111, 112, 404, 16100, 16200, 16300, 16400, 16500, 16600, 34100, 34200] I I2 ∧ Fq L κ ow [] J J2)) ([.ref x, .int a0, .int a1, .int a2] : List Value).toArray s 0 0 (Al_ L)) D cy (Al_ L) s.heap L κ ln R I_4 J_5 10 [(0, .ref x), (1, .int v_9), (2, .int v_10), (3, .int v_11)] [] := by
    intro I_4 J_5 hU_6 hF_7 hG_8 v_9 rv_9 v_10 rv_10 v_11
    refine g_aload_n C 0 dX4_goOn_10 rfl rfl ?_
    refine g_iload_n C 3 dX4_goOn_11 rfl rfl ?_
    refine h_putI C K hLx hkx f_4_28 p_4_4 dX4_goOn_12 (fun I_12 hI_12 => ?_)
    have hU_13 := iv_put W9 hU_6 hI_12 (ro_o hkx (by decide)) (lo := (-2147483648)) (hi := 2147483647) (rfl) ((rg_all v_11)) rfl
    have hF_14 := fq_puto hF_7 hI_12 hkx (by decide) (by decide)
    refine g_aload_n C 0 dX4_goOn_15 rfl rfl ?_
    refine g_getR C K hLx hkx f_4_17 hb_2 dX4_goOn_16 ?_
    refine g_iconst C (v := 0) dX4_goOn_19 (by decide) ?_
    refine g_aload_n C 0 dX4_goOn_20 rfl rfl ?_
    refine g_getR C K hLx hkx f_4_21 hb_1 dX4_goOn_21 ?_
    refine g_iconst C (v := 0) dX4_goOn_24 (by decide) ?_
    refine g_bipush C (v := 7) dX4_goOn_25 (by decide) ?_
    refine h_copyI C K hb_1L hb_1k hb_2L hb_2k ac_4_52 7 (by decide) (by decide) (by rw [hb_2n]; decide) (by rw [hb_1n]; decide) w_cp (Nat.le_of_ble_eq_true rfl) (Nat.le_of_ble_eq_true rfl) dX4_goOn_27 (fun I_15 hI_15 => ?_)
    have hU_16 := iv_cp W9 hU_13 (uv_cpf hU_13.1 hI_15 (ro_a hb_1k (by decide) hb_1o hkx rfl) (fun _ => rfl)) hI_15 (ro_a hb_1k (by decide) hb_1o hkx rfl) (fun _ => rfl)
    have hF_17 := fq_cp hF_14 hI_15 (ro_a hb_1k (by decide) hb_1o hkx rfl) (by decide) (by decide)
    exact g_vret B K rfl ⟨hU_16, hF_17, hG_8⟩ dX4_goOn_30
  have l_52 : ∀ (n_52 : Nat) (I_18 : Nat → Nat → Int32) (J_19 : Nat → Nat → Int64) (hU_20 : Iv L κ R ow I_18) (hF_21 : Fq L κ ow [107, 108, 109, 110, 111, 112, 404, 16100, 16200, 16300, 16400, 16500, 16600, 34100, 34200] I I_18) (hG_22 : Fq L κ ow [] J J_19) (v_23 : Int32) (rv_23 : Rg 2 2 v_23) (v_24 : Int32) (rv_24 : Rg 1 127 v_24) (nv_24_0 : ¬ v_24 = 0) (v_25 : Int32) {b_26 : Nat} (hb_26L : b_26 ∈ L) (hb_26k : κ b_26 = 1) {b_27 : Nat} (hb_27L : b_27 ∈ L) (hb_27k : κ b_27 = 1) (v_28 : Int32) (rv_28 : Rg 0 7 v_28) (hm_29 : 7 < (v_28 : Int32).toInt + (n_52 : Int)), WG p l e { frames := 8, cells := 0, slots := 0, locals := 219 } s m ([.ref x, .int a0, .int a1, .int a2] : List Value).toArray below meth c 9 0 0 (MQ below (Qv_ D cy L κ ln R (fun I2 J2 => Iv L κ R ow I2 ∧ Fq L κ ow [107, 108, 109, 110, 111, 112, 404, 16100, 16200, 16300, 16400, 16500, 16600, 34100, 34200] I I2 ∧ Fq L κ ow [] J J2)) ([.ref x, .int a0, .int a1, .int a2] : List Value).toArray s 0 0 (Al_ L)) D cy (Al_ L) s.heap L κ ln R I_18 J_19 52 [(0, .ref x), (1, .int v_23), (2, .int v_24), (3, .int v_25), (4, .ref b_26), (5, .ref b_27), (6, .int v_28)] [] := by
    intro n_52
    induction n_52 with
    | zero =>
      intro I_18 J_19 hU_20 hF_21 hG_22 v_23 rv_23 v_24 rv_24 nv_24_0 v_25 b_26 hb_26L hb_26k b_27 hb_27L hb_27k v_28 rv_28 hm_29
      exact ms_0 rv_28 hm_29
    | succ n_52 ih_52 =>
      intro I_18 J_19 hU_20 hF_21 hG_22 v_23 rv_23 v_24 rv_24 nv_24_0 v_25 b_26 hb_26L hb_26k b_27 hb_27L hb_27k v_28 rv_28 hm_29
      have j_147 : ∀ (I_30 : Nat → Nat → Int32) (J_31 : Nat → Nat → Int64) (hU_32 : Iv L κ R ow I_30) (hF_33 : Fq L κ ow [107, 108, 109, 110, 111, 112, 404, 16100, 16200, 16300, 16400, 16500, 16600, 34100, 34200] I I_30) (hG_34 : Fq L κ ow [] J J_31) (v_35 : Int32) (rv_35 : Rg 2 2 v_35) (v_36 : Int32) (rv_36 : Rg 1 127 v_36) (nv_36_0 : ¬ v_36 = 0) (v_37 : Int32) {b_38 : Nat} (hb_38L : b_38 ∈ L) (hb_38k : κ b_38 = 1) {b_39 : Nat} (hb_39L : b_39 ∈ L) (hb_39k : κ b_39 = 1) (v_40 : Int32) (rv_40 : Rg 0 6 v_40) (hm_41 : 7 < (v_40 : Int32).toInt + ((n_52 + 1 : Nat) : Int)), WG p l e { frames := 8, cells := 0, slots := 0, locals := 219 } s m ([.ref x, .int a0, .int a1, .int a2] : List Value).toArray below meth c 9 0 0 (MQ below (Qv_ D cy L κ ln R (fun I2 J2 => Iv L κ R ow I2 ∧ Fq L κ ow [107, 108, 109, 110, 111, 112, 404, 16100, 16200, 16300, 16400, 16500, 16600, 34100, 34200] I I2 ∧ Fq L κ ow [] J J2)) ([.ref x, .int a0, .int a1, .int a2] : List Value).toArray s 0 0 (Al_ L)) D cy (Al_ L) s.heap L κ ln R I_30 J_31 147 [(0, .ref x), (1, .int v_35), (2, .int v_36), (3, .int v_37), (4, .ref b_38), (5, .ref b_39), (6, .int v_40)] [] := by
        intro I_30 J_31 hU_32 hF_33 hG_34 v_35 rv_35 v_36 rv_36 nv_36_0 v_37 b_38 hb_38L hb_38k b_39 hb_39L hb_39k v_40 rv_40 hm_41
        obtain ⟨x_42, hx_42, rx_42, tx_42⟩ := ex_add (y := 1) 1 7 rv_40 rc_1 (by decide) (by decide) (by decide) (by decide)
        refine g_iinc C dX4_goOn_147 (k := 6) (v := x_42) rfl hx_42 (by decide) (lo2 := [(6, .int x_42), (0, .ref x), (1, .int v_35), (2, .int v_36), (3, .int v_37), (4, .ref b_38), (5, .ref b_39)]) rfl ?_
        refine g_goto C (tgt := 52) dX4_goOn_150 (by decide) ?_
        refine g_lo (is := [1, 2, 3, 4, 5, 6, 0]) (lo2 := [(0, .ref x), (1, .int v_35), (2, .int v_36), (3, .int v_37), (4, .ref b_38), (5, .ref b_39), (6, .int x_42)]) rfl ?_
        exact ih_52 I_30 J_31 hU_32 hF_33 hG_34 v_35 (rv_35) v_36 (rv_36) (nv_36_0) v_37 hb_38L hb_38k hb_39L hb_39k x_42 (rg_w rx_42 (by decide) (by decide)) (ms_1 hm_41 (ti_k tx_42 rc_1) (by decide))
      refine g_iload C 6 dX4_goOn_52 rfl ?_
      refine g_bipush C (v := 7) dX4_goOn_54 (by decide) ?_
      refine g_icmp_ge C (tgt := 153) dX4_goOn_56 (by decide) (fun h_43 => ?_) (fun h_43 => ?_)
      · skip
        have r_44 := le_r (h_43) rc_7 rv_28
        exact g_vret B K rfl ⟨hU_20, hF_21, hG_22⟩ dX4_goOn_153
      · skip
        have r_45 := lt_l (hi := 6) (nle h_43) rv_28 rc_7 (by decide)
        refine g_iload_n C 2 dX4_goOn_59 rfl rfl ?_
        refine g_iload C 6 dX4_goOn_60 rfl ?_
        obtain ⟨x_46, hx_46, rx_46⟩ := ex_shr (x := v_24) (y := v_28) (b := 127) (rg_w rv_24 (by decide) (by decide))
        refine g_ishr C (v := x_46) dX4_goOn_62 hx_46 ?_
        refine g_iconst C (v := 1) dX4_goOn_63 (by decide) ?_
        obtain ⟨x_47, hx_47, rx_47⟩ := ex_andr (x := x_46) (y := 1) (b := 1) (rg_w rc_1 (by decide) (by decide))
        refine g_iand C (v := x_47) dX4_goOn_64 hx_47 ?_
        refine g_if_eq C (tgt := 147) dX4_goOn_65 (by decide) (fun h_48 => ?_) (fun h_48 => ?_)
        · skip
          have r_49 := (⟨(rx_47).1, (eq_rg (h_48) rc_0).2⟩ : Rg 0 0 x_47)
          refine g_lo (is := [0, 1, 2, 3, 4, 5, 6]) (lo2 := [(0, .ref x), (1, .int v_23), (2, .int v_24), (3, .int v_25), (4, .ref b_26), (5, .ref b_27), (6, .int v_28)]) rfl ?_
          exact j_147 I_18 J_19 hU_20 hF_21 hG_22 v_23 (rv_23) v_24 (rv_24) (nv_24_0) v_25 hb_26L hb_26k hb_27L hb_27k v_28 (r_45) hm_29
        · skip
          have n_50 : ¬ x_47 = 0 := h_48
          have r_51 := ne_lo (lo := 1) n_50 rx_47 rc_0 rfl (by decide)
          refine g_aload C 5 dX4_goOn_68 rfl ?_
          refine g_aload C 4 dX4_goOn_70 rfl ?_
          refine g_callVV C K (c_X1_become W9 hb_27L hb_27k hb_26L hb_26k  hU_20) hb_27L hb_27k (by decide) rfl v_4_44 rfl ⟨rfl, rfl⟩ ⟨Nat.le_of_ble_eq_true rfl, Nat.le_of_ble_eq_true rfl⟩ (Nat.le_of_ble_eq_true rfl) ⟨Nat.le_of_ble_eq_true rfl, Nat.le_of_ble_eq_true rfl⟩ dX4_goOn_72 rfl (st := []) (fun I_53 J_54 h_55 => ?_)
          obtain ⟨hUI_53, hFI_53, hGJ_54⟩ := h_55
          have hF_56 := fq_tr hF_21 hFI_53 (by decide)
          have hG_57 := fq_tr hG_22 hGJ_54 (by decide)
          refine g_aload C 5 dX4_goOn_75 rfl ?_
          refine g_iload C 6 dX4_goOn_77 rfl ?_
          refine g_callVV C K (c_X1_eatAll W9 hb_27L hb_27k v_28 (r_45) hUI_53) hb_27L hb_27k (by decide) rfl v_4_58 rfl ⟨rfl, rfl⟩ ⟨Nat.le_of_ble_eq_true rfl, Nat.le_of_ble_eq_true rfl⟩ (Nat.le_of_ble_eq_true rfl) ⟨Nat.le_of_ble_eq_true rfl, Nat.le_of_ble_eq_true rfl⟩ dX4_goOn_79 rfl (st := []) (fun I_59 J_60 h_61 => ?_)
          obtain ⟨hUI_59, hFI_59, hGJ_60⟩ := h_61
          have hF_62 := fq_tr hF_56 hFI_59 (by decide)
          have hG_63 := fq_tr hG_57 hGJ_60 (by decide)
          refine g_aload C 5 dX4_goOn_82 rfl ?_
          refine g_iload C 6 dX4_goOn_84 rfl ?_
          refine g_callVI C K (c_X1_tryToRise W9 hb_27L hb_27k v_28 (r_45) hUI_59) hb_27L hb_27k (by decide) rfl v_4_62 rfl ⟨rfl, rfl⟩ ⟨Nat.le_of_ble_eq_true rfl, Nat.le_of_ble_eq_true rfl⟩ (Nat.le_of_ble_eq_true rfl) ⟨Nat.le_of_ble_eq_true rfl, Nat.le_of_ble_eq_true rfl⟩ dX4_goOn_86 rfl (st := []) (fun x_64 I_65 J_66 h_67 => ?_)
          obtain ⟨hUI_65, hFI_65, hGJ_66, rx_64⟩ := h_67
          have hF_68 := fq_tr hF_62 hFI_65 (by decide)
          have hG_69 := fq_tr hG_63 hGJ_66 (by decide)
          refine g_pop C dX4_goOn_89 rfl ?_
          refine g_aload_n C 0 dX4_goOn_90 rfl rfl ?_
          refine g_getR C K hLx hkx f_4_17 hb_2 dX4_goOn_91 ?_
          refine g_iload_n C 1 dX4_goOn_94 rfl rfl ?_
          refine g_iload C 6 dX4_goOn_95 rfl ?_
          refine h_iast C K hb_2L hb_2k (v_23.toNatClampNeg) (rfl) (ix_0 rv_23 (by decide)) (ix_lt rv_23 (by decide) hb_2n (by decide)) dX4_goOn_97 (fun I_70 hI_70 => ?_)
          have hU_71 := iv_put W9 hUI_65 hI_70 (ro_a hb_2k (by decide) hb_2o hkx rfl) (lo := (-2147483648)) (hi := 2147483647) (rfl) (rg_all _) rfl
          have hF_72 := fq_puta hF_68 hI_70 (ro_a hb_2k (by decide) hb_2o hkx rfl) (by decide) (by decide)
          refine g_iload_n C 2 dX4_goOn_98 rfl rfl ?_
          refine g_iconst C (v := 1) dX4_goOn_99 (by decide) ?_
          refine g_iload C 6 dX4_goOn_100 rfl ?_
          obtain ⟨x_73, hx_73, rx_73⟩ := ex_shl (x := 1) (y := v_28) 6 64 rfl (r_45) (by decide)
          refine g_ishl C (v := x_73) dX4_goOn_102 hx_73 ?_
          refine g_iconst C (v := (-1)) dX4_goOn_103 (by decide) ?_
          obtain ⟨x_74, hx_74, rx_74⟩ := ex_any (z0 := x_73 ^^^ (-1))
          refine g_ixor C (v := x_74) dX4_goOn_104 hx_74 ?_
          obtain ⟨x_75, hx_75, rx_75⟩ := ex_andl (x := v_24) (y := x_74) (b := 127) (rg_w rv_24 (by decide) (by decide))
          refine g_iand C (v := x_75) dX4_goOn_105 hx_75 ?_
          refine g_istore C dX4_goOn_106 (by decide) (lo2 := [(7, .int x_75), (0, .ref x), (1, .int v_23), (2, .int v_24), (3, .int v_25), (4, .ref b_26), (5, .ref b_27), (6, .int v_28)]) rfl ?_
          refine g_iload_n C 4 dX4_goOn_108 rfl rfl ?_
          refine g_aload C 6 dX4_goOn_109 rfl ?_
          refine g_iload C 7 dX4_goOn_111 rfl ?_
          refine g_callVI C K (c_X1_wantsYet W9 hb_27L hb_27k v_28 (r_45) hU_71) hb_27L hb_27k (by decide) rfl v_4_65 rfl ⟨rfl, rfl⟩ ⟨Nat.le_of_ble_eq_true rfl, Nat.le_of_ble_eq_true rfl⟩ (Nat.le_of_ble_eq_true rfl) ⟨Nat.le_of_ble_eq_true rfl, Nat.le_of_ble_eq_true rfl⟩ dX4_goOn_113 rfl (st := [.int v_25]) (fun x_76 I_77 J_78 h_79 => ?_)
          obtain ⟨rfl, rfl, rx_76⟩ := h_79
          obtain ⟨x_80, hx_80, rx_80⟩ := ex_any (z0 := v_25 + x_76)
          refine g_iadd C (v := x_80) dX4_goOn_116 hx_80 ?_
          refine g_istore C dX4_goOn_117 (by decide) (lo2 := [(8, .int x_80), (7, .int x_75), (0, .ref x), (1, .int v_23), (2, .int v_24), (3, .int v_25), (4, .ref b_26), (5, .ref b_27), (6, .int v_28)]) rfl ?_
          refine g_iload C 0 dX4_goOn_119 rfl ?_
          refine g_aload C 7 dX4_goOn_121 rfl ?_
          refine g_iload C 1 dX4_goOn_123 rfl ?_
          refine g_callSI C K (c_X4_atLeastWanted W9 hb_27L hb_27k x_75 (rx_75) hU_71) s_4_68 rfl ⟨rfl, rfl⟩ ⟨Nat.le_of_ble_eq_true rfl, Nat.le_of_ble_eq_true rfl⟩ (Nat.le_of_ble_eq_true rfl) ⟨Nat.le_of_ble_eq_true rfl, Nat.le_of_ble_eq_true rfl⟩ dX4_goOn_125 rfl (st := [.int x_80]) (fun x_81 I_82 J_83 h_84 => ?_)
          obtain ⟨rfl, rfl, rx_81⟩ := h_84
          obtain ⟨x_85, hx_85, rx_85⟩ := ex_any (z0 := x_80 + x_81)
          refine g_iadd C (v := x_85) dX4_goOn_128 hx_85 ?_
          refine g_aload_n C 2 dX4_goOn_129 rfl rfl ?_
          obtain ⟨x_86, hx_86, rx_86⟩ := ex_get (I := I_70) (a := x) (j := 4) (lo := (-2147483648)) (hi := 2147483647) hU_71.1 hLx (ro_o hkx (by decide)) rfl
          refine g_getI C K hLx hkx f_4_28 (v := x_86) hx_86 dX4_goOn_130 ?_
          refine g_icmp_ge C (tgt := 147) dX4_goOn_133 (by decide) (fun h_87 => ?_) (fun h_87 => ?_)
          · skip
            refine g_lo (is := [2, 3, 4, 5, 6, 7, 8]) (lo2 := [(0, .ref x), (1, .int v_23), (2, .int v_24), (3, .int v_25), (4, .ref b_26), (5, .ref b_27), (6, .int v_28)]) rfl ?_
            exact j_147 I_70 J_66 hU_71 hF_72 hG_69 v_23 (rv_23) v_24 (rv_24) (nv_24_0) v_25 hb_26L hb_26k hb_27L hb_27k v_28 (r_45) hm_29
          · skip
            have r_88 := lt_l (hi := 2147483646) (nle h_87) rx_85 rx_86 (by decide)
            have r_89 := lt_r (lo := (-2147483647)) (nle h_87) rx_85 rx_86 (by decide)
            refine g_aload_n C 2 dX4_goOn_136 rfl rfl ?_
            refine g_iload_n C 3 dX4_goOn_137 rfl rfl ?_
            refine g_iconst C (v := 1) dX4_goOn_138 (by decide) ?_
            obtain ⟨x_90, hx_90, rx_90, tx_90⟩ := ex_add 3 3 rv_23 rc_1 (by decide) (by decide) (by decide) (by decide)
            refine g_iadd C (v := x_90) dX4_goOn_139 hx_90 ?_
            refine g_iload C 1 dX4_goOn_140 rfl ?_
            refine g_iload C 0 dX4_goOn_142 rfl ?_
            refine g_callVV C K (c_X4_goOn_3 W9 hLx hkx x_90 x_75 x_80 (rx_90) (rx_75) hU_71) hLx hkx (by decide) rfl v_4_48 rfl ⟨rfl, rfl⟩ ⟨Nat.le_of_ble_eq_true rfl, Nat.le_of_ble_eq_true rfl⟩ (Nat.le_of_ble_eq_true rfl) ⟨Nat.le_of_ble_eq_true rfl, Nat.le_of_ble_eq_true rfl⟩ dX4_goOn_144 rfl (st := []) (fun I_92 J_93 h_94 => ?_)
            obtain ⟨hUI_92, hFI_92, hGJ_93⟩ := h_94
            have hF_95 := fq_tr hF_72 hFI_92 (by decide)
            have hG_96 := fq_tr hG_69 hGJ_93 (by decide)
            refine g_lo (is := [2, 3, 4, 5, 6, 7, 8]) (lo2 := [(0, .ref x), (1, .int v_23), (2, .int v_24), (3, .int v_25), (4, .ref b_26), (5, .ref b_27), (6, .int v_28)]) rfl ?_
            exact j_147 I_92 J_93 hUI_92 hF_95 hG_96 v_23 (rv_23) v_24 (rv_24) (nv_24_0) v_25 hb_26L hb_26k hb_27L hb_27k v_28 (r_45) hm_29
  refine g_iload_n C 2 dX4_goOn_0 rfl rfl ?_
  refine g_if_eq C (tgt := 10) dX4_goOn_1 (by decide) (fun h_97 => ?_) (fun h_97 => ?_)
  · skip
    have r_98 := (⟨(ra1).1, (eq_rg (h_97) rc_0).2⟩ : Rg 0 0 a1)
    refine g_lo (is := [0, 1, 2, 3]) (lo2 := [(0, .ref x), (1, .int a0), (2, .int a1), (3, .int a2)]) rfl ?_
    exact j_10 I J hU hF hG a0 (ra0) a1 (r_98) a2
  · skip
    have n_99 : ¬ a1 = 0 := h_97
    have r_100 := ne_lo (lo := 1) n_99 ra1 rc_0 rfl (by decide)
    refine g_iload_n C 1 dX4_goOn_4 rfl rfl ?_
    refine g_bipush C (v := 7) dX4_goOn_5 (by decide) ?_
    refine g_icmp_lt C (tgt := 31) dX4_goOn_7 (by decide) (fun h_101 => ?_) (fun h_101 => ?_)
    · skip
      refine g_aload_n C 0 dX4_goOn_31 rfl rfl ?_
      refine g_getR C K hLx hkx f_4_11 hb_3 dX4_goOn_32 ?_
      refine g_iload_n C 1 dX4_goOn_35 rfl rfl ?_
      obtain ⟨b_102, hb_102, hb_102L, hb_102k⟩ := (W9 b_3 hb_3L).2.1 hb_3k (a0.toNatClampNeg) (ix_lt ra0 (by decide) hb_3n (by decide))
      refine h_aaldC C K hb_3L hb_3k (a0.toNatClampNeg) (rfl) (ix_0 ra0 (by decide)) (ix_lt ra0 (by decide) hb_3n (by decide)) hb_102 dX4_goOn_36 ?_
      refine g_astore C dX4_goOn_37 (by decide) (lo2 := [(4, .ref b_102), (0, .ref x), (1, .int a0), (2, .int a1), (3, .int a2)]) rfl ?_
      refine g_aload_n C 1 dX4_goOn_39 rfl rfl ?_
      refine g_getR C K hLx hkx f_4_11 hb_3 dX4_goOn_40 ?_
      refine g_iload_n C 2 dX4_goOn_43 rfl rfl ?_
      refine g_iconst C (v := 1) dX4_goOn_44 (by decide) ?_
      obtain ⟨x_103, hx_103, rx_103, tx_103⟩ := ex_add 3 3 ra0 rc_1 (by decide) (by decide) (by decide) (by decide)
      refine g_iadd C (v := x_103) dX4_goOn_45 hx_103 ?_
      obtain ⟨b_104, hb_104, hb_104L, hb_104k⟩ := (W9 b_3 hb_3L).2.1 hb_3k (x_103.toNatClampNeg) (ix_lt rx_103 (by decide) hb_3n (by decide))
      refine h_aaldC C K hb_3L hb_3k (x_103.toNatClampNeg) (rfl) (ix_0 rx_103 (by decide)) (ix_lt rx_103 (by decide) hb_3n (by decide)) hb_104 dX4_goOn_46 ?_
      refine g_astore C dX4_goOn_47 (by decide) (lo2 := [(5, .ref b_104), (4, .ref b_102), (0, .ref x), (1, .int a0), (2, .int a1), (3, .int a2)]) rfl ?_
      refine g_iconst C (v := 0) dX4_goOn_49 (by decide) ?_
      refine g_istore C dX4_goOn_50 (by decide) (lo2 := [(6, .int 0), (5, .ref b_104), (4, .ref b_102), (0, .ref x), (1, .int a0), (2, .int a1), (3, .int a2)]) rfl ?_
      refine g_lo (is := [3, 4, 5, 6, 2, 1, 0]) (lo2 := [(0, .ref x), (1, .int a0), (2, .int a1), (3, .int a2), (4, .ref b_102), (5, .ref b_104), (6, .int 0)]) rfl ?_
      exact l_52 8 I J hU hF hG a0 (ra0) a1 (r_100) (n_99) a2 hb_102L hb_102k hb_104L hb_104k 0 (rg_w rc_0 (by decide) (by decide)) (ms_s (a := 0) (b := 7) (N := 8) (rg_w rc_0 (by decide) (by decide)) (by decide))
    · skip
      have r_105 := le_r (nlt h_101) rc_7 ra0
      exact rg_no r_105 (by decide)
set_option maxRecDepth 100000 in
set_option maxHeartbeats 8000000 in
theorem c_X4_goOn_1 {l : Launch} {D : va_G} {cy : Nat → ClassId} {L : List Nat} {κ ln : Nat → Nat} {R : Nat → Nat → Option Nat} {I : Nat → Nat → Int32} {J : Nat → Nat → Int64} {ow : Nat → Nat × Nat} (W9 : ∀ a ∈ L, Shp L κ ln R ow a) {x : Nat} (hLx : x ∈ L) (hkx : κ x = 4) (a0 : Int32) (a1 : Int32) (a2 : Int32) (ra0 : Rg 1 1 a0) (ra1 : Rg 0 127 a1) (hU : Iv L κ R ow I) : CtV l yX4_goOn cX4_goOn 9 none { frames := 9, cells := 0, slots := 0, locals := 247 } D cy L κ ln R I J [.ref x, .int a0, .int a1, .int a2] (fun I2 J2 => Iv L κ R ow I2 ∧ Fq L κ ow [107, 108, 109, 110, 111, 112, 404, 16100, 16200, 16300, 16400, 16500, 16600, 34100, 34200] I I2 ∧ Fq L κ ow [] J J2) := by
  refine CtV.of (by decide +kernel) (Nat.le_of_ble_eq_true rfl) ?_
  intro p e s m below meth c B K
  have C := B.1
  have hF : Fq L κ ow [107, 108, 109, 110, 111, 112, 404, 16100, 16200, 16300, 16400, 16500, 16600, 34100, 34200] I I := fq_rf
  have hG : Fq L κ ow [] J J := fq_rf
  obtain ⟨b_1, hb_1, hb_1L, hb_1k, hb_1n, hb_1o⟩ := shp_a (W9 x hLx) hkx 2 14 7 rfl (by decide)
  obtain ⟨b_2, hb_2, hb_2L, hb_2k, hb_2n, hb_2o⟩ := shp_a (W9 x hLx) hkx 1 14 7 rfl (by decide)
  obtain ⟨b_3, hb_3, hb_3L, hb_3k, hb_3n, hb_3o⟩ := shp_a (W9 x hLx) hkx 0 17 8 rfl (by decide)
  refine g_lo (is := [0, 1, 2, 3]) (lo2 := [(0, .ref x), (1, .int a0), (2, .int a1), (3, .int a2)]) rfl ?_
  have j_10 : ∀ (I_4 : Nat → Nat → Int32) (J_5 : Nat → Nat → Int64) (hU_6 : Iv L κ R ow I_4) (hF_7 : Fq L κ ow [107, 108, 109, 110, 111, 112, 404, 16100, 16200, 16300, 16400, 16500, 16600, 34100, 34200] I I_4) (hG_8 : Fq L κ ow [] J J_5) (v_9 : Int32) (rv_9 : Rg 1 1 v_9) (v_10 : Int32) (rv_10 : Rg 0 0 v_10) (v_11 : Int32), WG p l e { frames := 9, cells := 0, slots := 0, locals := 247 } s m ([.ref x, .int a0, .int a1, .int a2] : List Value).toArray below meth c 9 0 0 (MQ below (Qv_ D cy L κ ln R (fun I2 J2 => Iv L κ R ow I2 ∧ Fq L κ ow [107, 108, 109, 110, 111, 112, 404, 16100, 16200, 16300, 16400, 16500, 16600, 34100, 34200] I I2 ∧ Fq L κ ow [] J J2)) ([.ref x, .int a0, .int a1, .int a2] : List Value).toArray s 0 0 (Al_ L)) D cy (Al_ L) s.heap L κ ln R I_4 J_5 10 [(0, .ref x), (1, .int v_9), (2, .int v_10), (3, .int v_11)] [] := by
    intro I_4 J_5 hU_6 hF_7 hG_8 v_9 rv_9 v_10 rv_10 v_11
    refine g_aload_n C 0 dX4_goOn_10 rfl rfl ?_
    refine g_iload_n C 3 dX4_goOn_11 rfl rfl ?_
    refine h_putI C K hLx hkx f_4_28 p_4_4 dX4_goOn_12 (fun I_12 hI_12 => ?_)
    have hU_13 := iv_put W9 hU_6 hI_12 (ro_o hkx (by decide)) (lo := (-2147483648)) (hi := 2147483647) (rfl) ((rg_all v_11)) rfl
    have hF_14 := fq_puto hF_7 hI_12 hkx (by decide) (by decide)
    refine g_aload_n C 0 dX4_goOn_15 rfl rfl ?_
    refine g_getR C K hLx hkx f_4_17 hb_2 dX4_goOn_16 ?_
    refine g_iconst C (v := 0) dX4_goOn_19 (by decide) ?_
    refine g_aload_n C 0 dX4_goOn_20 rfl rfl ?_
    refine g_getR C K hLx hkx f_4_21 hb_1 dX4_goOn_21 ?_
    refine g_iconst C (v := 0) dX4_goOn_24 (by decide) ?_
    refine g_bipush C (v := 7) dX4_goOn_25 (by decide) ?_
    refine h_copyI C K hb_1L hb_1k hb_2L hb_2k ac_4_52 7 (by decide) (by decide) (by rw [hb_2n]; decide) (by rw [hb_1n]; decide) w_cp (Nat.le_of_ble_eq_true rfl) (Nat.le_of_ble_eq_true rfl) dX4_goOn_27 (fun I_15 hI_15 => ?_)
    have hU_16 := iv_cp W9 hU_13 (uv_cpf hU_13.1 hI_15 (ro_a hb_1k (by decide) hb_1o hkx rfl) (fun _ => rfl)) hI_15 (ro_a hb_1k (by decide) hb_1o hkx rfl) (fun _ => rfl)
    have hF_17 := fq_cp hF_14 hI_15 (ro_a hb_1k (by decide) hb_1o hkx rfl) (by decide) (by decide)
    exact g_vret B K rfl ⟨hU_16, hF_17, hG_8⟩ dX4_goOn_30
  have l_52 : ∀ (n_52 : Nat) (I_18 : Nat → Nat → Int32) (J_19 : Nat → Nat → Int64) (hU_20 : Iv L κ R ow I_18) (hF_21 : Fq L κ ow [107, 108, 109, 110, 111, 112, 404, 16100, 16200, 16300, 16400, 16500, 16600, 34100, 34200] I I_18) (hG_22 : Fq L κ ow [] J J_19) (v_23 : Int32) (rv_23 : Rg 1 1 v_23) (v_24 : Int32) (rv_24 : Rg 1 127 v_24) (nv_24_0 : ¬ v_24 = 0) (v_25 : Int32) {b_26 : Nat} (hb_26L : b_26 ∈ L) (hb_26k : κ b_26 = 1) {b_27 : Nat} (hb_27L : b_27 ∈ L) (hb_27k : κ b_27 = 1) (v_28 : Int32) (rv_28 : Rg 0 7 v_28) (hm_29 : 7 < (v_28 : Int32).toInt + (n_52 : Int)), WG p l e { frames := 9, cells := 0, slots := 0, locals := 247 } s m ([.ref x, .int a0, .int a1, .int a2] : List Value).toArray below meth c 9 0 0 (MQ below (Qv_ D cy L κ ln R (fun I2 J2 => Iv L κ R ow I2 ∧ Fq L κ ow [107, 108, 109, 110, 111, 112, 404, 16100, 16200, 16300, 16400, 16500, 16600, 34100, 34200] I I2 ∧ Fq L κ ow [] J J2)) ([.ref x, .int a0, .int a1, .int a2] : List Value).toArray s 0 0 (Al_ L)) D cy (Al_ L) s.heap L κ ln R I_18 J_19 52 [(0, .ref x), (1, .int v_23), (2, .int v_24), (3, .int v_25), (4, .ref b_26), (5, .ref b_27), (6, .int v_28)] [] := by
    intro n_52
    induction n_52 with
    | zero =>
      intro I_18 J_19 hU_20 hF_21 hG_22 v_23 rv_23 v_24 rv_24 nv_24_0 v_25 b_26 hb_26L hb_26k b_27 hb_27L hb_27k v_28 rv_28 hm_29
      exact ms_0 rv_28 hm_29
    | succ n_52 ih_52 =>
      intro I_18 J_19 hU_20 hF_21 hG_22 v_23 rv_23 v_24 rv_24 nv_24_0 v_25 b_26 hb_26L hb_26k b_27 hb_27L hb_27k v_28 rv_28 hm_29
      have j_147 : ∀ (I_30 : Nat → Nat → Int32) (J_31 : Nat → Nat → Int64) (hU_32 : Iv L κ R ow I_30) (hF_33 : Fq L κ ow [107, 108, 109, 110, 111, 112, 404, 16100, 16200, 16300, 16400, 16500, 16600, 34100, 34200] I I_30) (hG_34 : Fq L κ ow [] J J_31) (v_35 : Int32) (rv_35 : Rg 1 1 v_35) (v_36 : Int32) (rv_36 : Rg 1 127 v_36) (nv_36_0 : ¬ v_36 = 0) (v_37 : Int32) {b_38 : Nat} (hb_38L : b_38 ∈ L) (hb_38k : κ b_38 = 1) {b_39 : Nat} (hb_39L : b_39 ∈ L) (hb_39k : κ b_39 = 1) (v_40 : Int32) (rv_40 : Rg 0 6 v_40) (hm_41 : 7 < (v_40 : Int32).toInt + ((n_52 + 1 : Nat) : Int)), WG p l e { frames := 9, cells := 0, slots := 0, locals := 247 } s m ([.ref x, .int a0, .int a1, .int a2] : List Value).toArray below meth c 9 0 0 (MQ below (Qv_ D cy L κ ln R (fun I2 J2 => Iv L κ R ow I2 ∧ Fq L κ ow [107, 108, 109, 110, 111, 112, 404, 16100, 16200, 16300, 16400, 16500, 16600, 34100, 34200] I I2 ∧ Fq L κ ow [] J J2)) ([.ref x, .int a0, .int a1, .int a2] : List Value).toArray s 0 0 (Al_ L)) D cy (Al_ L) s.heap L κ ln R I_30 J_31 147 [(0, .ref x), (1, .int v_35), (2, .int v_36), (3, .int v_37), (4, .ref b_38), (5, .ref b_39), (6, .int v_40)] [] := by
        intro I_30 J_31 hU_32 hF_33 hG_34 v_35 rv_35 v_36 rv_36 nv_36_0 v_37 b_38 hb_38L hb_38k b_39 hb_39L hb_39k v_40 rv_40 hm_41
        obtain ⟨x_42, hx_42, rx_42, tx_42⟩ := ex_add (y := 1) 1 7 rv_40 rc_1 (by decide) (by decide) (by decide) (by decide)
        refine g_iinc C dX4_goOn_147 (k := 6) (v := x_42) rfl hx_42 (by decide) (lo2 := [(6, .int x_42), (0, .ref x), (1, .int v_35), (2, .int v_36), (3, .int v_37), (4, .ref b_38), (5, .ref b_39)]) rfl ?_
        refine g_goto C (tgt := 52) dX4_goOn_150 (by decide) ?_
        refine g_lo (is := [1, 2, 3, 4, 5, 6, 0]) (lo2 := [(0, .ref x), (1, .int v_35), (2, .int v_36), (3, .int v_37), (4, .ref b_38), (5, .ref b_39), (6, .int x_42)]) rfl ?_
        exact ih_52 I_30 J_31 hU_32 hF_33 hG_34 v_35 (rv_35) v_36 (rv_36) (nv_36_0) v_37 hb_38L hb_38k hb_39L hb_39k x_42 (rg_w rx_42 (by decide) (by decide)) (ms_1 hm_41 (ti_k tx_42 rc_1) (by decide))
      refine g_iload C 6 dX4_goOn_52 rfl ?_
      refine g_bipush C (v := 7) dX4_goOn_54 (by decide) ?_
      refine g_icmp_ge C (tgt := 153) dX4_goOn_56 (by decide) (fun h_43 => ?_) (fun h_43 => ?_)
      · skip
        have r_44 := le_r (h_43) rc_7 rv_28
        exact g_vret B K rfl ⟨hU_20, hF_21, hG_22⟩ dX4_goOn_153
      · skip
        have r_45 := lt_l (hi := 6) (nle h_43) rv_28 rc_7 (by decide)
        refine g_iload_n C 2 dX4_goOn_59 rfl rfl ?_
        refine g_iload C 6 dX4_goOn_60 rfl ?_
        obtain ⟨x_46, hx_46, rx_46⟩ := ex_shr (x := v_24) (y := v_28) (b := 127) (rg_w rv_24 (by decide) (by decide))
        refine g_ishr C (v := x_46) dX4_goOn_62 hx_46 ?_
        refine g_iconst C (v := 1) dX4_goOn_63 (by decide) ?_
        obtain ⟨x_47, hx_47, rx_47⟩ := ex_andr (x := x_46) (y := 1) (b := 1) (rg_w rc_1 (by decide) (by decide))
        refine g_iand C (v := x_47) dX4_goOn_64 hx_47 ?_
        refine g_if_eq C (tgt := 147) dX4_goOn_65 (by decide) (fun h_48 => ?_) (fun h_48 => ?_)
        · skip
          have r_49 := (⟨(rx_47).1, (eq_rg (h_48) rc_0).2⟩ : Rg 0 0 x_47)
          refine g_lo (is := [0, 1, 2, 3, 4, 5, 6]) (lo2 := [(0, .ref x), (1, .int v_23), (2, .int v_24), (3, .int v_25), (4, .ref b_26), (5, .ref b_27), (6, .int v_28)]) rfl ?_
          exact j_147 I_18 J_19 hU_20 hF_21 hG_22 v_23 (rv_23) v_24 (rv_24) (nv_24_0) v_25 hb_26L hb_26k hb_27L hb_27k v_28 (r_45) hm_29
        · skip
          have n_50 : ¬ x_47 = 0 := h_48
          have r_51 := ne_lo (lo := 1) n_50 rx_47 rc_0 rfl (by decide)
          refine g_aload C 5 dX4_goOn_68 rfl ?_
          refine g_aload C 4 dX4_goOn_70 rfl ?_
          refine g_callVV C K (c_X1_become W9 hb_27L hb_27k hb_26L hb_26k  hU_20) hb_27L hb_27k (by decide) rfl v_4_44 rfl ⟨rfl, rfl⟩ ⟨Nat.le_of_ble_eq_true rfl, Nat.le_of_ble_eq_true rfl⟩ (Nat.le_of_ble_eq_true rfl) ⟨Nat.le_of_ble_eq_true rfl, Nat.le_of_ble_eq_true rfl⟩ dX4_goOn_72 rfl (st := []) (fun I_53 J_54 h_55 => ?_)
          obtain ⟨hUI_53, hFI_53, hGJ_54⟩ := h_55
          have hF_56 := fq_tr hF_21 hFI_53 (by decide)
          have hG_57 := fq_tr hG_22 hGJ_54 (by decide)
          refine g_aload C 5 dX4_goOn_75 rfl ?_
          refine g_iload C 6 dX4_goOn_77 rfl ?_
          refine g_callVV C K (c_X1_eatAll W9 hb_27L hb_27k v_28 (r_45) hUI_53) hb_27L hb_27k (by decide) rfl v_4_58 rfl ⟨rfl, rfl⟩ ⟨Nat.le_of_ble_eq_true rfl, Nat.le_of_ble_eq_true rfl⟩ (Nat.le_of_ble_eq_true rfl) ⟨Nat.le_of_ble_eq_true rfl, Nat.le_of_ble_eq_true rfl⟩ dX4_goOn_79 rfl (st := []) (fun I_59 J_60 h_61 => ?_)
          obtain ⟨hUI_59, hFI_59, hGJ_60⟩ := h_61
          have hF_62 := fq_tr hF_56 hFI_59 (by decide)
          have hG_63 := fq_tr hG_57 hGJ_60 (by decide)
          refine g_aload C 5 dX4_goOn_82 rfl ?_
          refine g_iload C 6 dX4_goOn_84 rfl ?_
          refine g_callVI C K (c_X1_tryToRise W9 hb_27L hb_27k v_28 (r_45) hUI_59) hb_27L hb_27k (by decide) rfl v_4_62 rfl ⟨rfl, rfl⟩ ⟨Nat.le_of_ble_eq_true rfl, Nat.le_of_ble_eq_true rfl⟩ (Nat.le_of_ble_eq_true rfl) ⟨Nat.le_of_ble_eq_true rfl, Nat.le_of_ble_eq_true rfl⟩ dX4_goOn_86 rfl (st := []) (fun x_64 I_65 J_66 h_67 => ?_)
          obtain ⟨hUI_65, hFI_65, hGJ_66, rx_64⟩ := h_67
          have hF_68 := fq_tr hF_62 hFI_65 (by decide)
          have hG_69 := fq_tr hG_63 hGJ_66 (by decide)
          refine g_pop C dX4_goOn_89 rfl ?_
          refine g_aload_n C 0 dX4_goOn_90 rfl rfl ?_
          refine g_getR C K hLx hkx f_4_17 hb_2 dX4_goOn_91 ?_
          refine g_iload_n C 1 dX4_goOn_94 rfl rfl ?_
          refine g_iload C 6 dX4_goOn_95 rfl ?_
          refine h_iast C K hb_2L hb_2k (v_23.toNatClampNeg) (rfl) (ix_0 rv_23 (by decide)) (ix_lt rv_23 (by decide) hb_2n (by decide)) dX4_goOn_97 (fun I_70 hI_70 => ?_)
          have hU_71 := iv_put W9 hUI_65 hI_70 (ro_a hb_2k (by decide) hb_2o hkx rfl) (lo := (-2147483648)) (hi := 2147483647) (rfl) (rg_all _) rfl
          have hF_72 := fq_puta hF_68 hI_70 (ro_a hb_2k (by decide) hb_2o hkx rfl) (by decide) (by decide)
          refine g_iload_n C 2 dX4_goOn_98 rfl rfl ?_
          refine g_iconst C (v := 1) dX4_goOn_99 (by decide) ?_
          refine g_iload C 6 dX4_goOn_100 rfl ?_
          obtain ⟨x_73, hx_73, rx_73⟩ := ex_shl (x := 1) (y := v_28) 6 64 rfl (r_45) (by decide)
          refine g_ishl C (v := x_73) dX4_goOn_102 hx_73 ?_
          refine g_iconst C (v := (-1)) dX4_goOn_103 (by decide) ?_
          obtain ⟨x_74, hx_74, rx_74⟩ := ex_any (z0 := x_73 ^^^ (-1))
          refine g_ixor C (v := x_74) dX4_goOn_104 hx_74 ?_
          obtain ⟨x_75, hx_75, rx_75⟩ := ex_andl (x := v_24) (y := x_74) (b := 127) (rg_w rv_24 (by decide) (by decide))
          refine g_iand C (v := x_75) dX4_goOn_105 hx_75 ?_
          refine g_istore C dX4_goOn_106 (by decide) (lo2 := [(7, .int x_75), (0, .ref x), (1, .int v_23), (2, .int v_24), (3, .int v_25), (4, .ref b_26), (5, .ref b_27), (6, .int v_28)]) rfl ?_
          refine g_iload_n C 4 dX4_goOn_108 rfl rfl ?_
          refine g_aload C 6 dX4_goOn_109 rfl ?_
          refine g_iload C 7 dX4_goOn_111 rfl ?_
          refine g_callVI C K (c_X1_wantsYet W9 hb_27L hb_27k v_28 (r_45) hU_71) hb_27L hb_27k (by decide) rfl v_4_65 rfl ⟨rfl, rfl⟩ ⟨Nat.le_of_ble_eq_true rfl, Nat.le_of_ble_eq_true rfl⟩ (Nat.le_of_ble_eq_true rfl) ⟨Nat.le_of_ble_eq_true rfl, Nat.le_of_ble_eq_true rfl⟩ dX4_goOn_113 rfl (st := [.int v_25]) (fun x_76 I_77 J_78 h_79 => ?_)
          obtain ⟨rfl, rfl, rx_76⟩ := h_79
          obtain ⟨x_80, hx_80, rx_80⟩ := ex_any (z0 := v_25 + x_76)
          refine g_iadd C (v := x_80) dX4_goOn_116 hx_80 ?_
          refine g_istore C dX4_goOn_117 (by decide) (lo2 := [(8, .int x_80), (7, .int x_75), (0, .ref x), (1, .int v_23), (2, .int v_24), (3, .int v_25), (4, .ref b_26), (5, .ref b_27), (6, .int v_28)]) rfl ?_
          refine g_iload C 0 dX4_goOn_119 rfl ?_
          refine g_aload C 7 dX4_goOn_121 rfl ?_
          refine g_iload C 1 dX4_goOn_123 rfl ?_
          refine g_callSI C K (c_X4_atLeastWanted W9 hb_27L hb_27k x_75 (rx_75) hU_71) s_4_68 rfl ⟨rfl, rfl⟩ ⟨Nat.le_of_ble_eq_true rfl, Nat.le_of_ble_eq_true rfl⟩ (Nat.le_of_ble_eq_true rfl) ⟨Nat.le_of_ble_eq_true rfl, Nat.le_of_ble_eq_true rfl⟩ dX4_goOn_125 rfl (st := [.int x_80]) (fun x_81 I_82 J_83 h_84 => ?_)
          obtain ⟨rfl, rfl, rx_81⟩ := h_84
          obtain ⟨x_85, hx_85, rx_85⟩ := ex_any (z0 := x_80 + x_81)
          refine g_iadd C (v := x_85) dX4_goOn_128 hx_85 ?_
          refine g_aload_n C 2 dX4_goOn_129 rfl rfl ?_
          obtain ⟨x_86, hx_86, rx_86⟩ := ex_get (I := I_70) (a := x) (j := 4) (lo := (-2147483648)) (hi := 2147483647) hU_71.1 hLx (ro_o hkx (by decide)) rfl
          refine g_getI C K hLx hkx f_4_28 (v := x_86) hx_86 dX4_goOn_130 ?_
          refine g_icmp_ge C (tgt := 147) dX4_goOn_133 (by decide) (fun h_87 => ?_) (fun h_87 => ?_)
          · skip
            refine g_lo (is := [2, 3, 4, 5, 6, 7, 8]) (lo2 := [(0, .ref x), (1, .int v_23), (2, .int v_24), (3, .int v_25), (4, .ref b_26), (5, .ref b_27), (6, .int v_28)]) rfl ?_
            exact j_147 I_70 J_66 hU_71 hF_72 hG_69 v_23 (rv_23) v_24 (rv_24) (nv_24_0) v_25 hb_26L hb_26k hb_27L hb_27k v_28 (r_45) hm_29
          · skip
            have r_88 := lt_l (hi := 2147483646) (nle h_87) rx_85 rx_86 (by decide)
            have r_89 := lt_r (lo := (-2147483647)) (nle h_87) rx_85 rx_86 (by decide)
            refine g_aload_n C 2 dX4_goOn_136 rfl rfl ?_
            refine g_iload_n C 3 dX4_goOn_137 rfl rfl ?_
            refine g_iconst C (v := 1) dX4_goOn_138 (by decide) ?_
            obtain ⟨x_90, hx_90, rx_90, tx_90⟩ := ex_add 2 2 rv_23 rc_1 (by decide) (by decide) (by decide) (by decide)
            refine g_iadd C (v := x_90) dX4_goOn_139 hx_90 ?_
            refine g_iload C 1 dX4_goOn_140 rfl ?_
            refine g_iload C 0 dX4_goOn_142 rfl ?_
            refine g_callVV C K (c_X4_goOn_2 W9 hLx hkx x_90 x_75 x_80 (rx_90) (rx_75) hU_71) hLx hkx (by decide) rfl v_4_48 rfl ⟨rfl, rfl⟩ ⟨Nat.le_of_ble_eq_true rfl, Nat.le_of_ble_eq_true rfl⟩ (Nat.le_of_ble_eq_true rfl) ⟨Nat.le_of_ble_eq_true rfl, Nat.le_of_ble_eq_true rfl⟩ dX4_goOn_144 rfl (st := []) (fun I_92 J_93 h_94 => ?_)
            obtain ⟨hUI_92, hFI_92, hGJ_93⟩ := h_94
            have hF_95 := fq_tr hF_72 hFI_92 (by decide)
            have hG_96 := fq_tr hG_69 hGJ_93 (by decide)
            refine g_lo (is := [2, 3, 4, 5, 6, 7, 8]) (lo2 := [(0, .ref x), (1, .int v_23), (2, .int v_24), (3, .int v_25), (4, .ref b_26), (5, .ref b_27), (6, .int v_28)]) rfl ?_
            exact j_147 I_92 J_93 hUI_92 hF_95 hG_96 v_23 (rv_23) v_24 (rv_24) (nv_24_0) v_25 hb_26L hb_26k hb_27L hb_27k v_28 (r_45) hm_29
  refine g_iload_n C 2 dX4_goOn_0 rfl rfl ?_
  refine g_if_eq C (tgt := 10) dX4_goOn_1 (by decide) (fun h_97 => ?_) (fun h_97 => ?_)
  · skip
    have r_98 := (⟨(ra1).1, (eq_rg (h_97) rc_0).2⟩ : Rg 0 0 a1)
    refine g_lo (is := [0, 1, 2, 3]) (lo2 := [(0, .ref x), (1, .int a0), (2, .int a1), (3, .int a2)]) rfl ?_
    exact j_10 I J hU hF hG a0 (ra0) a1 (r_98) a2
  · skip
    have n_99 : ¬ a1 = 0 := h_97
    have r_100 := ne_lo (lo := 1) n_99 ra1 rc_0 rfl (by decide)
    refine g_iload_n C 1 dX4_goOn_4 rfl rfl ?_
    refine g_bipush C (v := 7) dX4_goOn_5 (by decide) ?_
    refine g_icmp_lt C (tgt := 31) dX4_goOn_7 (by decide) (fun h_101 => ?_) (fun h_101 => ?_)
    · skip
      refine g_aload_n C 0 dX4_goOn_31 rfl rfl ?_
      refine g_getR C K hLx hkx f_4_11 hb_3 dX4_goOn_32 ?_
      refine g_iload_n C 1 dX4_goOn_35 rfl rfl ?_
      obtain ⟨b_102, hb_102, hb_102L, hb_102k⟩ := (W9 b_3 hb_3L).2.1 hb_3k (a0.toNatClampNeg) (ix_lt ra0 (by decide) hb_3n (by decide))
      refine h_aaldC C K hb_3L hb_3k (a0.toNatClampNeg) (rfl) (ix_0 ra0 (by decide)) (ix_lt ra0 (by decide) hb_3n (by decide)) hb_102 dX4_goOn_36 ?_
      refine g_astore C dX4_goOn_37 (by decide) (lo2 := [(4, .ref b_102), (0, .ref x), (1, .int a0), (2, .int a1), (3, .int a2)]) rfl ?_
      refine g_aload_n C 1 dX4_goOn_39 rfl rfl ?_
      refine g_getR C K hLx hkx f_4_11 hb_3 dX4_goOn_40 ?_
      refine g_iload_n C 2 dX4_goOn_43 rfl rfl ?_
      refine g_iconst C (v := 1) dX4_goOn_44 (by decide) ?_
      obtain ⟨x_103, hx_103, rx_103, tx_103⟩ := ex_add 2 2 ra0 rc_1 (by decide) (by decide) (by decide) (by decide)
      refine g_iadd C (v := x_103) dX4_goOn_45 hx_103 ?_
      obtain ⟨b_104, hb_104, hb_104L, hb_104k⟩ := (W9 b_3 hb_3L).2.1 hb_3k (x_103.toNatClampNeg) (ix_lt rx_103 (by decide) hb_3n (by decide))
      refine h_aaldC C K hb_3L hb_3k (x_103.toNatClampNeg) (rfl) (ix_0 rx_103 (by decide)) (ix_lt rx_103 (by decide) hb_3n (by decide)) hb_104 dX4_goOn_46 ?_
      refine g_astore C dX4_goOn_47 (by decide) (lo2 := [(5, .ref b_104), (4, .ref b_102), (0, .ref x), (1, .int a0), (2, .int a1), (3, .int a2)]) rfl ?_
      refine g_iconst C (v := 0) dX4_goOn_49 (by decide) ?_
      refine g_istore C dX4_goOn_50 (by decide) (lo2 := [(6, .int 0), (5, .ref b_104), (4, .ref b_102), (0, .ref x), (1, .int a0), (2, .int a1), (3, .int a2)]) rfl ?_
      refine g_lo (is := [3, 4, 5, 6, 2, 1, 0]) (lo2 := [(0, .ref x), (1, .int a0), (2, .int a1), (3, .int a2), (4, .ref b_102), (5, .ref b_104), (6, .int 0)]) rfl ?_
      exact l_52 8 I J hU hF hG a0 (ra0) a1 (r_100) (n_99) a2 hb_102L hb_102k hb_104L hb_104k 0 (rg_w rc_0 (by decide) (by decide)) (ms_s (a := 0) (b := 7) (N := 8) (rg_w rc_0 (by decide) (by decide)) (by decide))
    · skip
      have r_105 := le_r (nlt h_101) rc_7 ra0
      exact rg_no r_105 (by decide)
set_option maxRecDepth 100000 in
set_option maxHeartbeats 8000000 in
theorem c_X4_goOn_0 {l : Launch} {D : va_G} {cy : Nat → ClassId} {L : List Nat} {κ ln : Nat → Nat} {R : Nat → Nat → Option Nat} {I : Nat → Nat → Int32} {J : Nat → Nat → Int64} {ow : Nat → Nat × Nat} (W9 : ∀ a ∈ L, Shp L κ ln R ow a) {x : Nat} (hLx : x ∈ L) (hkx : κ x = 4) (a0 : Int32) (a1 : Int32) (a2 : Int32) (ra0 : Rg 0 0 a0) (ra1 : Rg 0 127 a1) (ra2 : Rg 0 0 a2) (hU : Iv L κ R ow I) : CtV l yX4_goOn cX4_goOn 9 none { frames := 10, cells := 0, slots := 0, locals := 275 } D cy L κ ln R I J [.ref x, .int a0, .int a1, .int a2] (fun I2 J2 => Iv L κ R ow I2 ∧ Fq L κ ow [107, 108, 109, 110, 111, 112, 404, 16100, 16200, 16300, 16400, 16500, 16600, 34100, 34200] I I2 ∧ Fq L κ ow [] J J2) := by
  refine CtV.of (by decide +kernel) (Nat.le_of_ble_eq_true rfl) ?_
  intro p e s m below meth c B K
  have C := B.1
  have hF : Fq L κ ow [107, 108, 109, 110, 111, 112, 404, 16100, 16200, 16300, 16400, 16500, 16600, 34100, 34200] I I := fq_rf
  have hG : Fq L κ ow [] J J := fq_rf
  obtain ⟨b_1, hb_1, hb_1L, hb_1k, hb_1n, hb_1o⟩ := shp_a (W9 x hLx) hkx 2 14 7 rfl (by decide)
  obtain ⟨b_2, hb_2, hb_2L, hb_2k, hb_2n, hb_2o⟩ := shp_a (W9 x hLx) hkx 1 14 7 rfl (by decide)
  obtain ⟨b_3, hb_3, hb_3L, hb_3k, hb_3n, hb_3o⟩ := shp_a (W9 x hLx) hkx 0 17 8 rfl (by decide)
  refine g_lo (is := [0, 1, 2, 3]) (lo2 := [(0, .ref x), (1, .int a0), (2, .int a1), (3, .int a2)]) rfl ?_
  have j_10 : ∀ (I_4 : Nat → Nat → Int32) (J_5 : Nat → Nat → Int64) (hU_6 : Iv L κ R ow I_4) (hF_7 : Fq L κ ow [107, 108, 109, 110, 111, 112, 404, 16100, 16200, 16300, 16400, 16500, 16600, 34100, 34200] I I_4) (hG_8 : Fq L κ ow [] J J_5) (v_9 : Int32) (rv_9 : Rg 0 0 v_9) (v_10 : Int32) (rv_10 : Rg 0 0 v_10) (v_11 : Int32) (rv_11 : Rg 0 0 v_11), WG p l e { frames := 10, cells := 0, slots := 0, locals := 275 } s m ([.ref x, .int a0, .int a1, .int a2] : List Value).toArray below meth c 9 0 0 (MQ below (Qv_ D cy L κ ln R (fun I2 J2 => Iv L κ R ow I2 ∧ Fq L κ ow [107, 108, 109, 110, 111, 112, 404, 16100, 16200, 16300, 16400, 16500, 16600, 34100, 34200] I I2 ∧ Fq L κ ow [] J J2)) ([.ref x, .int a0, .int a1, .int a2] : List Value).toArray s 0 0 (Al_ L)) D cy (Al_ L) s.heap L κ ln R I_4 J_5 10 [(0, .ref x), (1, .int v_9), (2, .int v_10), (3, .int v_11)] [] := by
    intro I_4 J_5 hU_6 hF_7 hG_8 v_9 rv_9 v_10 rv_10 v_11 rv_11
    refine g_aload_n C 0 dX4_goOn_10 rfl rfl ?_
    refine g_iload_n C 3 dX4_goOn_11 rfl rfl ?_
    refine h_putI C K hLx hkx f_4_28 p_4_4 dX4_goOn_12 (fun I_12 hI_12 => ?_)
    have hU_13 := iv_put W9 hU_6 hI_12 (ro_o hkx (by decide)) (lo := (-2147483648)) (hi := 2147483647) (rfl) (rg_all _) rfl
    have hF_14 := fq_puto hF_7 hI_12 hkx (by decide) (by decide)
    refine g_aload_n C 0 dX4_goOn_15 rfl rfl ?_
    refine g_getR C K hLx hkx f_4_17 hb_2 dX4_goOn_16 ?_
    refine g_iconst C (v := 0) dX4_goOn_19 (by decide) ?_
    refine g_aload_n C 0 dX4_goOn_20 rfl rfl ?_
    refine g_getR C K hLx hkx f_4_21 hb_1 dX4_goOn_21 ?_
    refine g_iconst C (v := 0) dX4_goOn_24 (by decide) ?_
    refine g_bipush C (v := 7) dX4_goOn_25 (by decide) ?_
    refine h_copyI C K hb_1L hb_1k hb_2L hb_2k ac_4_52 7 (by decide) (by decide) (by rw [hb_2n]; decide) (by rw [hb_1n]; decide) w_cp (Nat.le_of_ble_eq_true rfl) (Nat.le_of_ble_eq_true rfl) dX4_goOn_27 (fun I_15 hI_15 => ?_)
    have hU_16 := iv_cp W9 hU_13 (uv_cpf hU_13.1 hI_15 (ro_a hb_1k (by decide) hb_1o hkx rfl) (fun _ => rfl)) hI_15 (ro_a hb_1k (by decide) hb_1o hkx rfl) (fun _ => rfl)
    have hF_17 := fq_cp hF_14 hI_15 (ro_a hb_1k (by decide) hb_1o hkx rfl) (by decide) (by decide)
    exact g_vret B K rfl ⟨hU_16, hF_17, hG_8⟩ dX4_goOn_30
  have l_52 : ∀ (n_52 : Nat) (I_18 : Nat → Nat → Int32) (J_19 : Nat → Nat → Int64) (hU_20 : Iv L κ R ow I_18) (hF_21 : Fq L κ ow [107, 108, 109, 110, 111, 112, 404, 16100, 16200, 16300, 16400, 16500, 16600, 34100, 34200] I I_18) (hG_22 : Fq L κ ow [] J J_19) (v_23 : Int32) (rv_23 : Rg 0 0 v_23) (v_24 : Int32) (rv_24 : Rg 1 127 v_24) (nv_24_0 : ¬ v_24 = 0) (v_25 : Int32) (rv_25 : Rg 0 0 v_25) {b_26 : Nat} (hb_26L : b_26 ∈ L) (hb_26k : κ b_26 = 1) {b_27 : Nat} (hb_27L : b_27 ∈ L) (hb_27k : κ b_27 = 1) (v_28 : Int32) (rv_28 : Rg 0 7 v_28) (hm_29 : 7 < (v_28 : Int32).toInt + (n_52 : Int)), WG p l e { frames := 10, cells := 0, slots := 0, locals := 275 } s m ([.ref x, .int a0, .int a1, .int a2] : List Value).toArray below meth c 9 0 0 (MQ below (Qv_ D cy L κ ln R (fun I2 J2 => Iv L κ R ow I2 ∧ Fq L κ ow [107, 108, 109, 110, 111, 112, 404, 16100, 16200, 16300, 16400, 16500, 16600, 34100, 34200] I I2 ∧ Fq L κ ow [] J J2)) ([.ref x, .int a0, .int a1, .int a2] : List Value).toArray s 0 0 (Al_ L)) D cy (Al_ L) s.heap L κ ln R I_18 J_19 52 [(0, .ref x), (1, .int v_23), (2, .int v_24), (3, .int v_25), (4, .ref b_26), (5, .ref b_27), (6, .int v_28)] [] := by
    intro n_52
    induction n_52 with
    | zero =>
      intro I_18 J_19 hU_20 hF_21 hG_22 v_23 rv_23 v_24 rv_24 nv_24_0 v_25 rv_25 b_26 hb_26L hb_26k b_27 hb_27L hb_27k v_28 rv_28 hm_29
      exact ms_0 rv_28 hm_29
    | succ n_52 ih_52 =>
      intro I_18 J_19 hU_20 hF_21 hG_22 v_23 rv_23 v_24 rv_24 nv_24_0 v_25 rv_25 b_26 hb_26L hb_26k b_27 hb_27L hb_27k v_28 rv_28 hm_29
      have j_147 : ∀ (I_30 : Nat → Nat → Int32) (J_31 : Nat → Nat → Int64) (hU_32 : Iv L κ R ow I_30) (hF_33 : Fq L κ ow [107, 108, 109, 110, 111, 112, 404, 16100, 16200, 16300, 16400, 16500, 16600, 34100, 34200] I I_30) (hG_34 : Fq L κ ow [] J J_31) (v_35 : Int32) (rv_35 : Rg 0 0 v_35) (v_36 : Int32) (rv_36 : Rg 1 127 v_36) (nv_36_0 : ¬ v_36 = 0) (v_37 : Int32) (rv_37 : Rg 0 0 v_37) {b_38 : Nat} (hb_38L : b_38 ∈ L) (hb_38k : κ b_38 = 1) {b_39 : Nat} (hb_39L : b_39 ∈ L) (hb_39k : κ b_39 = 1) (v_40 : Int32) (rv_40 : Rg 0 6 v_40) (hm_41 : 7 < (v_40 : Int32).toInt + ((n_52 + 1 : Nat) : Int)), WG p l e { frames := 10, cells := 0, slots := 0, locals := 275 } s m ([.ref x, .int a0, .int a1, .int a2] : List Value).toArray below meth c 9 0 0 (MQ below (Qv_ D cy L κ ln R (fun I2 J2 => Iv L κ R ow I2 ∧ Fq L κ ow [107, 108, 109, 110, 111, 112, 404, 16100, 16200, 16300, 16400, 16500, 16600, 34100, 34200] I I2 ∧ Fq L κ ow [] J J2)) ([.ref x, .int a0, .int a1, .int a2] : List Value).toArray s 0 0 (Al_ L)) D cy (Al_ L) s.heap L κ ln R I_30 J_31 147 [(0, .ref x), (1, .int v_35), (2, .int v_36), (3, .int v_37), (4, .ref b_38), (5, .ref b_39), (6, .int v_40)] [] := by
        intro I_30 J_31 hU_32 hF_33 hG_34 v_35 rv_35 v_36 rv_36 nv_36_0 v_37 rv_37 b_38 hb_38L hb_38k b_39 hb_39L hb_39k v_40 rv_40 hm_41
        obtain ⟨x_42, hx_42, rx_42, tx_42⟩ := ex_add (y := 1) 1 7 rv_40 rc_1 (by decide) (by decide) (by decide) (by decide)
        refine g_iinc C dX4_goOn_147 (k := 6) (v := x_42) rfl hx_42 (by decide) (lo2 := [(6, .int x_42), (0, .ref x), (1, .int v_35), (2, .int v_36), (3, .int v_37), (4, .ref b_38), (5, .ref b_39)]) rfl ?_
        refine g_goto C (tgt := 52) dX4_goOn_150 (by decide) ?_
        refine g_lo (is := [1, 2, 3, 4, 5, 6, 0]) (lo2 := [(0, .ref x), (1, .int v_35), (2, .int v_36), (3, .int v_37), (4, .ref b_38), (5, .ref b_39), (6, .int x_42)]) rfl ?_
        exact ih_52 I_30 J_31 hU_32 hF_33 hG_34 v_35 (rv_35) v_36 (rv_36) (nv_36_0) v_37 (rv_37) hb_38L hb_38k hb_39L hb_39k x_42 (rg_w rx_42 (by decide) (by decide)) (ms_1 hm_41 (ti_k tx_42 rc_1) (by decide))
      refine g_iload C 6 dX4_goOn_52 rfl ?_
      refine g_bipush C (v := 7) dX4_goOn_54 (by decide) ?_
      refine g_icmp_ge C (tgt := 153) dX4_goOn_56 (by decide) (fun h_43 => ?_) (fun h_43 => ?_)
      · skip
        have r_44 := le_r (h_43) rc_7 rv_28
        exact g_vret B K rfl ⟨hU_20, hF_21, hG_22⟩ dX4_goOn_153
      · skip
        have r_45 := lt_l (hi := 6) (nle h_43) rv_28 rc_7 (by decide)
        refine g_iload_n C 2 dX4_goOn_59 rfl rfl ?_
        refine g_iload C 6 dX4_goOn_60 rfl ?_
        obtain ⟨x_46, hx_46, rx_46⟩ := ex_shr (x := v_24) (y := v_28) (b := 127) (rg_w rv_24 (by decide) (by decide))
        refine g_ishr C (v := x_46) dX4_goOn_62 hx_46 ?_
        refine g_iconst C (v := 1) dX4_goOn_63 (by decide) ?_
        obtain ⟨x_47, hx_47, rx_47⟩ := ex_andr (x := x_46) (y := 1) (b := 1) (rg_w rc_1 (by decide) (by decide))
        refine g_iand C (v := x_47) dX4_goOn_64 hx_47 ?_
        refine g_if_eq C (tgt := 147) dX4_goOn_65 (by decide) (fun h_48 => ?_) (fun h_48 => ?_)
        · skip
          have r_49 := (⟨(rx_47).1, (eq_rg (h_48) rc_0).2⟩ : Rg 0 0 x_47)
          refine g_lo (is := [0, 1, 2, 3, 4, 5, 6]) (lo2 := [(0, .ref x), (1, .int v_23), (2, .int v_24), (3, .int v_25), (4, .ref b_26), (5, .ref b_27), (6, .int v_28)]) rfl ?_
          exact j_147 I_18 J_19 hU_20 hF_21 hG_22 v_23 (rv_23) v_24 (rv_24) (nv_24_0) v_25 (rv_25) hb_26L hb_26k hb_27L hb_27k v_28 (r_45) hm_29
        · skip
          have n_50 : ¬ x_47 = 0 := h_48
          have r_51 := ne_lo (lo := 1) n_50 rx_47 rc_0 rfl (by decide)
          refine g_aload C 5 dX4_goOn_68 rfl ?_
          refine g_aload C 4 dX4_goOn_70 rfl ?_
          refine g_callVV C K (c_X1_become W9 hb_27L hb_27k hb_26L hb_26k  hU_20) hb_27L hb_27k (by decide) rfl v_4_44 rfl ⟨rfl, rfl⟩ ⟨Nat.le_of_ble_eq_true rfl, Nat.le_of_ble_eq_true rfl⟩ (Nat.le_of_ble_eq_true rfl) ⟨Nat.le_of_ble_eq_true rfl, Nat.le_of_ble_eq_true rfl⟩ dX4_goOn_72 rfl (st := []) (fun I_53 J_54 h_55 => ?_)
          obtain ⟨hUI_53, hFI_53, hGJ_54⟩ := h_55
          have hF_56 := fq_tr hF_21 hFI_53 (by decide)
          have hG_57 := fq_tr hG_22 hGJ_54 (by decide)
          refine g_aload C 5 dX4_goOn_75 rfl ?_
          refine g_iload C 6 dX4_goOn_77 rfl ?_
          refine g_callVV C K (c_X1_eatAll W9 hb_27L hb_27k v_28 (r_45) hUI_53) hb_27L hb_27k (by decide) rfl v_4_58 rfl ⟨rfl, rfl⟩ ⟨Nat.le_of_ble_eq_true rfl, Nat.le_of_ble_eq_true rfl⟩ (Nat.le_of_ble_eq_true rfl) ⟨Nat.le_of_ble_eq_true rfl, Nat.le_of_ble_eq_true rfl⟩ dX4_goOn_79 rfl (st := []) (fun I_59 J_60 h_61 => ?_)
          obtain ⟨hUI_59, hFI_59, hGJ_60⟩ := h_61
          have hF_62 := fq_tr hF_56 hFI_59 (by decide)
          have hG_63 := fq_tr hG_57 hGJ_60 (by decide)
          refine g_aload C 5 dX4_goOn_82 rfl ?_
          refine g_iload C 6 dX4_goOn_84 rfl ?_
          refine g_callVI C K (c_X1_tryToRise W9 hb_27L hb_27k v_28 (r_45) hUI_59) hb_27L hb_27k (by decide) rfl v_4_62 rfl ⟨rfl, rfl⟩ ⟨Nat.le_of_ble_eq_true rfl, Nat.le_of_ble_eq_true rfl⟩ (Nat.le_of_ble_eq_true rfl) ⟨Nat.le_of_ble_eq_true rfl, Nat.le_of_ble_eq_true rfl⟩ dX4_goOn_86 rfl (st := []) (fun x_64 I_65 J_66 h_67 => ?_)
          obtain ⟨hUI_65, hFI_65, hGJ_66, rx_64⟩ := h_67
          have hF_68 := fq_tr hF_62 hFI_65 (by decide)
          have hG_69 := fq_tr hG_63 hGJ_66 (by decide)
          refine g_pop C dX4_goOn_89 rfl ?_
          refine g_aload_n C 0 dX4_goOn_90 rfl rfl ?_
          refine g_getR C K hLx hkx f_4_17 hb_2 dX4_goOn_91 ?_
          refine g_iload_n C 1 dX4_goOn_94 rfl rfl ?_
          refine g_iload C 6 dX4_goOn_95 rfl ?_
          refine h_iast C K hb_2L hb_2k (v_23.toNatClampNeg) (rfl) (ix_0 rv_23 (by decide)) (ix_lt rv_23 (by decide) hb_2n (by decide)) dX4_goOn_97 (fun I_70 hI_70 => ?_)
          have hU_71 := iv_put W9 hUI_65 hI_70 (ro_a hb_2k (by decide) hb_2o hkx rfl) (lo := (-2147483648)) (hi := 2147483647) (rfl) (rg_all _) rfl
          have hF_72 := fq_puta hF_68 hI_70 (ro_a hb_2k (by decide) hb_2o hkx rfl) (by decide) (by decide)
          refine g_iload_n C 2 dX4_goOn_98 rfl rfl ?_
          refine g_iconst C (v := 1) dX4_goOn_99 (by decide) ?_
          refine g_iload C 6 dX4_goOn_100 rfl ?_
          obtain ⟨x_73, hx_73, rx_73⟩ := ex_shl (x := 1) (y := v_28) 6 64 rfl (r_45) (by decide)
          refine g_ishl C (v := x_73) dX4_goOn_102 hx_73 ?_
          refine g_iconst C (v := (-1)) dX4_goOn_103 (by decide) ?_
          obtain ⟨x_74, hx_74, rx_74⟩ := ex_any (z0 := x_73 ^^^ (-1))
          refine g_ixor C (v := x_74) dX4_goOn_104 hx_74 ?_
          obtain ⟨x_75, hx_75, rx_75⟩ := ex_andl (x := v_24) (y := x_74) (b := 127) (rg_w rv_24 (by decide) (by decide))
          refine g_iand C (v := x_75) dX4_goOn_105 hx_75 ?_
          refine g_istore C dX4_goOn_106 (by decide) (lo2 := [(7, .int x_75), (0, .ref x), (1, .int v_23), (2, .int v_24), (3, .int v_25), (4, .ref b_26), (5, .ref b_27), (6, .int v_28)]) rfl ?_
          refine g_iload_n C 4 dX4_goOn_108 rfl rfl ?_
          refine g_aload C 6 dX4_goOn_109 rfl ?_
          refine g_iload C 7 dX4_goOn_111 rfl ?_
          refine g_callVI C K (c_X1_wantsYet W9 hb_27L hb_27k v_28 (r_45) hU_71) hb_27L hb_27k (by decide) rfl v_4_65 rfl ⟨rfl, rfl⟩ ⟨Nat.le_of_ble_eq_true rfl, Nat.le_of_ble_eq_true rfl⟩ (Nat.le_of_ble_eq_true rfl) ⟨Nat.le_of_ble_eq_true rfl, Nat.le_of_ble_eq_true rfl⟩ dX4_goOn_113 rfl (st := [.int v_25]) (fun x_76 I_77 J_78 h_79 => ?_)
          obtain ⟨rfl, rfl, rx_76⟩ := h_79
          obtain ⟨x_80, hx_80, rx_80, tx_80⟩ := ex_add (-2147483648) 2147483647 rv_25 rx_76 (by decide) (by decide) (by decide) (by decide)
          refine g_iadd C (v := x_80) dX4_goOn_116 hx_80 ?_
          refine g_istore C dX4_goOn_117 (by decide) (lo2 := [(8, .int x_80), (7, .int x_75), (0, .ref x), (1, .int v_23), (2, .int v_24), (3, .int v_25), (4, .ref b_26), (5, .ref b_27), (6, .int v_28)]) rfl ?_
          refine g_iload C 0 dX4_goOn_119 rfl ?_
          refine g_aload C 7 dX4_goOn_121 rfl ?_
          refine g_iload C 1 dX4_goOn_123 rfl ?_
          refine g_callSI C K (c_X4_atLeastWanted W9 hb_27L hb_27k x_75 (rx_75) hU_71) s_4_68 rfl ⟨rfl, rfl⟩ ⟨Nat.le_of_ble_eq_true rfl, Nat.le_of_ble_eq_true rfl⟩ (Nat.le_of_ble_eq_true rfl) ⟨Nat.le_of_ble_eq_true rfl, Nat.le_of_ble_eq_true rfl⟩ dX4_goOn_125 rfl (st := [.int x_80]) (fun x_81 I_82 J_83 h_84 => ?_)
          obtain ⟨rfl, rfl, rx_81⟩ := h_84
          obtain ⟨x_85, hx_85, rx_85⟩ := ex_any (z0 := x_80 + x_81)
          refine g_iadd C (v := x_85) dX4_goOn_128 hx_85 ?_
          refine g_aload_n C 2 dX4_goOn_129 rfl rfl ?_
          obtain ⟨x_86, hx_86, rx_86⟩ := ex_get (I := I_70) (a := x) (j := 4) (lo := (-2147483648)) (hi := 2147483647) hU_71.1 hLx (ro_o hkx (by decide)) rfl
          refine g_getI C K hLx hkx f_4_28 (v := x_86) hx_86 dX4_goOn_130 ?_
          refine g_icmp_ge C (tgt := 147) dX4_goOn_133 (by decide) (fun h_87 => ?_) (fun h_87 => ?_)
          · skip
            refine g_lo (is := [2, 3, 4, 5, 6, 7, 8]) (lo2 := [(0, .ref x), (1, .int v_23), (2, .int v_24), (3, .int v_25), (4, .ref b_26), (5, .ref b_27), (6, .int v_28)]) rfl ?_
            exact j_147 I_70 J_66 hU_71 hF_72 hG_69 v_23 (rv_23) v_24 (rv_24) (nv_24_0) v_25 (rv_25) hb_26L hb_26k hb_27L hb_27k v_28 (r_45) hm_29
          · skip
            have r_88 := lt_l (hi := 2147483646) (nle h_87) rx_85 rx_86 (by decide)
            have r_89 := lt_r (lo := (-2147483647)) (nle h_87) rx_85 rx_86 (by decide)
            refine g_aload_n C 2 dX4_goOn_136 rfl rfl ?_
            refine g_iload_n C 3 dX4_goOn_137 rfl rfl ?_
            refine g_iconst C (v := 1) dX4_goOn_138 (by decide) ?_
            obtain ⟨x_90, hx_90, rx_90, tx_90⟩ := ex_add 1 1 rv_23 rc_1 (by decide) (by decide) (by decide) (by decide)
            refine g_iadd C (v := x_90) dX4_goOn_139 hx_90 ?_
            refine g_iload C 1 dX4_goOn_140 rfl ?_
            refine g_iload C 0 dX4_goOn_142 rfl ?_
            refine g_callVV C K (c_X4_goOn_1 W9 hLx hkx x_90 x_75 x_80 (rx_90) (rx_75) hU_71) hLx hkx (by decide) rfl v_4_48 rfl ⟨rfl, rfl⟩ ⟨Nat.le_of_ble_eq_true rfl, Nat.le_of_ble_eq_true rfl⟩ (Nat.le_of_ble_eq_true rfl) ⟨Nat.le_of_ble_eq_true rfl, Nat.le_of_ble_eq_true rfl⟩ dX4_goOn_144 rfl (st := []) (fun I_92 J_93 h_94 => ?_)
            obtain ⟨hUI_92, hFI_92, hGJ_93⟩ := h_94
            have hF_95 := fq_tr hF_72 hFI_92 (by decide)
            have hG_96 := fq_tr hG_69 hGJ_93 (by decide)
            refine g_lo (is := [2, 3, 4, 5, 6, 7, 8]) (lo2 := [(0, .ref x), (1, .int v_23), (2, .int v_24), (3, .int v_25), (4, .ref b_26), (5, .ref b_27), (6, .int v_28)]) rfl ?_
            exact j_147 I_92 J_93 hUI_92 hF_95 hG_96 v_23 (rv_23) v_24 (rv_24) (nv_24_0) v_25 (rv_25) hb_26L hb_26k hb_27L hb_27k v_28 (r_45) hm_29
  refine g_iload_n C 2 dX4_goOn_0 rfl rfl ?_
  refine g_if_eq C (tgt := 10) dX4_goOn_1 (by decide) (fun h_97 => ?_) (fun h_97 => ?_)
  · skip
    have r_98 := (⟨(ra1).1, (eq_rg (h_97) rc_0).2⟩ : Rg 0 0 a1)
    refine g_lo (is := [0, 1, 2, 3]) (lo2 := [(0, .ref x), (1, .int a0), (2, .int a1), (3, .int a2)]) rfl ?_
    exact j_10 I J hU hF hG a0 (ra0) a1 (r_98) a2 (ra2)
  · skip
    have n_99 : ¬ a1 = 0 := h_97
    have r_100 := ne_lo (lo := 1) n_99 ra1 rc_0 rfl (by decide)
    refine g_iload_n C 1 dX4_goOn_4 rfl rfl ?_
    refine g_bipush C (v := 7) dX4_goOn_5 (by decide) ?_
    refine g_icmp_lt C (tgt := 31) dX4_goOn_7 (by decide) (fun h_101 => ?_) (fun h_101 => ?_)
    · skip
      refine g_aload_n C 0 dX4_goOn_31 rfl rfl ?_
      refine g_getR C K hLx hkx f_4_11 hb_3 dX4_goOn_32 ?_
      refine g_iload_n C 1 dX4_goOn_35 rfl rfl ?_
      obtain ⟨b_102, hb_102, hb_102L, hb_102k⟩ := (W9 b_3 hb_3L).2.1 hb_3k (a0.toNatClampNeg) (ix_lt ra0 (by decide) hb_3n (by decide))
      refine h_aaldC C K hb_3L hb_3k (a0.toNatClampNeg) (rfl) (ix_0 ra0 (by decide)) (ix_lt ra0 (by decide) hb_3n (by decide)) hb_102 dX4_goOn_36 ?_
      refine g_astore C dX4_goOn_37 (by decide) (lo2 := [(4, .ref b_102), (0, .ref x), (1, .int a0), (2, .int a1), (3, .int a2)]) rfl ?_
      refine g_aload_n C 1 dX4_goOn_39 rfl rfl ?_
      refine g_getR C K hLx hkx f_4_11 hb_3 dX4_goOn_40 ?_
      refine g_iload_n C 2 dX4_goOn_43 rfl rfl ?_
      refine g_iconst C (v := 1) dX4_goOn_44 (by decide) ?_
      obtain ⟨x_103, hx_103, rx_103, tx_103⟩ := ex_add 1 1 ra0 rc_1 (by decide) (by decide) (by decide) (by decide)
      refine g_iadd C (v := x_103) dX4_goOn_45 hx_103 ?_
      obtain ⟨b_104, hb_104, hb_104L, hb_104k⟩ := (W9 b_3 hb_3L).2.1 hb_3k (x_103.toNatClampNeg) (ix_lt rx_103 (by decide) hb_3n (by decide))
      refine h_aaldC C K hb_3L hb_3k (x_103.toNatClampNeg) (rfl) (ix_0 rx_103 (by decide)) (ix_lt rx_103 (by decide) hb_3n (by decide)) hb_104 dX4_goOn_46 ?_
      refine g_astore C dX4_goOn_47 (by decide) (lo2 := [(5, .ref b_104), (4, .ref b_102), (0, .ref x), (1, .int a0), (2, .int a1), (3, .int a2)]) rfl ?_
      refine g_iconst C (v := 0) dX4_goOn_49 (by decide) ?_
      refine g_istore C dX4_goOn_50 (by decide) (lo2 := [(6, .int 0), (5, .ref b_104), (4, .ref b_102), (0, .ref x), (1, .int a0), (2, .int a1), (3, .int a2)]) rfl ?_
      refine g_lo (is := [3, 4, 5, 6, 2, 1, 0]) (lo2 := [(0, .ref x), (1, .int a0), (2, .int a1), (3, .int a2), (4, .ref b_102), (5, .ref b_104), (6, .int 0)]) rfl ?_
      exact l_52 8 I J hU hF hG a0 (ra0) a1 (r_100) (n_99) a2 (ra2) hb_102L hb_102k hb_104L hb_104k 0 (rg_w rc_0 (by decide) (by decide)) (ms_s (a := 0) (b := 7) (N := 8) (rg_w rc_0 (by decide) (by decide)) (by decide))
    · skip
      have r_105 := le_r (nlt h_101) rc_7 ra0
      exact rg_no r_105 (by decide)
set_option maxRecDepth 100000 in
set_option maxHeartbeats 8000000 in
theorem c_X4_findFrom {l : Launch} {D : va_G} {cy : Nat → ClassId} {L : List Nat} {κ ln : Nat → Nat} {R : Nat → Nat → Option Nat} {I : Nat → Nat → Int32} {J : Nat → Nat → Int64} {ow : Nat → Nat × Nat} (W9 : ∀ a ∈ L, Shp L κ ln R ow a) {x : Nat} (hLx : x ∈ L) (hkx : κ x = 4) {a0 : Nat} (hLa0 : a0 ∈ L) (hka0 : κ a0 = 1) (hU : Iv L κ R ow I) : CtI l yX4_findFrom cX4_findFrom 2 (some .int) { frames := 11, cells := 0, slots := 0, locals := 303 } D cy L κ ln R I J [.ref x, .ref a0] (fun r I2 J2 => Iv L κ R ow I2 ∧ Fq L κ ow [107, 108, 109, 110, 111, 112, 403, 404, 16100, 16200, 16300, 16400, 16500, 16600, 34100, 34200] I I2 ∧ Fq L κ ow [] J J2 ∧ Rg (-2147483648) 2147483647 r) := by
  refine CtI.of (by decide +kernel) (Nat.le_of_ble_eq_true rfl) ?_
  intro p e s m below meth c B K
  have C := B.1
  have hF : Fq L κ ow [107, 108, 109, 110, 111, 112, 403, 404, 16100, 16200, 16300, 16400, 16500, 16600, 34100, 34200] I I := fq_rf
  have hG : Fq L κ ow [] J J := fq_rf
  obtain ⟨b_1, hb_1, hb_1L, hb_1k, hb_1n, hb_1o⟩ := shp_a (W9 x hLx) hkx 0 17 8 rfl (by decide)
  refine g_lo (is := [0, 1]) (lo2 := [(0, .ref x), (1, .ref a0)]) rfl ?_
  refine g_aload_n C 0 dX4_findFrom_0 rfl rfl ?_
  refine g_aload_n C 1 dX4_findFrom_1 rfl rfl ?_
  refine g_callVI C K (c_X1_living W9 hLa0 hka0   hU) hLa0 hka0 (by decide) rfl v_4_34 rfl ⟨rfl, rfl⟩ ⟨Nat.le_of_ble_eq_true rfl, Nat.le_of_ble_eq_true rfl⟩ (Nat.le_of_ble_eq_true rfl) ⟨Nat.le_of_ble_eq_true rfl, Nat.le_of_ble_eq_true rfl⟩ dX4_findFrom_2 rfl (st := [.ref x]) (fun x_2 I_3 J_4 h_5 => ?_)
  obtain ⟨rfl, rfl, rx_2⟩ := h_5
  refine g_callSI C K (c_J6_bitCount_0f7a4 W9 x_2  hU) s_4_38 rfl ⟨rfl, rfl⟩ ⟨Nat.le_of_ble_eq_true rfl, Nat.le_of_ble_eq_true rfl⟩ (Nat.le_of_ble_eq_true rfl) ⟨Nat.le_of_ble_eq_true rfl, Nat.le_of_ble_eq_true rfl⟩ dX4_findFrom_5 rfl (st := [.ref x]) (fun x_6 I_7 J_8 h_9 => ?_)
  obtain ⟨rfl, rfl, rx_6, ex_6⟩ := h_9
  have r_10 := bc_7 (rx_2) ex_6
  refine h_putI C K hLx hkx f_4_24 p_4_3 dX4_findFrom_8 (fun I_11 hI_11 => ?_)
  have hU_12 := iv_put W9 hU hI_11 (ro_o hkx (by decide)) (lo := 0) (hi := 7) (rfl) (r_10) rfl
  have hF_13 := fq_puto hF hI_11 hkx (by decide) (by decide)
  refine g_aload_n C 0 dX4_findFrom_11 rfl rfl ?_
  refine g_sipush C (v := 1000) dX4_findFrom_12 (by decide) ?_
  refine h_putI C K hLx hkx f_4_28 p_4_4 dX4_findFrom_15 (fun I_14 hI_14 => ?_)
  have hU_15 := iv_put W9 hU_12 hI_14 (ro_o hkx (by decide)) (lo := (-2147483648)) (hi := 2147483647) (rfl) (rg_all _) rfl
  have hF_16 := fq_puto hF_13 hI_14 hkx (by decide) (by decide)
  refine g_aload_n C 0 dX4_findFrom_18 rfl rfl ?_
  refine g_getR C K hLx hkx f_4_11 hb_1 dX4_findFrom_19 ?_
  refine g_iconst C (v := 0) dX4_findFrom_22 (by decide) ?_
  obtain ⟨b_17, hb_17, hb_17L, hb_17k⟩ := (W9 b_1 hb_1L).2.1 hb_1k (0) (by rw [hb_1n]; decide)
  refine h_aaldC C K hb_1L hb_1k (0) (by decide) (by decide) (by rw [hb_1n]; decide) hb_17 dX4_findFrom_23 ?_
  refine g_aload_n C 1 dX4_findFrom_24 rfl rfl ?_
  refine g_callVV C K (c_X1_become W9 hb_17L hb_17k hLa0 hka0  hU_15) hb_17L hb_17k (by decide) rfl v_4_44 rfl ⟨rfl, rfl⟩ ⟨Nat.le_of_ble_eq_true rfl, Nat.le_of_ble_eq_true rfl⟩ (Nat.le_of_ble_eq_true rfl) ⟨Nat.le_of_ble_eq_true rfl, Nat.le_of_ble_eq_true rfl⟩ dX4_findFrom_25 rfl (st := []) (fun I_19 J_20 h_21 => ?_)
  obtain ⟨hUI_19, hFI_19, hGJ_20⟩ := h_21
  have hF_22 := fq_tr hF_16 hFI_19 (by decide)
  have hG_23 := fq_tr hG hGJ_20 (by decide)
  refine g_aload_n C 0 dX4_findFrom_28 rfl rfl ?_
  refine g_iconst C (v := 0) dX4_findFrom_29 (by decide) ?_
  refine g_aload_n C 1 dX4_findFrom_30 rfl rfl ?_
  refine g_callVI C K (c_X1_living W9 hLa0 hka0   hUI_19) hLa0 hka0 (by decide) rfl v_4_34 rfl ⟨rfl, rfl⟩ ⟨Nat.le_of_ble_eq_true rfl, Nat.le_of_ble_eq_true rfl⟩ (Nat.le_of_ble_eq_true rfl) ⟨Nat.le_of_ble_eq_true rfl, Nat.le_of_ble_eq_true rfl⟩ dX4_findFrom_31 rfl (st := [.int 0, .ref x]) (fun x_24 I_25 J_26 h_27 => ?_)
  obtain ⟨rfl, rfl, rx_24⟩ := h_27
  refine g_iconst C (v := 0) dX4_findFrom_34 (by decide) ?_
  refine g_callVV C K (c_X4_goOn_0 W9 hLx hkx 0 x_24 0 (rc_0) (rx_24) (rc_0) hUI_19) hLx hkx (by decide) rfl v_4_48 rfl ⟨rfl, rfl⟩ ⟨Nat.le_of_ble_eq_true rfl, Nat.le_of_ble_eq_true rfl⟩ (Nat.le_of_ble_eq_true rfl) ⟨Nat.le_of_ble_eq_true rfl, Nat.le_of_ble_eq_true rfl⟩ dX4_findFrom_35 rfl (st := []) (fun I_29 J_30 h_31 => ?_)
  obtain ⟨hUI_29, hFI_29, hGJ_30⟩ := h_31
  have hF_32 := fq_tr hF_22 hFI_29 (by decide)
  have hG_33 := fq_tr hG_23 hGJ_30 (by decide)
  refine g_aload_n C 0 dX4_findFrom_38 rfl rfl ?_
  obtain ⟨x_34, hx_34, rx_34⟩ := ex_get (I := I_29) (a := x) (j := 4) (lo := (-2147483648)) (hi := 2147483647) hUI_29.1 hLx (ro_o hkx (by decide)) rfl
  refine g_getI C K hLx hkx f_4_28 (v := x_34) hx_34 dX4_findFrom_39 ?_
  exact g_zret (ty := .int) (r := x_34) B K rfl (rfl) ⟨hUI_29, hF_32, hG_33, rx_34⟩ dX4_findFrom_42
set_option maxRecDepth 100000 in
set_option maxHeartbeats 8000000 in
theorem c_X11_order {l : Launch} {D : va_G} {cy : Nat → ClassId} {L : List Nat} {κ ln : Nat → Nat} {R : Nat → Nat → Option Nat} {I : Nat → Nat → Int32} {J : Nat → Nat → Int64} {ow : Nat → Nat × Nat} (W9 : ∀ a ∈ L, Shp L κ ln R ow a) {x : Nat} (hLx : x ∈ L) (hkx : κ x = 11) (hU : Iv L κ R ow I) : CtI l yX11_order cX11_order 1 (some .int) { frames := 12, cells := 0, slots := 0, locals := 324 } D cy L κ ln R I J [.ref x] (fun r I2 J2 => Iv L κ R ow I2 ∧ Fq L κ ow [107, 108, 109, 110, 111, 112, 403, 404, 16100, 16200, 16300, 16400, 16500, 16600, 34100, 34200] I I2 ∧ Fq L κ ow [] J J2 ∧ Rg (-2147483648) 2147483647 r) := by
  refine CtI.of (by decide +kernel) (Nat.le_of_ble_eq_true rfl) ?_
  intro p e s m below meth c B K
  have C := B.1
  have hF : Fq L κ ow [107, 108, 109, 110, 111, 112, 403, 404, 16100, 16200, 16300, 16400, 16500, 16600, 34100, 34200] I I := fq_rf
  have hG : Fq L κ ow [] J J := fq_rf
  obtain ⟨b_1, hb_1, hb_1L, hb_1k⟩ := shp_o (W9 x hLx) hkx 9 4 rfl (by decide)
  obtain ⟨b_2, hb_2, hb_2L, hb_2k⟩ := shp_o (W9 x hLx) hkx 2 1 rfl (by decide)
  refine g_lo (is := [0]) (lo2 := [(0, .ref x)]) rfl ?_
  refine g_aload_n C 0 dX11_order_0 rfl rfl ?_
  refine g_getR C K hLx hkx f_11_69 hb_1 dX11_order_1 ?_
  refine g_aload_n C 0 dX11_order_4 rfl rfl ?_
  refine g_getR C K hLx hkx f_11_28 hb_2 dX11_order_5 ?_
  refine g_callVI C K (c_X4_findFrom W9 hb_1L hb_1k hb_2L hb_2k  hU) hb_1L hb_1k (by decide) rfl v_11_266 rfl ⟨rfl, rfl⟩ ⟨Nat.le_of_ble_eq_true rfl, Nat.le_of_ble_eq_true rfl⟩ (Nat.le_of_ble_eq_true rfl) ⟨Nat.le_of_ble_eq_true rfl, Nat.le_of_ble_eq_true rfl⟩ dX11_order_8 rfl (st := []) (fun x_3 I_4 J_5 h_6 => ?_)
  obtain ⟨hUI_4, hFI_4, hGJ_5, rx_3⟩ := h_6
  have hF_7 := fq_tr hF hFI_4 (by decide)
  have hG_8 := fq_tr hG hGJ_5 (by decide)
  exact g_zret (ty := .int) (r := x_3) B K rfl (rfl) ⟨hUI_4, hF_7, hG_8, rx_3⟩ dX11_order_11
set_option maxRecDepth 100000 in
set_option maxHeartbeats 8000000 in
theorem c_X11_orderAt {l : Launch} {D : va_G} {cy : Nat → ClassId} {L : List Nat} {κ ln : Nat → Nat} {R : Nat → Nat → Option Nat} {I : Nat → Nat → Int32} {J : Nat → Nat → Int64} {ow : Nat → Nat × Nat} (W9 : ∀ a ∈ L, Shp L κ ln R ow a) {x : Nat} (hLx : x ∈ L) (hkx : κ x = 11) (a0 : Int32) (hU : Iv L κ R ow I) : CtI l yX11_orderAt cX11_orderAt 2 (some .int) { frames := 0, cells := 0, slots := 0, locals := 0 } D cy L κ ln R I J [.ref x, .int a0] (fun r I2 J2 => I = I2 ∧ J = J2 ∧ Rg (-2147483648) 2147483647 r) := by
  refine CtI.of (by decide +kernel) (Nat.le_of_ble_eq_true rfl) ?_
  intro p e s m below meth c B K
  have C := B.1
  obtain ⟨b_1, hb_1, hb_1L, hb_1k⟩ := shp_o (W9 x hLx) hkx 9 4 rfl (by decide)
  obtain ⟨b_2, hb_2, hb_2L, hb_2k, hb_2n, hb_2o⟩ := shp_a (W9 b_1 hb_1L) hb_1k 2 14 7 rfl (by decide)
  refine g_lo (is := [0, 1]) (lo2 := [(0, .ref x), (1, .int a0)]) rfl ?_
  refine g_iload_n C 1 dX11_orderAt_0 rfl rfl ?_
  refine g_if_lt C (tgt := 27) dX11_orderAt_1 (by decide) (fun h_3 => ?_) (fun h_3 => ?_)
  · skip
    have r_4 := lt_l (hi := (-1)) (h_3) (rg_all a0) rc_0 (by decide)
    refine g_iconst C (v := (-1)) dX11_orderAt_27 (by decide) ?_
    exact g_zret (ty := .int) (r := (-1)) B K rfl (rfl) ⟨rfl, rfl, rg_all _⟩ dX11_orderAt_28
  · skip
    have r_5 := le_r (nlt h_3) rc_0 (rg_all a0)
    refine g_iload_n C 1 dX11_orderAt_4 rfl rfl ?_
    refine g_aload_n C 0 dX11_orderAt_5 rfl rfl ?_
    refine g_getR C K hLx hkx f_11_69 hb_1 dX11_orderAt_6 ?_
    obtain ⟨x_6, hx_6, rx_6⟩ := ex_get (I := I) (a := b_1) (j := 3) (lo := 0) (hi := 7) hU.1 hb_1L (ro_o hb_1k (by decide)) rfl
    refine g_getI C K hb_1L hb_1k f_11_269 (v := x_6) hx_6 dX11_orderAt_9 ?_
    refine g_icmp_ge C (tgt := 27) dX11_orderAt_12 (by decide) (fun h_7 => ?_) (fun h_7 => ?_)
    · skip
      refine g_iconst C (v := (-1)) dX11_orderAt_27 (by decide) ?_
      exact g_zret (ty := .int) (r := (-1)) B K rfl (rfl) ⟨rfl, rfl, rg_all _⟩ dX11_orderAt_28
    · skip
      have r_8 := lt_l (hi := 6) (nle h_7) r_5 rx_6 (by decide)
      have r_9 := lt_r (lo := 1) (nle h_7) r_5 rx_6 (by decide)
      refine g_aload_n C 0 dX11_orderAt_15 rfl rfl ?_
      refine g_getR C K hLx hkx f_11_69 hb_1 dX11_orderAt_16 ?_
      refine g_getR C K hb_1L hb_1k f_11_272 hb_2 dX11_orderAt_19 ?_
      refine g_iload_n C 1 dX11_orderAt_22 rfl rfl ?_
      obtain ⟨x_10, hx_10, rx_10⟩ := ex_any (z0 := I b_2 (a0.toNatClampNeg))
      refine h_iald C K hb_2L hb_2k (v := x_10) (a0.toNatClampNeg) (rfl) (ix_0 r_8 (by decide)) (ix_lt r_8 (by decide) hb_2n (by decide)) hx_10 dX11_orderAt_23 ?_
      refine g_goto C (tgt := 28) dX11_orderAt_24 (by decide) ?_
      exact g_zret (ty := .int) (r := x_10) B K rfl (rfl) ⟨rfl, rfl, rx_10⟩ dX11_orderAt_28
set_option maxRecDepth 100000 in
set_option maxHeartbeats 8000000 in
theorem c_X10_byteOf {l : Launch} {D : va_G} {cy : Nat → ClassId} {L : List Nat} {κ ln : Nat → Nat} {R : Nat → Nat → Option Nat} {I : Nat → Nat → Int32} {J : Nat → Nat → Int64} {ow : Nat → Nat × Nat} (W9 : ∀ a ∈ L, Shp L κ ln R ow a) {x : Nat} (hLx : x ∈ L) (hkx : κ x = 10) (a0 : Int32) (ra0 : Rg 0 939 a0) (hU : Iv L κ R ow I) : CtI l yX10_byteOf cX10_byteOf 2 (some .int) { frames := 0, cells := 0, slots := 0, locals := 0 } D cy L κ ln R I J [.ref x, .int a0] (fun r I2 J2 => I = I2 ∧ J = J2 ∧ Rg (-1) 255 r) := by
  refine CtI.of (by decide +kernel) (Nat.le_of_ble_eq_true rfl) ?_
  intro p e s m below meth c B K
  have C := B.1
  obtain ⟨b_1, hb_1, hb_1L, hb_1k, hb_1n, hb_1o⟩ := shp_a (W9 x hLx) hkx 0 13 940 rfl (by decide)
  refine g_lo (is := [0, 1]) (lo2 := [(0, .ref x), (1, .int a0)]) rfl ?_
  refine g_iload_n C 1 dX10_byteOf_0 rfl rfl ?_
  refine g_if_lt C (tgt := 34) dX10_byteOf_1 (by decide) (fun h_2 => ?_) (fun h_2 => ?_)
  · skip
    have r_3 := lt_l (hi := (-1)) (h_2) ra0 rc_0 (by decide)
    exact rg_no r_3 (by decide)
  · skip
    refine g_iload_n C 1 dX10_byteOf_4 rfl rfl ?_
    refine g_aload_n C 0 dX10_byteOf_5 rfl rfl ?_
    obtain ⟨x_4, hx_4, rx_4⟩ := ex_get (I := I) (a := x) (j := 5) (lo := 0) (hi := 940) hU.1 hLx (ro_o hkx (by decide)) rfl
    refine g_getI C K hLx hkx f_10_29 (v := x_4) hx_4 dX10_byteOf_6 ?_
    refine g_icmp_ge C (tgt := 34) dX10_byteOf_9 (by decide) (fun h_5 => ?_) (fun h_5 => ?_)
    · skip
      have r_6 := le_l (h_5) rx_4 ra0
      refine g_iconst C (v := (-1)) dX10_byteOf_34 (by decide) ?_
      exact g_zret (ty := .int) (r := (-1)) B K rfl (rfl) ⟨rfl, rfl, rg_w rc_m1 (by decide) (by decide)⟩ dX10_byteOf_35
    · skip
      have r_7 := lt_r (lo := 1) (nle h_5) ra0 rx_4 (by decide)
      refine g_iload_n C 1 dX10_byteOf_12 rfl rfl ?_
      refine g_aload_n C 0 dX10_byteOf_13 rfl rfl ?_
      refine g_getR C K hLx hkx f_10_9 hb_1 dX10_byteOf_14 ?_
      refine g_alenB C K hb_1L hb_1k (v := 940) (by rw [hb_1n]; rfl) dX10_byteOf_17 ?_
      refine g_icmp_ge C (tgt := 34) dX10_byteOf_18 (by decide) (fun h_8 => ?_) (fun h_8 => ?_)
      · skip
        have r_9 := le_r (h_8) rc_940 ra0
        exact rg_no r_9 (by decide)
      · skip
        refine g_aload_n C 0 dX10_byteOf_21 rfl rfl ?_
        refine g_getR C K hLx hkx f_10_9 hb_1 dX10_byteOf_22 ?_
        refine g_iload_n C 1 dX10_byteOf_25 rfl rfl ?_
        obtain ⟨x_10, hx_10, rx_10⟩ := ex_get (I := I) (a := b_1) (j := a0.toNatClampNeg) (lo := (-128)) (hi := 127) hU.1 hb_1L (ro_a hb_1k (by decide) hb_1o hkx rfl) (rfl)
        refine h_bald C K hb_1L hb_1k (v := x_10) (a0.toNatClampNeg) (rfl) (ix_0 ra0 (by decide)) (ix_lt ra0 (by decide) hb_1n (by decide)) hx_10 dX10_byteOf_26 ?_
        refine g_sipush C (v := 255) dX10_byteOf_27 (by decide) ?_
        obtain ⟨x_11, hx_11, rx_11⟩ := ex_andr (x := x_10) (y := 255) (b := 255) (rg_w rc_255 (by decide) (by decide))
        refine g_iand C (v := x_11) dX10_byteOf_30 hx_11 ?_
        refine g_goto C (tgt := 35) dX10_byteOf_31 (by decide) ?_
        exact g_zret (ty := .int) (r := x_11) B K rfl (rfl) ⟨rfl, rfl, rg_w rx_11 (by decide) (by decide)⟩ dX10_byteOf_35
set_option maxRecDepth 100000 in
set_option maxHeartbeats 8000000 in
theorem c_X2_countIn {l : Launch} {D : va_G} {cy : Nat → ClassId} {L : List Nat} {κ ln : Nat → Nat} {R : Nat → Nat → Option Nat} {I : Nat → Nat → Int32} {J : Nat → Nat → Int64} {ow : Nat → Nat × Nat} (W9 : ∀ a ∈ L, Shp L κ ln R ow a) {x : Nat} (hLx : x ∈ L) (hkx : κ x = 2) (a0 : Int32) (ra0 : Rg 0 127 a0) (hU : Iv L κ R ow I) : CtV l yX2_countIn cX2_countIn 3 none { frames := 0, cells := 0, slots := 0, locals := 0 } D cy L κ ln R I J [.ref x, .int a0] (fun I2 J2 => Iv L κ R ow I2 ∧ Fq L κ ow [22000] I I2 ∧ Fq L κ ow [] J J2) := by
  refine CtV.of (by decide +kernel) (Nat.le_of_ble_eq_true rfl) ?_
  intro p e s m below meth c B K
  have C := B.1
  have hF : Fq L κ ow [22000] I I := fq_rf
  have hG : Fq L κ ow [] J J := fq_rf
  obtain ⟨b_1, hb_1, hb_1L, hb_1k, hb_1n, hb_1o⟩ := shp_a (W9 x hLx) hkx 0 14 7 rfl (by decide)
  refine g_lo (is := [0, 1]) (lo2 := [(0, .ref x), (1, .int a0)]) rfl ?_
  have l_2 : ∀ (n_2 : Nat) (I_2 : Nat → Nat → Int32) (J_3 : Nat → Nat → Int64) (hU_4 : Iv L κ R ow I_2) (hF_5 : Fq L κ ow [22000] I I_2) (hG_6 : Fq L κ ow [] J J_3) (v_7 : Int32) (rv_7 : Rg 0 127 v_7) (v_8 : Int32) (rv_8 : Rg 0 7 v_8) (hm_9 : 7 < (v_8 : Int32).toInt + (n_2 : Int)), WG p l e { frames := 0, cells := 0, slots := 0, locals := 0 } s m ([.ref x, .int a0] : List Value).toArray below meth c 3 0 0 (MQ below (Qv_ D cy L κ ln R (fun I2 J2 => Iv L κ R ow I2 ∧ Fq L κ ow [22000] I I2 ∧ Fq L κ ow [] J J2)) ([.ref x, .int a0] : List Value).toArray s 0 0 (Al_ L)) D cy (Al_ L) s.heap L κ ln R I_2 J_3 2 [(0, .ref x), (1, .int v_7), (2, .int v_8)] [] := by
    intro n_2
    induction n_2 with
    | zero =>
      intro I_2 J_3 hU_4 hF_5 hG_6 v_7 rv_7 v_8 rv_8 hm_9
      exact ms_0 rv_8 hm_9
    | succ n_2 ih_2 =>
      intro I_2 J_3 hU_4 hF_5 hG_6 v_7 rv_7 v_8 rv_8 hm_9
      refine g_iload_n C 2 dX2_countIn_2 rfl rfl ?_
      refine g_bipush C (v := 7) dX2_countIn_3 (by decide) ?_
      refine g_icmp_ge C (tgt := 28) dX2_countIn_5 (by decide) (fun h_10 => ?_) (fun h_10 => ?_)
      · skip
        have r_11 := le_r (h_10) rc_7 rv_8
        exact g_vret B K rfl ⟨hU_4, hF_5, hG_6⟩ dX2_countIn_28
      · skip
        have r_12 := lt_l (hi := 6) (nle h_10) rv_8 rc_7 (by decide)
        refine g_aload_n C 0 dX2_countIn_8 rfl rfl ?_
        refine g_getR C K hLx hkx f_2_9 hb_1 dX2_countIn_9 ?_
        refine g_iload_n C 2 dX2_countIn_12 rfl rfl ?_
        refine g_dup2 C dX2_countIn_13 rfl rfl ?_
        obtain ⟨x_13, hx_13, rx_13⟩ := ex_any (z0 := I_2 b_1 (v_8.toNatClampNeg))
        refine h_iald C K hb_1L hb_1k (v := x_13) (v_8.toNatClampNeg) (rfl) (ix_0 r_12 (by decide)) (ix_lt r_12 (by decide) hb_1n (by decide)) hx_13 dX2_countIn_14 ?_
        refine g_iload_n C 1 dX2_countIn_15 rfl rfl ?_
        refine g_iload_n C 2 dX2_countIn_16 rfl rfl ?_
        obtain ⟨x_14, hx_14, rx_14⟩ := ex_shr (x := v_7) (y := v_8) (b := 127) (rv_7)
        refine g_ishr C (v := x_14) dX2_countIn_17 hx_14 ?_
        refine g_iconst C (v := 1) dX2_countIn_18 (by decide) ?_
        obtain ⟨x_15, hx_15, rx_15⟩ := ex_andr (x := x_14) (y := 1) (b := 1) (rg_w rc_1 (by decide) (by decide))
        refine g_iand C (v := x_15) dX2_countIn_19 hx_15 ?_
        obtain ⟨x_16, hx_16, rx_16⟩ := ex_any (z0 := x_13 + x_15)
        refine g_iadd C (v := x_16) dX2_countIn_20 hx_16 ?_
        refine h_iast C K hb_1L hb_1k (v_8.toNatClampNeg) (rfl) (ix_0 r_12 (by decide)) (ix_lt r_12 (by decide) hb_1n (by decide)) dX2_countIn_21 (fun I_17 hI_17 => ?_)
        have hU_18 := iv_put W9 hU_4 hI_17 (ro_a hb_1k (by decide) hb_1o hkx rfl) (lo := (-2147483648)) (hi := 2147483647) (rfl) (rx_16) rfl
        have hF_19 := fq_puta hF_5 hI_17 (ro_a hb_1k (by decide) hb_1o hkx rfl) (by decide) (by decide)
        obtain ⟨x_20, hx_20, rx_20, tx_20⟩ := ex_add (y := 1) 1 7 r_12 rc_1 (by decide) (by decide) (by decide) (by decide)
        refine g_iinc C dX2_countIn_22 (k := 2) (v := x_20) rfl hx_20 (by decide) (lo2 := [(2, .int x_20), (0, .ref x), (1, .int v_7)]) rfl ?_
        refine g_goto C (tgt := 2) dX2_countIn_25 (by decide) ?_
        refine g_lo (is := [1, 2, 0]) (lo2 := [(0, .ref x), (1, .int v_7), (2, .int x_20)]) rfl ?_
        exact ih_2 I_17 J_3 hU_18 hF_19 hG_6 v_7 (rv_7) x_20 (rg_w rx_20 (by decide) (by decide)) (ms_1 hm_9 (ti_k tx_20 rc_1) (by decide))
  refine g_iconst C (v := 0) dX2_countIn_0 (by decide) ?_
  refine g_istore_n C dX2_countIn_1 rfl (by decide) (lo2 := [(2, .int 0), (0, .ref x), (1, .int a0)]) rfl ?_
  refine g_lo (is := [1, 2, 0]) (lo2 := [(0, .ref x), (1, .int a0), (2, .int 0)]) rfl ?_
  exact l_2 8 I J hU hF hG a0 (ra0) 0 (rg_w rc_0 (by decide) (by decide)) (ms_s (a := 0) (b := 7) (N := 8) (rg_w rc_0 (by decide) (by decide)) (by decide))
set_option maxRecDepth 100000 in
set_option maxHeartbeats 8000000 in
theorem c_X2_nearestToHalf {l : Launch} {D : va_G} {cy : Nat → ClassId} {L : List Nat} {κ ln : Nat → Nat} {R : Nat → Nat → Option Nat} {I : Nat → Nat → Int32} {J : Nat → Nat → Int64} {ow : Nat → Nat × Nat} (W9 : ∀ a ∈ L, Shp L κ ln R ow a) {x : Nat} (hLx : x ∈ L) (hkx : κ x = 2) (a0 : Int32) (a1 : Int32) (ra0 : Rg 0 7 a0) (ra1 : Rg 1 2147483647 a1) (hU : Iv L κ R ow I) : CtI l yX2_nearestToHalf cX2_nearestToHalf 7 (some .int) { frames := 1, cells := 0, slots := 0, locals := 60 } D cy L κ ln R I J [.ref x, .int a0, .int a1] (fun r I2 J2 => I = I2 ∧ J = J2 ∧ Rg (-1) 6 r) := by
  refine CtI.of (by decide +kernel) (Nat.le_of_ble_eq_true rfl) ?_
  intro p e s m below meth c B K
  have C := B.1
  obtain ⟨b_1, hb_1, hb_1L, hb_1k, hb_1n, hb_1o⟩ := shp_a (W9 x hLx) hkx 0 14 7 rfl (by decide)
  refine g_lo (is := [0, 1, 2]) (lo2 := [(0, .ref x), (1, .int a0), (2, .int a1)]) rfl ?_
  have l_10 : ∀ (n_10 : Nat) (v_2 : Int32) (rv_2 : Rg 0 7 v_2) (v_3 : Int32) (rv_3 : Rg 1 2147483647 v_3) (v_4 : Int32) (rv_4 : Rg (-1) 6 v_4) (v_5 : Int32) (rv_5 : Rg (-2147483648) 1000 v_5) (v_6 : Int32) (rv_6 : Rg 0 7 v_6) (hm_7 : 7 < (v_6 : Int32).toInt + (n_10 : Int)), WG p l e { frames := 1, cells := 0, slots := 0, locals := 60 } s m ([.ref x, .int a0, .int a1] : List Value).toArray below meth c 7 0 0 (MQ below (Qi_ D cy L κ ln R (fun r I2 J2 => I = I2 ∧ J = J2 ∧ Rg (-1) 6 r)) ([.ref x, .int a0, .int a1] : List Value).toArray s 0 0 (Al_ L)) D cy (Al_ L) s.heap L κ ln R I J 10 [(0, .ref x), (1, .int v_2), (2, .int v_3), (3, .int v_4), (4, .int v_5), (5, .int v_6)] [] := by
    intro n_10
    induction n_10 with
    | zero =>
      intro v_2 rv_2 v_3 rv_3 v_4 rv_4 v_5 rv_5 v_6 rv_6 hm_7
      exact ms_0 rv_6 hm_7
    | succ n_10 ih_10 =>
      intro v_2 rv_2 v_3 rv_3 v_4 rv_4 v_5 rv_5 v_6 rv_6 hm_7
      have j_46 : ∀ (v_8 : Int32) (rv_8 : Rg 1 7 v_8) (v_9 : Int32) (rv_9 : Rg 1 2147483647 v_9) (v_10 : Int32) (rv_10 : Rg (-1) 6 v_10) (v_11 : Int32) (rv_11 : Rg (-2147483648) 1000 v_11) (v_12 : Int32) (rv_12 : Rg 0 6 v_12) (v_13 : Int32) (hm_14 : 7 < (v_12 : Int32).toInt + ((n_10 + 1 : Nat) : Int)), WG p l e { frames := 1, cells := 0, slots := 0, locals := 60 } s m ([.ref x, .int a0, .int a1] : List Value).toArray below meth c 7 0 0 (MQ below (Qi_ D cy L κ ln R (fun r I2 J2 => I = I2 ∧ J = J2 ∧ Rg (-1) 6 r)) ([.ref x, .int a0, .int a1] : List Value).toArray s 0 0 (Al_ L)) D cy (Al_ L) s.heap L κ ln R I J 46 [(0, .ref x), (1, .int v_8), (2, .int v_9), (3, .int v_10), (4, .int v_11), (5, .int v_12), (6, .int v_13)] [] := by
        intro v_8 rv_8 v_9 rv_9 v_10 rv_10 v_11 rv_11 v_12 rv_12 v_13 hm_14
        obtain ⟨x_15, hx_15, rx_15, tx_15⟩ := ex_add (y := 1) 1 7 rv_12 rc_1 (by decide) (by decide) (by decide) (by decide)
        refine g_iinc C dX2_nearestToHalf_46 (k := 5) (v := x_15) rfl hx_15 (by decide) (lo2 := [(5, .int x_15), (0, .ref x), (1, .int v_8), (2, .int v_9), (3, .int v_10), (4, .int v_11), (6, .int v_13)]) rfl ?_
        refine g_goto C (tgt := 10) dX2_nearestToHalf_49 (by decide) ?_
        refine g_lo (is := [1, 2, 3, 4, 5, 0]) (lo2 := [(0, .ref x), (1, .int v_8), (2, .int v_9), (3, .int v_10), (4, .int v_11), (5, .int x_15)]) rfl ?_
        exact ih_10 v_8 (rg_w rv_8 (by decide) (by decide)) v_9 (rv_9) v_10 (rv_10) v_11 (rv_11) x_15 (rg_w rx_15 (by decide) (by decide)) (ms_1 hm_14 (ti_k tx_15 rc_1) (by decide))
      refine g_iload C 5 dX2_nearestToHalf_10 rfl ?_
      refine g_iload_n C 1 dX2_nearestToHalf_12 rfl rfl ?_
      refine g_icmp_ge C (tgt := 52) dX2_nearestToHalf_13 (by decide) (fun h_16 => ?_) (fun h_16 => ?_)
      · skip
        refine g_iload_n C 3 dX2_nearestToHalf_52 rfl rfl ?_
        exact g_zret (ty := .int) (r := v_4) B K rfl (rfl) ⟨rfl, rfl, rv_4⟩ dX2_nearestToHalf_53
      · skip
        have r_17 := lt_l (hi := 6) (nle h_16) rv_6 rv_2 (by decide)
        have r_18 := lt_r (lo := 1) (nle h_16) rv_6 rv_2 (by decide)
        refine g_iconst C (v := 2) dX2_nearestToHalf_16 (by decide) ?_
        refine g_aload_n C 0 dX2_nearestToHalf_17 rfl rfl ?_
        refine g_getR C K hLx hkx f_2_9 hb_1 dX2_nearestToHalf_18 ?_
        refine g_iload C 5 dX2_nearestToHalf_21 rfl ?_
        obtain ⟨x_19, hx_19, rx_19⟩ := ex_any (z0 := I b_1 (v_6.toNatClampNeg))
        refine h_iald C K hb_1L hb_1k (v := x_19) (v_6.toNatClampNeg) (rfl) (ix_0 r_17 (by decide)) (ix_lt r_17 (by decide) hb_1n (by decide)) hx_19 dX2_nearestToHalf_23 ?_
        obtain ⟨x_20, hx_20, rx_20⟩ := ex_any (z0 := 2 * x_19)
        refine g_imul C (v := x_20) dX2_nearestToHalf_24 hx_20 ?_
        refine g_iload_n C 2 dX2_nearestToHalf_25 rfl rfl ?_
        obtain ⟨x_21, hx_21, rx_21⟩ := ex_any (z0 := x_20 - v_3)
        refine g_isub C (v := x_21) dX2_nearestToHalf_26 hx_21 ?_
        obtain ⟨x_22, hx_22, rx_22⟩ := ex_any (z0 := if 0 ≤ x_21 then x_21 else 0 - x_21)
        refine g_mabs C (v := x_22) mw_2_48 w_abs (Nat.le_of_ble_eq_true rfl) (Nat.le_of_ble_eq_true rfl) ⟨Nat.le_of_ble_eq_true rfl, Nat.le_of_ble_eq_true rfl⟩ hx_22 dX2_nearestToHalf_27 ?_
        refine g_istore C dX2_nearestToHalf_30 (by decide) (lo2 := [(6, .int x_22), (0, .ref x), (1, .int v_2), (2, .int v_3), (3, .int v_4), (4, .int v_5), (5, .int v_6)]) rfl ?_
        refine g_iload C 0 dX2_nearestToHalf_32 rfl ?_
        refine g_iload C 5 dX2_nearestToHalf_34 rfl ?_
        refine g_icmp_ge C (tgt := 46) dX2_nearestToHalf_36 (by decide) (fun h_23 => ?_) (fun h_23 => ?_)
        · skip
          refine g_lo (is := [1, 2, 3, 4, 5, 6, 0]) (lo2 := [(0, .ref x), (1, .int v_2), (2, .int v_3), (3, .int v_4), (4, .int v_5), (5, .int v_6), (6, .int x_22)]) rfl ?_
          exact j_46 v_2 (r_18) v_3 (rv_3) v_4 (rv_4) v_5 (rv_5) v_6 (r_17) x_22 hm_7
        · skip
          have r_24 := lt_l (hi := 999) (nle h_23) rx_22 rv_5 (by decide)
          have r_25 := lt_r (lo := (-2147483647)) (nle h_23) rx_22 rv_5 (by decide)
          refine g_iload C 0 dX2_nearestToHalf_39 rfl ?_
          refine g_istore C dX2_nearestToHalf_41 (by decide) (lo2 := [(4, .int x_22), (6, .int x_22), (0, .ref x), (1, .int v_2), (2, .int v_3), (3, .int v_4), (5, .int v_6)]) rfl ?_
          refine g_iload C 6 dX2_nearestToHalf_43 rfl ?_
          refine g_istore_n C dX2_nearestToHalf_45 rfl (by decide) (lo2 := [(3, .int v_6), (4, .int x_22), (6, .int x_22), (0, .ref x), (1, .int v_2), (2, .int v_3), (5, .int v_6)]) rfl ?_
          refine g_lo (is := [3, 4, 5, 0, 1, 6, 2]) (lo2 := [(0, .ref x), (1, .int v_2), (2, .int v_3), (3, .int v_6), (4, .int x_22), (5, .int v_6), (6, .int x_22)]) rfl ?_
          exact j_46 v_2 (r_18) v_3 (rv_3) v_6 (rg_w r_17 (by decide) (by decide)) x_22 (rg_w r_24 (by decide) (by decide)) v_6 (r_17) x_22 hm_7
  refine g_iconst C (v := (-1)) dX2_nearestToHalf_0 (by decide) ?_
  refine g_istore_n C dX2_nearestToHalf_1 rfl (by decide) (lo2 := [(3, .int (-1)), (0, .ref x), (1, .int a0), (2, .int a1)]) rfl ?_
  refine g_sipush C (v := 1000) dX2_nearestToHalf_2 (by decide) ?_
  refine g_istore C dX2_nearestToHalf_5 (by decide) (lo2 := [(4, .int 1000), (3, .int (-1)), (0, .ref x), (1, .int a0), (2, .int a1)]) rfl ?_
  refine g_iconst C (v := 0) dX2_nearestToHalf_7 (by decide) ?_
  refine g_istore C dX2_nearestToHalf_8 (by decide) (lo2 := [(5, .int 0), (4, .int 1000), (3, .int (-1)), (0, .ref x), (1, .int a0), (2, .int a1)]) rfl ?_
  refine g_lo (is := [3, 4, 5, 2, 1, 0]) (lo2 := [(0, .ref x), (1, .int a0), (2, .int a1), (3, .int (-1)), (4, .int 1000), (5, .int 0)]) rfl ?_
  exact l_10 8 a0 (ra0) a1 (ra1) (-1) (rg_w rc_m1 (by decide) (by decide)) 1000 (rg_w rc_1000 (by decide) (by decide)) 0 (rg_w rc_0 (by decide) (by decide)) (ms_s (a := 0) (b := 7) (N := 8) (rg_w rc_0 (by decide) (by decide)) (by decide))
set_option maxRecDepth 100000 in
set_option maxHeartbeats 8000000 in
theorem c_X2_setsWith {l : Launch} {D : va_G} {cy : Nat → ClassId} {L : List Nat} {κ ln : Nat → Nat} {R : Nat → Nat → Option Nat} {I : Nat → Nat → Int32} {J : Nat → Nat → Int64} {ow : Nat → Nat × Nat} (W9 : ∀ a ∈ L, Shp L κ ln R ow a) {x : Nat} (hLx : x ∈ L) (hkx : κ x = 2) {a0 : Nat} (hLa0 : a0 ∈ L) (hka0 : κ a0 = 1) (a1 : Int32) (a2 : Int32) (ra1 : Rg 0 5 a1) (ra2 : Rg (-1) 255 a2) (hU : Iv L κ R ow I) : CtI l yX2_setsWith cX2_setsWith 8 (some .int) { frames := 2, cells := 0, slots := 0, locals := 86 } D cy L κ ln R I J [.ref x, .ref a0, .int a1, .int a2] (fun r I2 J2 => Iv L κ R ow I2 ∧ Fq L κ ow [201, 202, 22000] I I2 ∧ Fq L κ ow [] J J2 ∧ Rg (-2147483648) 2147483647 r) := by
  refine CtI.of (by decide +kernel) (Nat.le_of_ble_eq_true rfl) ?_
  intro p e s m below meth c B K
  have C := B.1
  have hF : Fq L κ ow [201, 202, 22000] I I := fq_rf
  have hG : Fq L κ ow [] J J := fq_rf
  obtain ⟨b_1, hb_1, hb_1L, hb_1k⟩ := shp_o (W9 a0 hLa0) hka0 0 8 rfl (by decide)
  obtain ⟨b_2, hb_2, hb_2L, hb_2k, hb_2n, hb_2o⟩ := shp_a (W9 x hLx) hkx 0 14 7 rfl (by decide)
  refine g_lo (is := [0, 1, 2, 3]) (lo2 := [(0, .ref x), (1, .ref a0), (2, .int a1), (3, .int a2)]) rfl ?_
  have l_43 : ∀ (n_43 : Nat) (I_3 : Nat → Nat → Int32) (J_4 : Nat → Nat → Int64) (hU_5 : Iv L κ R ow I_3) (hF_6 : Fq L κ ow [201, 202, 22000] I I_3) (hG_7 : Fq L κ ow [] J J_4) (v_8 : Int32) (rv_8 : Rg 0 5 v_8) (v_9 : Int32) (rv_9 : Rg (-1) 255 v_9) (v_10 : Int32) (rv_10 : Rg 0 127 v_10) (v_11 : Int32) (v_12 : Int32) (rv_12 : Rg 0 127 v_12) (v_13 : Int32) (rv_13 : Rg 0 128 v_13) (hm_14 : 128 < (v_13 : Int32).toInt + (n_43 : Int)), WG p l e { frames := 2, cells := 0, slots := 0, locals := 86 } s m ([.ref x, .ref a0, .int a1, .int a2] : List Value).toArray below meth c 8 0 0 (MQ below (Qi_ D cy L κ ln R (fun r I2 J2 => Iv L κ R ow I2 ∧ Fq L κ ow [201, 202, 22000] I I2 ∧ Fq L κ ow [] J J2 ∧ Rg (-2147483648) 2147483647 r)) ([.ref x, .ref a0, .int a1, .int a2] : List Value).toArray s 0 0 (Al_ L)) D cy (Al_ L) s.heap L κ ln R I_3 J_4 43 [(0, .ref x), (1, .ref a0), (2, .int v_8), (3, .int v_9), (4, .int v_10), (5, .int v_11), (6, .int v_12), (7, .int v_13)] [] := by
    intro n_43
    induction n_43 with
    | zero =>
      intro I_3 J_4 hU_5 hF_6 hG_7 v_8 rv_8 v_9 rv_9 v_10 rv_10 v_11 v_12 rv_12 v_13 rv_13 hm_14
      exact ms_0 rv_13 hm_14
    | succ n_43 ih_43 =>
      intro I_3 J_4 hU_5 hF_6 hG_7 v_8 rv_8 v_9 rv_9 v_10 rv_10 v_11 v_12 rv_12 v_13 rv_13 hm_14
      have j_77 : ∀ (I_15 : Nat → Nat → Int32) (J_16 : Nat → Nat → Int64) (hU_17 : Iv L κ R ow I_15) (hF_18 : Fq L κ ow [201, 202, 22000] I I_15) (hG_19 : Fq L κ ow [] J J_16) (v_20 : Int32) (rv_20 : Rg 0 5 v_20) (v_21 : Int32) (rv_21 : Rg (-1) 255 v_21) (v_22 : Int32) (rv_22 : Rg 0 127 v_22) (v_23 : Int32) (v_24 : Int32) (rv_24 : Rg 0 127 v_24) (v_25 : Int32) (rv_25 : Rg 0 127 v_25) (hm_26 : 128 < (v_25 : Int32).toInt + ((n_43 + 1 : Nat) : Int)), WG p l e { frames := 2, cells := 0, slots := 0, locals := 86 } s m ([.ref x, .ref a0, .int a1, .int a2] : List Value).toArray below meth c 8 0 0 (MQ below (Qi_ D cy L κ ln R (fun r I2 J2 => Iv L κ R ow I2 ∧ Fq L κ ow [201, 202, 22000] I I2 ∧ Fq L κ ow [] J J2 ∧ Rg (-2147483648) 2147483647 r)) ([.ref x, .ref a0, .int a1, .int a2] : List Value).toArray s 0 0 (Al_ L)) D cy (Al_ L) s.heap L κ ln R I_15 J_16 77 [(0, .ref x), (1, .ref a0), (2, .int v_20), (3, .int v_21), (4, .int v_22), (5, .int v_23), (6, .int v_24), (7, .int v_25)] [] := by
        intro I_15 J_16 hU_17 hF_18 hG_19 v_20 rv_20 v_21 rv_21 v_22 rv_22 v_23 v_24 rv_24 v_25 rv_25 hm_26
        obtain ⟨x_27, hx_27, rx_27, tx_27⟩ := ex_add (y := 1) 1 128 rv_25 rc_1 (by decide) (by decide) (by decide) (by decide)
        refine g_iinc C dX2_setsWith_77 (k := 7) (v := x_27) rfl hx_27 (by decide) (lo2 := [(7, .int x_27), (0, .ref x), (1, .ref a0), (2, .int v_20), (3, .int v_21), (4, .int v_22), (5, .int v_23), (6, .int v_24)]) rfl ?_
        refine g_goto C (tgt := 43) dX2_setsWith_80 (by decide) ?_
        refine g_lo (is := [1, 2, 3, 4, 5, 6, 7, 0]) (lo2 := [(0, .ref x), (1, .ref a0), (2, .int v_20), (3, .int v_21), (4, .int v_22), (5, .int v_23), (6, .int v_24), (7, .int x_27)]) rfl ?_
        exact ih_43 I_15 J_16 hU_17 hF_18 hG_19 v_20 (rv_20) v_21 (rv_21) v_22 (rv_22) v_23 v_24 (rv_24) x_27 (rg_w rx_27 (by decide) (by decide)) (ms_1 hm_26 (ti_k tx_27 rc_1) (by decide))
      refine g_iload C 7 dX2_setsWith_43 rfl ?_
      refine g_iload C 4 dX2_setsWith_45 rfl ?_
      refine g_icmp_gt C (tgt := 83) dX2_setsWith_47 (by decide) (fun h_28 => ?_) (fun h_28 => ?_)
      · skip
        have r_29 := lt_r (lo := 1) (h_28) rv_10 rv_13 (by decide)
        refine g_iload C 5 dX2_setsWith_83 rfl ?_
        refine g_if_le C (tgt := 111) dX2_setsWith_85 (by decide) (fun h_30 => ?_) (fun h_30 => ?_)
        · skip
          have r_31 := le_l (h_30) (rg_all v_11) rc_0
          refine g_iload C 5 dX2_setsWith_111 rfl ?_
          exact g_zret (ty := .int) (r := v_11) B K rfl (rfl) ⟨hU_5, hF_6, hG_7, rg_all _⟩ dX2_setsWith_113
        · skip
          have r_32 := lt_r (lo := 1) (nle h_30) rc_0 (rg_all v_11) (by decide)
          refine g_aload_n C 0 dX2_setsWith_88 rfl rfl ?_
          refine g_iload C 6 dX2_setsWith_89 rfl ?_
          refine h_putI C K hLx hkx f_2_15 p_2_1 dX2_setsWith_91 (fun I_33 hI_33 => ?_)
          have hU_34 := iv_put W9 hU_5 hI_33 (ro_o hkx (by decide)) (lo := (-2147483648)) (hi := 2147483647) (rfl) (rg_all _) rfl
          have hF_35 := fq_puto hF_6 hI_33 hkx (by decide) (by decide)
          refine g_aload_n C 0 dX2_setsWith_94 rfl rfl ?_
          refine g_aload_n C 0 dX2_setsWith_95 rfl rfl ?_
          refine g_aload_n C 1 dX2_setsWith_96 rfl rfl ?_
          refine g_getR C K hLa0 hka0 f_2_22 hb_1 dX2_setsWith_97 ?_
          obtain ⟨x_36, hx_36, rx_36⟩ := ex_get (I := I_33) (a := b_1) (j := 5) (lo := 0) (hi := 7) hU_34.1 hb_1L (ro_o hb_1k (by decide)) rfl
          refine g_getI C K hb_1L hb_1k f_2_42 (v := x_36) hx_36 dX2_setsWith_100 ?_
          refine g_iload C 5 dX2_setsWith_103 rfl ?_
          refine g_callVI C K (c_X2_nearestToHalf W9 hLx hkx x_36 v_11 (rx_36) (r_32) hU_34) hLx hkx (by decide) rfl v_2_45 rfl ⟨rfl, rfl⟩ ⟨Nat.le_of_ble_eq_true rfl, Nat.le_of_ble_eq_true rfl⟩ (Nat.le_of_ble_eq_true rfl) ⟨Nat.le_of_ble_eq_true rfl, Nat.le_of_ble_eq_true rfl⟩ dX2_setsWith_105 rfl (st := [.ref x]) (fun x_37 I_38 J_39 h_40 => ?_)
          obtain ⟨rfl, rfl, rx_37⟩ := h_40
          refine h_putI C K hLx hkx f_2_19 p_2_2 dX2_setsWith_108 (fun I_41 hI_41 => ?_)
          have hU_42 := iv_put W9 hU_34 hI_41 (ro_o hkx (by decide)) (lo := (-2147483648)) (hi := 2147483647) (rfl) (rg_all _) rfl
          have hF_43 := fq_puto hF_35 hI_41 hkx (by decide) (by decide)
          refine g_iload C 5 dX2_setsWith_111 rfl ?_
          exact g_zret (ty := .int) (r := v_11) B K rfl (rfl) ⟨hU_42, hF_43, hG_7, rg_all _⟩ dX2_setsWith_113
      · skip
        have r_44 := le_l (nlt h_28) rv_13 rv_10
        refine g_aload_n C 1 dX2_setsWith_50 rfl rfl ?_
        refine g_iload C 7 dX2_setsWith_51 rfl ?_
        refine g_iload_n C 2 dX2_setsWith_53 rfl rfl ?_
        refine g_callVI C K (c_X1_onPlatesOf W9 hLa0 hka0 v_13 v_8 (r_44) (rv_8) hU_5) hLa0 hka0 (by decide) rfl v_2_34 rfl ⟨rfl, rfl⟩ ⟨Nat.le_of_ble_eq_true rfl, Nat.le_of_ble_eq_true rfl⟩ (Nat.le_of_ble_eq_true rfl) ⟨Nat.le_of_ble_eq_true rfl, Nat.le_of_ble_eq_true rfl⟩ dX2_setsWith_54 rfl (st := []) (fun x_45 I_46 J_47 h_48 => ?_)
        obtain ⟨rfl, rfl, rx_45⟩ := h_48
        refine g_iload_n C 3 dX2_setsWith_57 rfl rfl ?_
        refine g_icmp_ne C (tgt := 77) dX2_setsWith_58 (by decide) (fun h_49 => ?_) (fun h_49 => ?_)
        · skip
          refine g_lo (is := [0, 1, 2, 3, 4, 5, 6, 7]) (lo2 := [(0, .ref x), (1, .ref a0), (2, .int v_8), (3, .int v_9), (4, .int v_10), (5, .int v_11), (6, .int v_12), (7, .int v_13)]) rfl ?_
          exact j_77 I_3 J_4 hU_5 hF_6 hG_7 v_8 (rv_8) v_9 (rv_9) v_10 (rv_10) v_11 v_12 (rv_12) v_13 (r_44) hm_14
        · skip
          have r_50 := (⟨(eq_rg (h_49) rv_9).1, (eq_rg (h_49) rv_9).2⟩ : Rg (-1) 255 x_45)
          obtain ⟨x_51, hx_51, rx_51⟩ := ex_any (z0 := v_11 + 1)
          refine g_iinc C dX2_setsWith_61 (k := 5) (v := x_51) rfl hx_51 (by decide) (lo2 := [(5, .int x_51), (0, .ref x), (1, .ref a0), (2, .int v_8), (3, .int v_9), (4, .int v_10), (6, .int v_12), (7, .int v_13)]) rfl ?_
          refine g_iload C 6 dX2_setsWith_64 rfl ?_
          refine g_iload C 7 dX2_setsWith_66 rfl ?_
          obtain ⟨x_52, hx_52, rx_52⟩ := ex_andl (x := v_12) (y := v_13) (b := 127) (rv_12)
          refine g_iand C (v := x_52) dX2_setsWith_68 hx_52 ?_
          refine g_istore C dX2_setsWith_69 (by decide) (lo2 := [(6, .int x_52), (5, .int x_51), (0, .ref x), (1, .ref a0), (2, .int v_8), (3, .int v_9), (4, .int v_10), (7, .int v_13)]) rfl ?_
          refine g_aload_n C 2 dX2_setsWith_71 rfl rfl ?_
          refine g_iload C 7 dX2_setsWith_72 rfl ?_
          refine g_callVV C K (c_X2_countIn W9 hLx hkx v_13 (r_44) hU_5) hLx hkx (by decide) rfl v_2_38 rfl ⟨rfl, rfl⟩ ⟨Nat.le_of_ble_eq_true rfl, Nat.le_of_ble_eq_true rfl⟩ (Nat.le_of_ble_eq_true rfl) ⟨Nat.le_of_ble_eq_true rfl, Nat.le_of_ble_eq_true rfl⟩ dX2_setsWith_74 rfl (st := []) (fun I_54 J_55 h_56 => ?_)
          obtain ⟨hUI_54, hFI_54, hGJ_55⟩ := h_56
          have hF_57 := fq_tr hF_6 hFI_54 (by decide)
          have hG_58 := fq_tr hG_7 hGJ_55 (by decide)
          refine g_lo (is := [2, 3, 4, 5, 6, 1, 0, 7]) (lo2 := [(0, .ref x), (1, .ref a0), (2, .int v_8), (3, .int v_9), (4, .int v_10), (5, .int x_51), (6, .int x_52), (7, .int v_13)]) rfl ?_
          exact j_77 I_54 J_55 hUI_54 hF_57 hG_58 v_8 (rv_8) v_9 (rv_9) v_10 (rv_10) x_51 x_52 (rx_52) v_13 (r_44) hm_14
  have l_19 : ∀ (n_19 : Nat) (I_59 : Nat → Nat → Int32) (J_60 : Nat → Nat → Int64) (hU_61 : Iv L κ R ow I_59) (hF_62 : Fq L κ ow [201, 202, 22000] I I_59) (hG_63 : Fq L κ ow [] J J_60) (v_64 : Int32) (rv_64 : Rg 0 5 v_64) (v_65 : Int32) (rv_65 : Rg (-1) 255 v_65) (v_66 : Int32) (rv_66 : Rg 0 127 v_66) (v_67 : Int32) (rv_67 : Rg 0 7 v_67) (hm_68 : 7 < (v_67 : Int32).toInt + (n_19 : Int)), WG p l e { frames := 2, cells := 0, slots := 0, locals := 86 } s m ([.ref x, .ref a0, .int a1, .int a2] : List Value).toArray below meth c 8 0 0 (MQ below (Qi_ D cy L κ ln R (fun r I2 J2 => Iv L κ R ow I2 ∧ Fq L κ ow [201, 202, 22000] I I2 ∧ Fq L κ ow [] J J2 ∧ Rg (-2147483648) 2147483647 r)) ([.ref x, .ref a0, .int a1, .int a2] : List Value).toArray s 0 0 (Al_ L)) D cy (Al_ L) s.heap L κ ln R I_59 J_60 19 [(0, .ref x), (1, .ref a0), (2, .int v_64), (3, .int v_65), (4, .int v_66), (5, .int 0), (6, .int v_66), (7, .int v_67)] [] := by
    intro n_19
    induction n_19 with
    | zero =>
      intro I_59 J_60 hU_61 hF_62 hG_63 v_64 rv_64 v_65 rv_65 v_66 rv_66 v_67 rv_67 hm_68
      exact ms_0 rv_67 hm_68
    | succ n_19 ih_19 =>
      intro I_59 J_60 hU_61 hF_62 hG_63 v_64 rv_64 v_65 rv_65 v_66 rv_66 v_67 rv_67 hm_68
      refine g_iload C 7 dX2_setsWith_19 rfl ?_
      refine g_bipush C (v := 7) dX2_setsWith_21 (by decide) ?_
      refine g_icmp_ge C (tgt := 40) dX2_setsWith_23 (by decide) (fun h_69 => ?_) (fun h_69 => ?_)
      · skip
        have r_70 := le_r (h_69) rc_7 rv_67
        refine g_iconst C (v := 0) dX2_setsWith_40 (by decide) ?_
        refine g_istore C dX2_setsWith_41 (by decide) (lo2 := [(7, .int 0), (0, .ref x), (1, .ref a0), (2, .int v_64), (3, .int v_65), (4, .int v_66), (5, .int 0), (6, .int v_66)]) rfl ?_
        refine g_lo (is := [1, 2, 3, 4, 5, 6, 7, 0]) (lo2 := [(0, .ref x), (1, .ref a0), (2, .int v_64), (3, .int v_65), (4, .int v_66), (5, .int 0), (6, .int v_66), (7, .int 0)]) rfl ?_
        exact l_43 129 I_59 J_60 hU_61 hF_62 hG_63 v_64 (rv_64) v_65 (rv_65) v_66 (rv_66) 0 v_66 (rv_66) 0 (rg_w rc_0 (by decide) (by decide)) (ms_s (a := 0) (b := 128) (N := 129) (rg_w rc_0 (by decide) (by decide)) (by decide))
      · skip
        have r_71 := lt_l (hi := 6) (nle h_69) rv_67 rc_7 (by decide)
        refine g_aload_n C 0 dX2_setsWith_26 rfl rfl ?_
        refine g_getR C K hLx hkx f_2_9 hb_2 dX2_setsWith_27 ?_
        refine g_iload C 7 dX2_setsWith_30 rfl ?_
        refine g_iconst C (v := 0) dX2_setsWith_32 (by decide) ?_
        refine h_iast C K hb_2L hb_2k (v_67.toNatClampNeg) (rfl) (ix_0 r_71 (by decide)) (ix_lt r_71 (by decide) hb_2n (by decide)) dX2_setsWith_33 (fun I_72 hI_72 => ?_)
        have hU_73 := iv_put W9 hU_61 hI_72 (ro_a hb_2k (by decide) hb_2o hkx rfl) (lo := (-2147483648)) (hi := 2147483647) (rfl) (rg_all _) rfl
        have hF_74 := fq_puta hF_62 hI_72 (ro_a hb_2k (by decide) hb_2o hkx rfl) (by decide) (by decide)
        obtain ⟨x_75, hx_75, rx_75, tx_75⟩ := ex_add (y := 1) 1 7 r_71 rc_1 (by decide) (by decide) (by decide) (by decide)
        refine g_iinc C dX2_setsWith_34 (k := 7) (v := x_75) rfl hx_75 (by decide) (lo2 := [(7, .int x_75), (0, .ref x), (1, .ref a0), (2, .int v_64), (3, .int v_65), (4, .int v_66), (5, .int 0), (6, .int v_66)]) rfl ?_
        refine g_goto C (tgt := 19) dX2_setsWith_37 (by decide) ?_
        refine g_lo (is := [1, 2, 3, 4, 5, 6, 7, 0]) (lo2 := [(0, .ref x), (1, .ref a0), (2, .int v_64), (3, .int v_65), (4, .int v_66), (5, .int 0), (6, .int v_66), (7, .int x_75)]) rfl ?_
        exact ih_19 I_72 J_60 hU_73 hF_74 hG_63 v_64 (rv_64) v_65 (rv_65) v_66 (rv_66) x_75 (rg_w rx_75 (by decide) (by decide)) (ms_1 hm_68 (ti_k tx_75 rc_1) (by decide))
  refine g_aload_n C 1 dX2_setsWith_0 rfl rfl ?_
  refine g_getR C K hLa0 hka0 f_2_22 hb_1 dX2_setsWith_1 ?_
  refine g_callVI C K (c_X8_everybody W9 hb_1L hb_1k   hU) hb_1L hb_1k (by decide) rfl v_2_28 rfl ⟨rfl, rfl⟩ ⟨Nat.le_of_ble_eq_true rfl, Nat.le_of_ble_eq_true rfl⟩ (Nat.le_of_ble_eq_true rfl) ⟨Nat.le_of_ble_eq_true rfl, Nat.le_of_ble_eq_true rfl⟩ dX2_setsWith_4 rfl (st := []) (fun x_76 I_77 J_78 h_79 => ?_)
  obtain ⟨rfl, rfl, rx_76⟩ := h_79
  refine g_istore C dX2_setsWith_7 (by decide) (lo2 := [(4, .int x_76), (0, .ref x), (1, .ref a0), (2, .int a1), (3, .int a2)]) rfl ?_
  refine g_iconst C (v := 0) dX2_setsWith_9 (by decide) ?_
  refine g_istore C dX2_setsWith_10 (by decide) (lo2 := [(5, .int 0), (4, .int x_76), (0, .ref x), (1, .ref a0), (2, .int a1), (3, .int a2)]) rfl ?_
  refine g_iload C 1 dX2_setsWith_12 rfl ?_
  refine g_istore C dX2_setsWith_14 (by decide) (lo2 := [(6, .int x_76), (5, .int 0), (4, .int x_76), (0, .ref x), (1, .ref a0), (2, .int a1), (3, .int a2)]) rfl ?_
  refine g_iconst C (v := 0) dX2_setsWith_16 (by decide) ?_
  refine g_istore C dX2_setsWith_17 (by decide) (lo2 := [(7, .int 0), (6, .int x_76), (5, .int 0), (4, .int x_76), (0, .ref x), (1, .ref a0), (2, .int a1), (3, .int a2)]) rfl ?_
  refine g_lo (is := [4, 5, 6, 7, 3, 2, 1, 0]) (lo2 := [(0, .ref x), (1, .ref a0), (2, .int a1), (3, .int a2), (4, .int x_76), (5, .int 0), (6, .int x_76), (7, .int 0)]) rfl ?_
  exact l_19 8 I J hU hF hG a1 (ra1) a2 (ra2) x_76 (rx_76) 0 (rg_w rc_0 (by decide) (by decide)) (ms_s (a := 0) (b := 7) (N := 8) (rg_w rc_0 (by decide) (by decide)) (by decide))
set_option maxRecDepth 100000 in
set_option maxHeartbeats 8000000 in
theorem c_X11_eaters {l : Launch} {D : va_G} {cy : Nat → ClassId} {L : List Nat} {κ ln : Nat → Nat} {R : Nat → Nat → Option Nat} {I : Nat → Nat → Int32} {J : Nat → Nat → Int64} {ow : Nat → Nat × Nat} (W9 : ∀ a ∈ L, Shp L κ ln R ow a) {x : Nat} (hLx : x ∈ L) (hkx : κ x = 11) (hU : Iv L κ R ow I) : CtI l yX11_eaters cX11_eaters 4 (some .int) { frames := 3, cells := 0, slots := 0, locals := 113 } D cy L κ ln R I J [.ref x] (fun r I2 J2 => Iv L κ R ow I2 ∧ Fq L κ ow [201, 202, 1005, 22000] I I2 ∧ Fq L κ ow [] J J2 ∧ Rg (-2147483648) 2147483647 r) := by
  refine CtI.of (by decide +kernel) (Nat.le_of_ble_eq_true rfl) ?_
  intro p e s m below meth c B K
  have C := B.1
  have hF : Fq L κ ow [201, 202, 1005, 22000] I I := fq_rf
  have hG : Fq L κ ow [] J J := fq_rf
  obtain ⟨b_1, hb_1, hb_1L, hb_1k⟩ := shp_o (W9 x hLx) hkx 11 2 rfl (by decide)
  obtain ⟨b_2, hb_2, hb_2L, hb_2k⟩ := shp_o (W9 x hLx) hkx 2 1 rfl (by decide)
  obtain ⟨b_3, hb_3, hb_3L, hb_3k⟩ := shp_o (W9 x hLx) hkx 1 8 rfl (by decide)
  obtain ⟨b_4, hb_4, hb_4L, hb_4k⟩ := shp_o (W9 x hLx) hkx 0 10 rfl (by decide)
  refine g_lo (is := [0]) (lo2 := [(0, .ref x)]) rfl ?_
  refine g_aload_n C 0 dX11_eaters_0 rfl rfl ?_
  refine g_getR C K hLx hkx f_11_10 hb_4 dX11_eaters_1 ?_
  obtain ⟨x_5, hx_5, rx_5⟩ := ex_get (I := I) (a := b_4) (j := 5) (lo := 0) (hi := 940) hU.1 hb_4L (ro_o hb_4k (by decide)) rfl
  refine g_getI C K hb_4L hb_4k f_11_102 (v := x_5) hx_5 dX11_eaters_4 ?_
  refine g_iconst C (v := 2) dX11_eaters_7 (by decide) ?_
  refine g_icmp_ne C (tgt := 15) dX11_eaters_8 (by decide) (fun h_6 => ?_) (fun h_6 => ?_)
  · skip
    have n_7 : ¬ x_5 = 2 := h_6
    refine g_iconst C (v := 0) dX11_eaters_15 (by decide) ?_
    refine g_istore_n C dX11_eaters_16 rfl (by decide) (lo2 := [(1, .int 0), (0, .ref x)]) rfl ?_
    refine g_aload_n C 1 dX11_eaters_17 rfl rfl ?_
    refine g_getR C K hLx hkx f_11_10 hb_4 dX11_eaters_18 ?_
    refine g_iconst C (v := 0) dX11_eaters_21 (by decide) ?_
    refine g_callVI C K (c_X10_byteOf W9 hb_4L hb_4k 0 (rg_w rc_0 (by decide) (by decide)) hU) hb_4L hb_4k (by decide) rfl v_11_275 rfl ⟨rfl, rfl⟩ ⟨Nat.le_of_ble_eq_true rfl, Nat.le_of_ble_eq_true rfl⟩ (Nat.le_of_ble_eq_true rfl) ⟨Nat.le_of_ble_eq_true rfl, Nat.le_of_ble_eq_true rfl⟩ dX11_eaters_22 rfl (st := []) (fun x_8 I_9 J_10 h_11 => ?_)
    obtain ⟨rfl, rfl, rx_8⟩ := h_11
    refine g_istore_n C dX11_eaters_25 rfl (by decide) (lo2 := [(2, .int x_8), (1, .int 0), (0, .ref x)]) rfl ?_
    refine g_aload_n C 2 dX11_eaters_26 rfl rfl ?_
    refine g_getR C K hLx hkx f_11_10 hb_4 dX11_eaters_27 ?_
    refine g_iconst C (v := 1) dX11_eaters_30 (by decide) ?_
    refine g_callVI C K (c_X10_byteOf W9 hb_4L hb_4k 1 (rg_w rc_1 (by decide) (by decide)) hU) hb_4L hb_4k (by decide) rfl v_11_275 rfl ⟨rfl, rfl⟩ ⟨Nat.le_of_ble_eq_true rfl, Nat.le_of_ble_eq_true rfl⟩ (Nat.le_of_ble_eq_true rfl) ⟨Nat.le_of_ble_eq_true rfl, Nat.le_of_ble_eq_true rfl⟩ dX11_eaters_31 rfl (st := []) (fun x_12 I_13 J_14 h_15 => ?_)
    obtain ⟨rfl, rfl, rx_12⟩ := h_15
    refine g_istore_n C dX11_eaters_34 rfl (by decide) (lo2 := [(3, .int x_12), (2, .int x_8), (1, .int 0), (0, .ref x)]) rfl ?_
    refine g_aload_n C 3 dX11_eaters_35 rfl rfl ?_
    refine g_getR C K hLx hkx f_11_10 hb_4 dX11_eaters_36 ?_
    refine g_iconst C (v := 0) dX11_eaters_39 (by decide) ?_
    refine h_putI C K hb_4L hb_4k f_11_102 p_10_5 dX11_eaters_40 (fun I_16 hI_16 => ?_)
    have hU_17 := iv_put W9 hU hI_16 (ro_o hb_4k (by decide)) (lo := 0) (hi := 940) (rfl) (rg_w rc_0 (by decide) (by decide)) rfl
    have hF_18 := fq_puto hF hI_16 hb_4k (by decide) (by decide)
    refine g_iload_n C 2 dX11_eaters_43 rfl rfl ?_
    refine g_if_eq C (tgt := 74) dX11_eaters_44 (by decide) (fun h_19 => ?_) (fun h_19 => ?_)
    · skip
      refine g_iconst C (v := (-1)) dX11_eaters_74 (by decide) ?_
      exact g_zret (ty := .int) (r := (-1)) B K rfl (rfl) ⟨hU_17, hF_18, hG, rg_all _⟩ dX11_eaters_75
    · skip
      exact absurd (h_19) (by decide)
  · skip
    have r_20 := (⟨(eq_rg (h_6) rc_2).1, (eq_rg (h_6) rc_2).2⟩ : Rg 2 2 x_5)
    refine g_iconst C (v := 1) dX11_eaters_11 (by decide) ?_
    refine g_goto C (tgt := 16) dX11_eaters_12 (by decide) ?_
    refine g_istore_n C dX11_eaters_16 rfl (by decide) (lo2 := [(1, .int 1), (0, .ref x)]) rfl ?_
    refine g_aload_n C 1 dX11_eaters_17 rfl rfl ?_
    refine g_getR C K hLx hkx f_11_10 hb_4 dX11_eaters_18 ?_
    refine g_iconst C (v := 0) dX11_eaters_21 (by decide) ?_
    refine g_callVI C K (c_X10_byteOf W9 hb_4L hb_4k 0 (rg_w rc_0 (by decide) (by decide)) hU) hb_4L hb_4k (by decide) rfl v_11_275 rfl ⟨rfl, rfl⟩ ⟨Nat.le_of_ble_eq_true rfl, Nat.le_of_ble_eq_true rfl⟩ (Nat.le_of_ble_eq_true rfl) ⟨Nat.le_of_ble_eq_true rfl, Nat.le_of_ble_eq_true rfl⟩ dX11_eaters_22 rfl (st := []) (fun x_21 I_22 J_23 h_24 => ?_)
    obtain ⟨rfl, rfl, rx_21⟩ := h_24
    refine g_istore_n C dX11_eaters_25 rfl (by decide) (lo2 := [(2, .int x_21), (1, .int 1), (0, .ref x)]) rfl ?_
    refine g_aload_n C 2 dX11_eaters_26 rfl rfl ?_
    refine g_getR C K hLx hkx f_11_10 hb_4 dX11_eaters_27 ?_
    refine g_iconst C (v := 1) dX11_eaters_30 (by decide) ?_
    refine g_callVI C K (c_X10_byteOf W9 hb_4L hb_4k 1 (rg_w rc_1 (by decide) (by decide)) hU) hb_4L hb_4k (by decide) rfl v_11_275 rfl ⟨rfl, rfl⟩ ⟨Nat.le_of_ble_eq_true rfl, Nat.le_of_ble_eq_true rfl⟩ (Nat.le_of_ble_eq_true rfl) ⟨Nat.le_of_ble_eq_true rfl, Nat.le_of_ble_eq_true rfl⟩ dX11_eaters_31 rfl (st := []) (fun x_25 I_26 J_27 h_28 => ?_)
    obtain ⟨rfl, rfl, rx_25⟩ := h_28
    refine g_istore_n C dX11_eaters_34 rfl (by decide) (lo2 := [(3, .int x_25), (2, .int x_21), (1, .int 1), (0, .ref x)]) rfl ?_
    refine g_aload_n C 3 dX11_eaters_35 rfl rfl ?_
    refine g_getR C K hLx hkx f_11_10 hb_4 dX11_eaters_36 ?_
    refine g_iconst C (v := 0) dX11_eaters_39 (by decide) ?_
    refine h_putI C K hb_4L hb_4k f_11_102 p_10_5 dX11_eaters_40 (fun I_29 hI_29 => ?_)
    have hU_30 := iv_put W9 hU hI_29 (ro_o hb_4k (by decide)) (lo := 0) (hi := 940) (rfl) (rg_w rc_0 (by decide) (by decide)) rfl
    have hF_31 := fq_puto hF hI_29 hb_4k (by decide) (by decide)
    refine g_iload_n C 2 dX11_eaters_43 rfl rfl ?_
    refine g_if_eq C (tgt := 74) dX11_eaters_44 (by decide) (fun h_32 => ?_) (fun h_32 => ?_)
    · skip
      exact absurd (h_32) (by decide)
    · skip
      refine g_aload_n C 3 dX11_eaters_47 rfl rfl ?_
      refine g_getR C K hLx hkx f_11_19 hb_3 dX11_eaters_48 ?_
      refine g_iload_n C 1 dX11_eaters_51 rfl rfl ?_
      refine g_callVI C K (c_X8_hasDish W9 hb_3L hb_3k x_21  hU_30) hb_3L hb_3k (by decide) rfl v_11_175 rfl ⟨rfl, rfl⟩ ⟨Nat.le_of_ble_eq_true rfl, Nat.le_of_ble_eq_true rfl⟩ (Nat.le_of_ble_eq_true rfl) ⟨Nat.le_of_ble_eq_true rfl, Nat.le_of_ble_eq_true rfl⟩ dX11_eaters_52 rfl (st := []) (fun x_33 I_34 J_35 h_36 => ?_)
      obtain ⟨rfl, rfl, rx_33, ex_33⟩ := h_36
      refine g_if_eq C (tgt := 74) dX11_eaters_55 (by decide) (fun h_37 => ?_) (fun h_37 => ?_)
      · skip
        have r_38 := (⟨(rx_33).1, (eq_rg (h_37) rc_0).2⟩ : Rg 0 0 x_33)
        refine g_iconst C (v := (-1)) dX11_eaters_74 (by decide) ?_
        exact g_zret (ty := .int) (r := (-1)) B K rfl (rfl) ⟨hU_30, hF_31, hG, rg_all _⟩ dX11_eaters_75
      · skip
        have n_39 : ¬ x_33 = 0 := h_37
        have r_40 := ne_lo (lo := 1) n_39 rx_33 rc_0 rfl (by decide)
        have r_41 := rg_i rx_21 ((ex_33) n_39) (lo := 0) (hi := 5) (by decide) (by decide)
        refine g_aload_n C 3 dX11_eaters_58 rfl rfl ?_
        refine g_getR C K hLx hkx f_11_83 hb_1 dX11_eaters_59 ?_
        refine g_aload_n C 3 dX11_eaters_62 rfl rfl ?_
        refine g_getR C K hLx hkx f_11_28 hb_2 dX11_eaters_63 ?_
        refine g_iload_n C 1 dX11_eaters_66 rfl rfl ?_
        refine g_iload_n C 0 dX11_eaters_67 rfl rfl ?_
        refine g_callVI C K (c_X2_setsWith W9 hb_1L hb_1k hb_2L hb_2k x_21 x_25 (r_41) (rx_25) hU_30) hb_1L hb_1k (by decide) rfl v_11_278 rfl ⟨rfl, rfl⟩ ⟨Nat.le_of_ble_eq_true rfl, Nat.le_of_ble_eq_true rfl⟩ (Nat.le_of_ble_eq_true rfl) ⟨Nat.le_of_ble_eq_true rfl, Nat.le_of_ble_eq_true rfl⟩ dX11_eaters_68 rfl (st := []) (fun x_42 I_43 J_44 h_45 => ?_)
        obtain ⟨hUI_43, hFI_43, hGJ_44, rx_42⟩ := h_45
        have hF_46 := fq_tr hF_31 hFI_43 (by decide)
        have hG_47 := fq_tr hG hGJ_44 (by decide)
        refine g_goto C (tgt := 75) dX11_eaters_71 (by decide) ?_
        exact g_zret (ty := .int) (r := x_42) B K rfl (rfl) ⟨hUI_43, hF_46, hG_47, rx_42⟩ dX11_eaters_75
set_option maxRecDepth 100000 in
set_option maxHeartbeats 8000000 in
theorem c_X11_surely {l : Launch} {D : va_G} {cy : Nat → ClassId} {L : List Nat} {κ ln : Nat → Nat} {R : Nat → Nat → Option Nat} {I : Nat → Nat → Int32} {J : Nat → Nat → Int64} {ow : Nat → Nat × Nat} (W9 : ∀ a ∈ L, Shp L κ ln R ow a) {x : Nat} (hLx : x ∈ L) (hkx : κ x = 11) (hU : Iv L κ R ow I) : CtI l yX11_surely cX11_surely 1 (some .int) { frames := 0, cells := 0, slots := 0, locals := 0 } D cy L κ ln R I J [.ref x] (fun r I2 J2 => I = I2 ∧ J = J2 ∧ Rg (-2147483648) 2147483647 r) := by
  refine CtI.of (by decide +kernel) (Nat.le_of_ble_eq_true rfl) ?_
  intro p e s m below meth c B K
  have C := B.1
  obtain ⟨b_1, hb_1, hb_1L, hb_1k⟩ := shp_o (W9 x hLx) hkx 11 2 rfl (by decide)
  refine g_lo (is := [0]) (lo2 := [(0, .ref x)]) rfl ?_
  refine g_aload_n C 0 dX11_surely_0 rfl rfl ?_
  refine g_getR C K hLx hkx f_11_83 hb_1 dX11_surely_1 ?_
  obtain ⟨x_2, hx_2, rx_2⟩ := ex_get (I := I) (a := b_1) (j := 1) (lo := (-2147483648)) (hi := 2147483647) hU.1 hb_1L (ro_o hb_1k (by decide)) rfl
  refine g_getI C K hb_1L hb_1k f_11_282 (v := x_2) hx_2 dX11_surely_4 ?_
  exact g_zret (ty := .int) (r := x_2) B K rfl (rfl) ⟨rfl, rfl, rx_2⟩ dX11_surely_7
