theorem dX0_behind_0 : decode cX0_behind 0 = .ok (.iload_n 1, 1) := by decide +kernel
theorem dX0_behind_1 : decode cX0_behind 1 = .ok (.ifCond .ne 7, 3) := by decide +kernel
theorem dX0_behind_4 : decode cX0_behind 4 = .ok (.iconst 0, 1) := by decide +kernel
theorem dX0_behind_5 : decode cX0_behind 5 = .ok (.goto 6, 3) := by decide +kernel
theorem dX0_behind_8 : decode cX0_behind 8 = .ok (.iload_n 0, 1) := by decide +kernel
theorem dX0_behind_9 : decode cX0_behind 9 = .ok (.iload_n 1, 1) := by decide +kernel
theorem dX0_behind_10 : decode cX0_behind 10 = .ok (.iadd, 1) := by decide +kernel
theorem dX0_behind_11 : decode cX0_behind 11 = .ok (.ireturn, 1) := by decide +kernel
theorem dX11_byteAt_0 : decode cX11_byteAt 0 = .ok (.iload_n 1, 1) := by decide +kernel
theorem dX11_byteAt_1 : decode cX11_byteAt 1 = .ok (.ifCond .lt 20, 3) := by decide +kernel
theorem dX11_byteAt_4 : decode cX11_byteAt 4 = .ok (.iload_n 1, 1) := by decide +kernel
theorem dX11_byteAt_5 : decode cX11_byteAt 5 = .ok (.aload_n 0, 1) := by decide +kernel
theorem dX11_byteAt_6 : decode cX11_byteAt 6 = .ok (.getfield 97, 3) := by decide +kernel
theorem dX11_byteAt_9 : decode cX11_byteAt 9 = .ok (.if_icmp .ge 12, 3) := by decide +kernel
theorem dX11_byteAt_12 : decode cX11_byteAt 12 = .ok (.aload_n 0, 1) := by decide +kernel
theorem dX11_byteAt_13 : decode cX11_byteAt 13 = .ok (.getfield 93, 3) := by decide +kernel
theorem dX11_byteAt_16 : decode cX11_byteAt 16 = .ok (.iload_n 1, 1) := by decide +kernel
theorem dX11_byteAt_17 : decode cX11_byteAt 17 = .ok (.baload, 1) := by decide +kernel
theorem dX11_byteAt_18 : decode cX11_byteAt 18 = .ok (.goto 4, 3) := by decide +kernel
theorem dX11_byteAt_21 : decode cX11_byteAt 21 = .ok (.iconst (-1), 1) := by decide +kernel
theorem dX11_byteAt_22 : decode cX11_byteAt 22 = .ok (.ireturn, 1) := by decide +kernel
theorem dX11_hungriest_0 : decode cX11_hungriest 0 = .ok (.iconst (-1), 1) := by decide +kernel
theorem dX11_hungriest_1 : decode cX11_hungriest 1 = .ok (.istore_n 1, 1) := by decide +kernel
theorem dX11_hungriest_2 : decode cX11_hungriest 2 = .ok (.iconst 0, 1) := by decide +kernel
theorem dX11_hungriest_3 : decode cX11_hungriest 3 = .ok (.istore_n 2, 1) := by decide +kernel
theorem dX11_hungriest_4 : decode cX11_hungriest 4 = .ok (.iload_n 2, 1) := by decide +kernel
theorem dX11_hungriest_5 : decode cX11_hungriest 5 = .ok (.aload_n 0, 1) := by decide +kernel
theorem dX11_hungriest_6 : decode cX11_hungriest 6 = .ok (.getfield 19, 3) := by decide +kernel
theorem dX11_hungriest_9 : decode cX11_hungriest 9 = .ok (.getfield 213, 3) := by decide +kernel
theorem dX11_hungriest_12 : decode cX11_hungriest 12 = .ok (.if_icmp .ge 48, 3) := by decide +kernel
theorem dX11_hungriest_15 : decode cX11_hungriest 15 = .ok (.aload_n 0, 1) := by decide +kernel
theorem dX11_hungriest_16 : decode cX11_hungriest 16 = .ok (.getfield 28, 3) := by decide +kernel
theorem dX11_hungriest_19 : decode cX11_hungriest 19 = .ok (.iload_n 2, 1) := by decide +kernel
theorem dX11_hungriest_20 : decode cX11_hungriest 20 = .ok (.invokevirtual 301, 3) := by decide +kernel
theorem dX11_hungriest_23 : decode cX11_hungriest 23 = .ok (.ifCond .eq 31, 3) := by decide +kernel
theorem dX11_hungriest_26 : decode cX11_hungriest 26 = .ok (.iload_n 1, 1) := by decide +kernel
theorem dX11_hungriest_27 : decode cX11_hungriest 27 = .ok (.iconst (-1), 1) := by decide +kernel
theorem dX11_hungriest_28 : decode cX11_hungriest 28 = .ok (.if_icmp .eq 24, 3) := by decide +kernel
theorem dX11_hungriest_31 : decode cX11_hungriest 31 = .ok (.aload_n 0, 1) := by decide +kernel
theorem dX11_hungriest_32 : decode cX11_hungriest 32 = .ok (.getfield 28, 3) := by decide +kernel
theorem dX11_hungriest_35 : decode cX11_hungriest 35 = .ok (.getfield 163, 3) := by decide +kernel
theorem dX11_hungriest_38 : decode cX11_hungriest 38 = .ok (.iload_n 2, 1) := by decide +kernel
theorem dX11_hungriest_39 : decode cX11_hungriest 39 = .ok (.iaload, 1) := by decide +kernel
theorem dX11_hungriest_40 : decode cX11_hungriest 40 = .ok (.aload_n 0, 1) := by decide +kernel
theorem dX11_hungriest_41 : decode cX11_hungriest 41 = .ok (.getfield 28, 3) := by decide +kernel
theorem dX11_hungriest_44 : decode cX11_hungriest 44 = .ok (.getfield 163, 3) := by decide +kernel
theorem dX11_hungriest_47 : decode cX11_hungriest 47 = .ok (.iload_n 1, 1) := by decide +kernel
theorem dX11_hungriest_48 : decode cX11_hungriest 48 = .ok (.iaload, 1) := by decide +kernel
theorem dX11_hungriest_49 : decode cX11_hungriest 49 = .ok (.if_icmp .le 5, 3) := by decide +kernel
theorem dX11_hungriest_52 : decode cX11_hungriest 52 = .ok (.iload_n 2, 1) := by decide +kernel
theorem dX11_hungriest_53 : decode cX11_hungriest 53 = .ok (.istore_n 1, 1) := by decide +kernel
theorem dX11_hungriest_54 : decode cX11_hungriest 54 = .ok (.iinc 2 1, 3) := by decide +kernel
theorem dX11_hungriest_57 : decode cX11_hungriest 57 = .ok (.goto (-53), 3) := by decide +kernel
theorem dX11_hungriest_60 : decode cX11_hungriest 60 = .ok (.iload_n 1, 1) := by decide +kernel
theorem dX11_hungriest_61 : decode cX11_hungriest 61 = .ok (.ireturn, 1) := by decide +kernel
theorem dX11_kin_0 : decode cX11_kin 0 = .ok (.aload_n 0, 1) := by decide +kernel
theorem dX11_kin_1 : decode cX11_kin 1 = .ok (.getfield 19, 3) := by decide +kernel
theorem dX11_kin_4 : decode cX11_kin 4 = .ok (.iload_n 1, 1) := by decide +kernel
theorem dX11_kin_5 : decode cX11_kin 5 = .ok (.invokevirtual 133, 3) := by decide +kernel
theorem dX11_kin_8 : decode cX11_kin 8 = .ok (.ifCond .eq 26, 3) := by decide +kernel
theorem dX11_kin_11 : decode cX11_kin 11 = .ok (.aload_n 0, 1) := by decide +kernel
theorem dX11_kin_12 : decode cX11_kin 12 = .ok (.getfield 19, 3) := by decide +kernel
theorem dX11_kin_15 : decode cX11_kin 15 = .ok (.iload_n 2, 1) := by decide +kernel
theorem dX11_kin_16 : decode cX11_kin 16 = .ok (.invokevirtual 133, 3) := by decide +kernel
theorem dX11_kin_19 : decode cX11_kin 19 = .ok (.ifCond .eq 15, 3) := by decide +kernel
theorem dX11_kin_22 : decode cX11_kin 22 = .ok (.aload_n 0, 1) := by decide +kernel
theorem dX11_kin_23 : decode cX11_kin 23 = .ok (.getfield 19, 3) := by decide +kernel
theorem dX11_kin_26 : decode cX11_kin 26 = .ok (.iload_n 1, 1) := by decide +kernel
theorem dX11_kin_27 : decode cX11_kin 27 = .ok (.iload_n 2, 1) := by decide +kernel
theorem dX11_kin_28 : decode cX11_kin 28 = .ok (.invokevirtual 298, 3) := by decide +kernel
theorem dX11_kin_31 : decode cX11_kin 31 = .ok (.goto 4, 3) := by decide +kernel
theorem dX11_kin_34 : decode cX11_kin 34 = .ok (.iconst (-1), 1) := by decide +kernel
theorem dX11_kin_35 : decode cX11_kin 35 = .ok (.ireturn, 1) := by decide +kernel
theorem dX11_seatAt_0 : decode cX11_seatAt 0 = .ok (.iload_n 1, 1) := by decide +kernel
theorem dX11_seatAt_1 : decode cX11_seatAt 1 = .ok (.ifCond .lt 26, 3) := by decide +kernel
theorem dX11_seatAt_4 : decode cX11_seatAt 4 = .ok (.iload_n 1, 1) := by decide +kernel
theorem dX11_seatAt_5 : decode cX11_seatAt 5 = .ok (.aload_n 0, 1) := by decide +kernel
theorem dX11_seatAt_6 : decode cX11_seatAt 6 = .ok (.getfield 76, 3) := by decide +kernel
theorem dX11_seatAt_9 : decode cX11_seatAt 9 = .ok (.getfield 294, 3) := by decide +kernel
theorem dX11_seatAt_12 : decode cX11_seatAt 12 = .ok (.if_icmp .ge 15, 3) := by decide +kernel
theorem dX11_seatAt_15 : decode cX11_seatAt 15 = .ok (.aload_n 0, 1) := by decide +kernel
theorem dX11_seatAt_16 : decode cX11_seatAt 16 = .ok (.getfield 76, 3) := by decide +kernel
theorem dX11_seatAt_19 : decode cX11_seatAt 19 = .ok (.getfield 295, 3) := by decide +kernel
theorem dX11_seatAt_22 : decode cX11_seatAt 22 = .ok (.iload_n 1, 1) := by decide +kernel
theorem dX11_seatAt_23 : decode cX11_seatAt 23 = .ok (.iaload, 1) := by decide +kernel
theorem dX11_seatAt_24 : decode cX11_seatAt 24 = .ok (.goto 4, 3) := by decide +kernel
theorem dX11_seatAt_27 : decode cX11_seatAt 27 = .ok (.iconst (-1), 1) := by decide +kernel
theorem dX11_seatAt_28 : decode cX11_seatAt 28 = .ok (.ireturn, 1) := by decide +kernel
theorem dX11_told_0 : decode cX11_told 0 = .ok (.aload_n 0, 1) := by decide +kernel
theorem dX11_told_1 : decode cX11_told 1 = .ok (.getfield 52, 3) := by decide +kernel
theorem dX11_told_4 : decode cX11_told 4 = .ok (.getfield 352, 3) := by decide +kernel
theorem dX11_told_7 : decode cX11_told 7 = .ok (.ifCond .ne 5, 3) := by decide +kernel
theorem dX11_told_10 : decode cX11_told 10 = .ok (.iconst (-1), 1) := by decide +kernel
theorem dX11_told_11 : decode cX11_told 11 = .ok (.ireturn, 1) := by decide +kernel
theorem dX11_told_12 : decode cX11_told 12 = .ok (.iload_n 1, 1) := by decide +kernel
theorem dX11_told_13 : decode cX11_told 13 = .ok (.tableswitch 63 0 3 #[31, 39, 47, 55], 31) := by decide +kernel
theorem dX11_told_44 : decode cX11_told 44 = .ok (.aload_n 0, 1) := by decide +kernel
theorem dX11_told_45 : decode cX11_told 45 = .ok (.getfield 52, 3) := by decide +kernel
theorem dX11_told_48 : decode cX11_told 48 = .ok (.getfield 346, 3) := by decide +kernel
theorem dX11_told_51 : decode cX11_told 51 = .ok (.ireturn, 1) := by decide +kernel
theorem dX11_told_52 : decode cX11_told 52 = .ok (.aload_n 0, 1) := by decide +kernel
theorem dX11_told_53 : decode cX11_told 53 = .ok (.getfield 52, 3) := by decide +kernel
theorem dX11_told_56 : decode cX11_told 56 = .ok (.getfield 349, 3) := by decide +kernel
theorem dX11_told_59 : decode cX11_told 59 = .ok (.ireturn, 1) := by decide +kernel
theorem dX11_told_60 : decode cX11_told 60 = .ok (.aload_n 0, 1) := by decide +kernel
theorem dX11_told_61 : decode cX11_told 61 = .ok (.getfield 52, 3) := by decide +kernel
theorem dX11_told_64 : decode cX11_told 64 = .ok (.getfield 356, 3) := by decide +kernel
theorem dX11_told_67 : decode cX11_told 67 = .ok (.ireturn, 1) := by decide +kernel
theorem dX11_told_68 : decode cX11_told 68 = .ok (.aload_n 0, 1) := by decide +kernel
theorem dX11_told_69 : decode cX11_told 69 = .ok (.getfield 52, 3) := by decide +kernel
theorem dX11_told_72 : decode cX11_told 72 = .ok (.getfield 359, 3) := by decide +kernel
theorem dX11_told_75 : decode cX11_told 75 = .ok (.ireturn, 1) := by decide +kernel
theorem dX11_told_76 : decode cX11_told 76 = .ok (.iconst (-1), 1) := by decide +kernel
theorem dX11_told_77 : decode cX11_told 77 = .ok (.ireturn, 1) := by decide +kernel
theorem dX11_writeByte_0 : decode cX11_writeByte 0 = .ok (.aload_n 0, 1) := by decide +kernel
theorem dX11_writeByte_1 : decode cX11_writeByte 1 = .ok (.getfield 97, 3) := by decide +kernel
theorem dX11_writeByte_4 : decode cX11_writeByte 4 = .ok (.aload_n 0, 1) := by decide +kernel
theorem dX11_writeByte_5 : decode cX11_writeByte 5 = .ok (.getfield 93, 3) := by decide +kernel
theorem dX11_writeByte_8 : decode cX11_writeByte 8 = .ok (.arraylength, 1) := by decide +kernel
theorem dX11_writeByte_9 : decode cX11_writeByte 9 = .ok (.if_icmp .ge 24, 3) := by decide +kernel
theorem dX11_writeByte_12 : decode cX11_writeByte 12 = .ok (.aload_n 0, 1) := by decide +kernel
theorem dX11_writeByte_13 : decode cX11_writeByte 13 = .ok (.getfield 93, 3) := by decide +kernel
theorem dX11_writeByte_16 : decode cX11_writeByte 16 = .ok (.aload_n 0, 1) := by decide +kernel
theorem dX11_writeByte_17 : decode cX11_writeByte 17 = .ok (.getfield 97, 3) := by decide +kernel
theorem dX11_writeByte_20 : decode cX11_writeByte 20 = .ok (.iload_n 1, 1) := by decide +kernel
theorem dX11_writeByte_21 : decode cX11_writeByte 21 = .ok (.i2b, 1) := by decide +kernel
theorem dX11_writeByte_22 : decode cX11_writeByte 22 = .ok (.bastore, 1) := by decide +kernel
theorem dX11_writeByte_23 : decode cX11_writeByte 23 = .ok (.aload_n 0, 1) := by decide +kernel
theorem dX11_writeByte_24 : decode cX11_writeByte 24 = .ok (.dup, 1) := by decide +kernel
theorem dX11_writeByte_25 : decode cX11_writeByte 25 = .ok (.getfield 97, 3) := by decide +kernel
theorem dX11_writeByte_28 : decode cX11_writeByte 28 = .ok (.iconst 1, 1) := by decide +kernel
theorem dX11_writeByte_29 : decode cX11_writeByte 29 = .ok (.iadd, 1) := by decide +kernel
theorem dX11_writeByte_30 : decode cX11_writeByte 30 = .ok (.putfield 97, 3) := by decide +kernel
theorem dX11_writeByte_33 : decode cX11_writeByte 33 = .ok (.return_, 1) := by decide +kernel
theorem dX11_writeName_0 : decode cX11_writeName 0 = .ok (.bipush 6, 2) := by decide +kernel
theorem dX11_writeName_2 : decode cX11_writeName 2 = .ok (.istore_n 3, 1) := by decide +kernel
theorem dX11_writeName_3 : decode cX11_writeName 3 = .ok (.iload_n 3, 1) := by decide +kernel
theorem dX11_writeName_4 : decode cX11_writeName 4 = .ok (.ifCond .lt 36, 3) := by decide +kernel
theorem dX11_writeName_7 : decode cX11_writeName 7 = .ok (.lload_n 1, 1) := by decide +kernel
theorem dX11_writeName_8 : decode cX11_writeName 8 = .ok (.iload_n 3, 1) := by decide +kernel
theorem dX11_writeName_9 : decode cX11_writeName 9 = .ok (.iconst 5, 1) := by decide +kernel
theorem dX11_writeName_10 : decode cX11_writeName 10 = .ok (.imul, 1) := by decide +kernel
theorem dX11_writeName_11 : decode cX11_writeName 11 = .ok (.lshr, 1) := by decide +kernel
theorem dX11_writeName_12 : decode cX11_writeName 12 = .ok (.l2i, 1) := by decide +kernel
theorem dX11_writeName_13 : decode cX11_writeName 13 = .ok (.bipush 31, 2) := by decide +kernel
theorem dX11_writeName_15 : decode cX11_writeName 15 = .ok (.iand, 1) := by decide +kernel
theorem dX11_writeName_16 : decode cX11_writeName 16 = .ok (.istore 4, 2) := by decide +kernel
theorem dX11_writeName_18 : decode cX11_writeName 18 = .ok (.iload 4, 2) := by decide +kernel
theorem dX11_writeName_20 : decode cX11_writeName 20 = .ok (.ifCond .eq 14, 3) := by decide +kernel
theorem dX11_writeName_23 : decode cX11_writeName 23 = .ok (.aload_n 0, 1) := by decide +kernel
theorem dX11_writeName_24 : decode cX11_writeName 24 = .ok (.bipush 97, 2) := by decide +kernel
theorem dX11_writeName_26 : decode cX11_writeName 26 = .ok (.iload 4, 2) := by decide +kernel
theorem dX11_writeName_28 : decode cX11_writeName 28 = .ok (.iadd, 1) := by decide +kernel
theorem dX11_writeName_29 : decode cX11_writeName 29 = .ok (.iconst 1, 1) := by decide +kernel
theorem dX11_writeName_30 : decode cX11_writeName 30 = .ok (.isub, 1) := by decide +kernel
theorem dX11_writeName_31 : decode cX11_writeName 31 = .ok (.invokevirtual 334, 3) := by decide +kernel
theorem dX11_writeName_34 : decode cX11_writeName 34 = .ok (.iinc 3 (-1), 3) := by decide +kernel
theorem dX11_writeName_37 : decode cX11_writeName 37 = .ok (.goto (-34), 3) := by decide +kernel
theorem dX11_writeName_40 : decode cX11_writeName 40 = .ok (.return_, 1) := by decide +kernel
theorem dX1_draw_0 : decode cX1_draw 0 = .ok (.aload_n 0, 1) := by decide +kernel
theorem dX1_draw_1 : decode cX1_draw 1 = .ok (.aload_n 0, 1) := by decide +kernel
theorem dX1_draw_2 : decode cX1_draw 2 = .ok (.getfield 49, 3) := by decide +kernel
theorem dX1_draw_5 : decode cX1_draw 5 = .ok (.ldc 129, 2) := by decide +kernel
theorem dX1_draw_7 : decode cX1_draw 7 = .ok (.imul, 1) := by decide +kernel
theorem dX1_draw_8 : decode cX1_draw 8 = .ok (.sipush 12345, 3) := by decide +kernel
theorem dX1_draw_11 : decode cX1_draw 11 = .ok (.iadd, 1) := by decide +kernel
theorem dX1_draw_12 : decode cX1_draw 12 = .ok (.putfield 49, 3) := by decide +kernel
theorem dX1_draw_15 : decode cX1_draw 15 = .ok (.iload_n 1, 1) := by decide +kernel
theorem dX1_draw_16 : decode cX1_draw 16 = .ok (.ifCond .le 15, 3) := by decide +kernel
theorem dX1_draw_19 : decode cX1_draw 19 = .ok (.aload_n 0, 1) := by decide +kernel
theorem dX1_draw_20 : decode cX1_draw 20 = .ok (.getfield 49, 3) := by decide +kernel
theorem dX1_draw_23 : decode cX1_draw 23 = .ok (.bipush 8, 2) := by decide +kernel
theorem dX1_draw_25 : decode cX1_draw 25 = .ok (.iushr, 1) := by decide +kernel
theorem dX1_draw_26 : decode cX1_draw 26 = .ok (.iload_n 1, 1) := by decide +kernel
theorem dX1_draw_27 : decode cX1_draw 27 = .ok (.irem, 1) := by decide +kernel
theorem dX1_draw_28 : decode cX1_draw 28 = .ok (.goto 4, 3) := by decide +kernel
theorem dX1_draw_32 : decode cX1_draw 32 = .ok (.ireturn, 1) := by decide +kernel
theorem dX7_addStep_0 : decode cX7_addStep 0 = .ok (.aload_n 0, 1) := by decide +kernel
theorem dX7_addStep_1 : decode cX7_addStep 1 = .ok (.getfield 24, 3) := by decide +kernel
theorem dX7_addStep_4 : decode cX7_addStep 4 = .ok (.bipush 40, 2) := by decide +kernel
theorem dX7_addStep_6 : decode cX7_addStep 6 = .ok (.if_icmp .lt 5, 3) := by decide +kernel
theorem dX7_addStep_9 : decode cX7_addStep 9 = .ok (.iconst 0, 1) := by decide +kernel
theorem dX7_addStep_10 : decode cX7_addStep 10 = .ok (.ireturn, 1) := by decide +kernel
theorem dX7_addStep_11 : decode cX7_addStep 11 = .ok (.aload_n 0, 1) := by decide +kernel
theorem dX7_addStep_12 : decode cX7_addStep 12 = .ok (.getfield 11, 3) := by decide +kernel
theorem dX7_addStep_15 : decode cX7_addStep 15 = .ok (.aload_n 0, 1) := by decide +kernel
theorem dX7_addStep_16 : decode cX7_addStep 16 = .ok (.getfield 24, 3) := by decide +kernel
theorem dX7_addStep_19 : decode cX7_addStep 19 = .ok (.iload_n 1, 1) := by decide +kernel
theorem dX7_addStep_20 : decode cX7_addStep 20 = .ok (.iastore, 1) := by decide +kernel
theorem dX7_addStep_21 : decode cX7_addStep 21 = .ok (.aload_n 0, 1) := by decide +kernel
theorem dX7_addStep_22 : decode cX7_addStep 22 = .ok (.getfield 15, 3) := by decide +kernel
theorem dX7_addStep_25 : decode cX7_addStep 25 = .ok (.aload_n 0, 1) := by decide +kernel
theorem dX7_addStep_26 : decode cX7_addStep 26 = .ok (.getfield 24, 3) := by decide +kernel
theorem dX7_addStep_29 : decode cX7_addStep 29 = .ok (.iload_n 2, 1) := by decide +kernel
theorem dX7_addStep_30 : decode cX7_addStep 30 = .ok (.iastore, 1) := by decide +kernel
theorem dX7_addStep_31 : decode cX7_addStep 31 = .ok (.aload_n 0, 1) := by decide +kernel
theorem dX7_addStep_32 : decode cX7_addStep 32 = .ok (.getfield 18, 3) := by decide +kernel
theorem dX7_addStep_35 : decode cX7_addStep 35 = .ok (.aload_n 0, 1) := by decide +kernel
theorem dX7_addStep_36 : decode cX7_addStep 36 = .ok (.getfield 24, 3) := by decide +kernel
theorem dX7_addStep_39 : decode cX7_addStep 39 = .ok (.iload_n 3, 1) := by decide +kernel
theorem dX7_addStep_40 : decode cX7_addStep 40 = .ok (.iastore, 1) := by decide +kernel
theorem dX7_addStep_41 : decode cX7_addStep 41 = .ok (.aload_n 0, 1) := by decide +kernel
theorem dX7_addStep_42 : decode cX7_addStep 42 = .ok (.dup, 1) := by decide +kernel
theorem dX7_addStep_43 : decode cX7_addStep 43 = .ok (.getfield 24, 3) := by decide +kernel
theorem dX7_addStep_46 : decode cX7_addStep 46 = .ok (.iconst 1, 1) := by decide +kernel
theorem dX7_addStep_47 : decode cX7_addStep 47 = .ok (.iadd, 1) := by decide +kernel
theorem dX7_addStep_48 : decode cX7_addStep 48 = .ok (.putfield 24, 3) := by decide +kernel
theorem dX7_addStep_51 : decode cX7_addStep 51 = .ok (.iconst 1, 1) := by decide +kernel
theorem dX7_addStep_52 : decode cX7_addStep 52 = .ok (.ireturn, 1) := by decide +kernel
theorem dX7_become_0 : decode cX7_become 0 = .ok (.aload_n 1, 1) := by decide +kernel
theorem dX7_become_1 : decode cX7_become 1 = .ok (.getfield 11, 3) := by decide +kernel
theorem dX7_become_4 : decode cX7_become 4 = .ok (.iconst 0, 1) := by decide +kernel
theorem dX7_become_5 : decode cX7_become 5 = .ok (.aload_n 0, 1) := by decide +kernel
theorem dX7_become_6 : decode cX7_become 6 = .ok (.getfield 11, 3) := by decide +kernel
theorem dX7_become_9 : decode cX7_become 9 = .ok (.iconst 0, 1) := by decide +kernel
theorem dX7_become_10 : decode cX7_become 10 = .ok (.bipush 40, 2) := by decide +kernel
theorem dX7_become_12 : decode cX7_become 12 = .ok (.invokestatic 31, 3) := by decide +kernel
theorem dX7_become_15 : decode cX7_become 15 = .ok (.aload_n 1, 1) := by decide +kernel
theorem dX7_become_16 : decode cX7_become 16 = .ok (.getfield 15, 3) := by decide +kernel
theorem dX7_become_19 : decode cX7_become 19 = .ok (.iconst 0, 1) := by decide +kernel
theorem dX7_become_20 : decode cX7_become 20 = .ok (.aload_n 0, 1) := by decide +kernel
theorem dX7_become_21 : decode cX7_become 21 = .ok (.getfield 15, 3) := by decide +kernel
theorem dX7_become_24 : decode cX7_become 24 = .ok (.iconst 0, 1) := by decide +kernel
theorem dX7_become_25 : decode cX7_become 25 = .ok (.bipush 40, 2) := by decide +kernel
theorem dX7_become_27 : decode cX7_become 27 = .ok (.invokestatic 31, 3) := by decide +kernel
theorem dX7_become_30 : decode cX7_become 30 = .ok (.aload_n 1, 1) := by decide +kernel
theorem dX7_become_31 : decode cX7_become 31 = .ok (.getfield 18, 3) := by decide +kernel
theorem dX7_become_34 : decode cX7_become 34 = .ok (.iconst 0, 1) := by decide +kernel
theorem dX7_become_35 : decode cX7_become 35 = .ok (.aload_n 0, 1) := by decide +kernel
theorem dX7_become_36 : decode cX7_become 36 = .ok (.getfield 18, 3) := by decide +kernel
theorem dX7_become_39 : decode cX7_become 39 = .ok (.iconst 0, 1) := by decide +kernel
theorem dX7_become_40 : decode cX7_become 40 = .ok (.bipush 40, 2) := by decide +kernel
theorem dX7_become_42 : decode cX7_become 42 = .ok (.invokestatic 31, 3) := by decide +kernel
theorem dX7_become_45 : decode cX7_become 45 = .ok (.aload_n 0, 1) := by decide +kernel
theorem dX7_become_46 : decode cX7_become 46 = .ok (.aload_n 1, 1) := by decide +kernel
theorem dX7_become_47 : decode cX7_become 47 = .ok (.getfield 24, 3) := by decide +kernel
theorem dX7_become_50 : decode cX7_become 50 = .ok (.putfield 24, 3) := by decide +kernel
theorem dX7_become_53 : decode cX7_become 53 = .ok (.aload_n 0, 1) := by decide +kernel
theorem dX7_become_54 : decode cX7_become 54 = .ok (.aload_n 1, 1) := by decide +kernel
theorem dX7_become_55 : decode cX7_become 55 = .ok (.getfield 28, 3) := by decide +kernel
theorem dX7_become_58 : decode cX7_become 58 = .ok (.putfield 28, 3) := by decide +kernel
theorem dX7_become_61 : decode cX7_become 61 = .ok (.return_, 1) := by decide +kernel
theorem dX7_beginsOne_0 : decode cX7_beginsOne 0 = .ok (.iload_n 0, 1) := by decide +kernel
theorem dX7_beginsOne_1 : decode cX7_beginsOne 1 = .ok (.bipush 40, 2) := by decide +kernel
theorem dX7_beginsOne_3 : decode cX7_beginsOne 3 = .ok (.if_icmp .eq 20, 3) := by decide +kernel
theorem dX7_beginsOne_6 : decode cX7_beginsOne 6 = .ok (.iload_n 0, 1) := by decide +kernel
theorem dX7_beginsOne_7 : decode cX7_beginsOne 7 = .ok (.iconst 5, 1) := by decide +kernel
theorem dX7_beginsOne_8 : decode cX7_beginsOne 8 = .ok (.if_icmp .eq 15, 3) := by decide +kernel
theorem dX7_beginsOne_11 : decode cX7_beginsOne 11 = .ok (.iload_n 0, 1) := by decide +kernel
theorem dX7_beginsOne_12 : decode cX7_beginsOne 12 = .ok (.bipush 19, 2) := by decide +kernel
theorem dX7_beginsOne_14 : decode cX7_beginsOne 14 = .ok (.if_icmp .lt 13, 3) := by decide +kernel
theorem dX7_beginsOne_17 : decode cX7_beginsOne 17 = .ok (.iload_n 0, 1) := by decide +kernel
theorem dX7_beginsOne_18 : decode cX7_beginsOne 18 = .ok (.bipush 27, 2) := by decide +kernel
theorem dX7_beginsOne_20 : decode cX7_beginsOne 20 = .ok (.if_icmp .gt 7, 3) := by decide +kernel
theorem dX7_beginsOne_23 : decode cX7_beginsOne 23 = .ok (.iconst 1, 1) := by decide +kernel
theorem dX7_beginsOne_24 : decode cX7_beginsOne 24 = .ok (.goto 4, 3) := by decide +kernel
theorem dX7_beginsOne_27 : decode cX7_beginsOne 27 = .ok (.iconst 0, 1) := by decide +kernel
theorem dX7_beginsOne_28 : decode cX7_beginsOne 28 = .ok (.ireturn, 1) := by decide +kernel
theorem dX7_readPlainOne_0 : decode cX7_readPlainOne 0 = .ok (.iload_n 3, 1) := by decide +kernel
theorem dX7_readPlainOne_1 : decode cX7_readPlainOne 1 = .ok (.iconst 5, 1) := by decide +kernel
theorem dX7_readPlainOne_2 : decode cX7_readPlainOne 2 = .ok (.if_icmp .ne 40, 3) := by decide +kernel
theorem dX7_readPlainOne_5 : decode cX7_readPlainOne 5 = .ok (.aload_n 1, 1) := by decide +kernel
theorem dX7_readPlainOne_6 : decode cX7_readPlainOne 6 = .ok (.aload_n 2, 1) := by decide +kernel
theorem dX7_readPlainOne_7 : decode cX7_readPlainOne 7 = .ok (.aload_n 1, 1) := by decide +kernel
theorem dX7_readPlainOne_8 : decode cX7_readPlainOne 8 = .ok (.getfield 79, 3) := by decide +kernel
theorem dX7_readPlainOne_11 : decode cX7_readPlainOne 11 = .ok (.invokevirtual 83, 3) := by decide +kernel
theorem dX7_readPlainOne_14 : decode cX7_readPlainOne 14 = .ok (.invokevirtual 89, 3) := by decide +kernel
theorem dX7_readPlainOne_17 : decode cX7_readPlainOne 17 = .ok (.istore 4, 2) := by decide +kernel
theorem dX7_readPlainOne_19 : decode cX7_readPlainOne 19 = .ok (.iload 4, 2) := by decide +kernel
theorem dX7_readPlainOne_21 : decode cX7_readPlainOne 21 = .ok (.iconst (-1), 1) := by decide +kernel
theorem dX7_readPlainOne_22 : decode cX7_readPlainOne 22 = .ok (.if_icmp .eq 18, 3) := by decide +kernel
theorem dX7_readPlainOne_25 : decode cX7_readPlainOne 25 = .ok (.aload_n 0, 1) := by decide +kernel
theorem dX7_readPlainOne_26 : decode cX7_readPlainOne 26 = .ok (.iload_n 3, 1) := by decide +kernel
theorem dX7_readPlainOne_27 : decode cX7_readPlainOne 27 = .ok (.iconst 0, 1) := by decide +kernel
theorem dX7_readPlainOne_28 : decode cX7_readPlainOne 28 = .ok (.iload 4, 2) := by decide +kernel
theorem dX7_readPlainOne_30 : decode cX7_readPlainOne 30 = .ok (.invokevirtual 63, 3) := by decide +kernel
theorem dX7_readPlainOne_33 : decode cX7_readPlainOne 33 = .ok (.ifCond .eq 7, 3) := by decide +kernel
theorem dX7_readPlainOne_36 : decode cX7_readPlainOne 36 = .ok (.iconst 1, 1) := by decide +kernel
theorem dX7_readPlainOne_37 : decode cX7_readPlainOne 37 = .ok (.goto 4, 3) := by decide +kernel
theorem dX7_readPlainOne_40 : decode cX7_readPlainOne 40 = .ok (.iconst 0, 1) := by decide +kernel
theorem dX7_readPlainOne_41 : decode cX7_readPlainOne 41 = .ok (.ireturn, 1) := by decide +kernel
theorem dX7_readPlainOne_42 : decode cX7_readPlainOne 42 = .ok (.iload_n 3, 1) := by decide +kernel
theorem dX7_readPlainOne_43 : decode cX7_readPlainOne 43 = .ok (.bipush 23, 2) := by decide +kernel
theorem dX7_readPlainOne_45 : decode cX7_readPlainOne 45 = .ok (.if_icmp .ne 40, 3) := by decide +kernel
theorem dX7_readPlainOne_48 : decode cX7_readPlainOne 48 = .ok (.aload_n 1, 1) := by decide +kernel
theorem dX7_readPlainOne_49 : decode cX7_readPlainOne 49 = .ok (.aload_n 2, 1) := by decide +kernel
theorem dX7_readPlainOne_50 : decode cX7_readPlainOne 50 = .ok (.aload_n 1, 1) := by decide +kernel
theorem dX7_readPlainOne_51 : decode cX7_readPlainOne 51 = .ok (.getfield 79, 3) := by decide +kernel
theorem dX7_readPlainOne_54 : decode cX7_readPlainOne 54 = .ok (.invokevirtual 93, 3) := by decide +kernel
theorem dX7_readPlainOne_57 : decode cX7_readPlainOne 57 = .ok (.invokevirtual 89, 3) := by decide +kernel
theorem dX7_readPlainOne_60 : decode cX7_readPlainOne 60 = .ok (.istore 4, 2) := by decide +kernel
theorem dX7_readPlainOne_62 : decode cX7_readPlainOne 62 = .ok (.iload 4, 2) := by decide +kernel
theorem dX7_readPlainOne_64 : decode cX7_readPlainOne 64 = .ok (.iconst (-1), 1) := by decide +kernel
theorem dX7_readPlainOne_65 : decode cX7_readPlainOne 65 = .ok (.if_icmp .eq 18, 3) := by decide +kernel
theorem dX7_readPlainOne_68 : decode cX7_readPlainOne 68 = .ok (.aload_n 0, 1) := by decide +kernel
theorem dX7_readPlainOne_69 : decode cX7_readPlainOne 69 = .ok (.iload_n 3, 1) := by decide +kernel
theorem dX7_readPlainOne_70 : decode cX7_readPlainOne 70 = .ok (.iconst 0, 1) := by decide +kernel
theorem dX7_readPlainOne_71 : decode cX7_readPlainOne 71 = .ok (.iload 4, 2) := by decide +kernel
theorem dX7_readPlainOne_73 : decode cX7_readPlainOne 73 = .ok (.invokevirtual 63, 3) := by decide +kernel
theorem dX7_readPlainOne_76 : decode cX7_readPlainOne 76 = .ok (.ifCond .eq 7, 3) := by decide +kernel
theorem dX7_readPlainOne_79 : decode cX7_readPlainOne 79 = .ok (.iconst 1, 1) := by decide +kernel
theorem dX7_readPlainOne_80 : decode cX7_readPlainOne 80 = .ok (.goto 4, 3) := by decide +kernel
theorem dX7_readPlainOne_83 : decode cX7_readPlainOne 83 = .ok (.iconst 0, 1) := by decide +kernel
theorem dX7_readPlainOne_84 : decode cX7_readPlainOne 84 = .ok (.ireturn, 1) := by decide +kernel
theorem dX7_readPlainOne_85 : decode cX7_readPlainOne 85 = .ok (.iload_n 3, 1) := by decide +kernel
theorem dX7_readPlainOne_86 : decode cX7_readPlainOne 86 = .ok (.bipush 23, 2) := by decide +kernel
theorem dX7_readPlainOne_88 : decode cX7_readPlainOne 88 = .ok (.if_icmp .ge 11, 3) := by decide +kernel
theorem dX7_readPlainOne_91 : decode cX7_readPlainOne 91 = .ok (.aload_n 0, 1) := by decide +kernel
theorem dX7_readPlainOne_92 : decode cX7_readPlainOne 92 = .ok (.iload_n 3, 1) := by decide +kernel
theorem dX7_readPlainOne_93 : decode cX7_readPlainOne 93 = .ok (.iconst 0, 1) := by decide +kernel
theorem dX7_readPlainOne_94 : decode cX7_readPlainOne 94 = .ok (.iconst 0, 1) := by decide +kernel
theorem dX7_readPlainOne_95 : decode cX7_readPlainOne 95 = .ok (.invokevirtual 63, 3) := by decide +kernel
theorem dX7_readPlainOne_98 : decode cX7_readPlainOne 98 = .ok (.ireturn, 1) := by decide +kernel
theorem dX7_readPlainOne_99 : decode cX7_readPlainOne 99 = .ok (.aload_n 1, 1) := by decide +kernel
theorem dX7_readPlainOne_100 : decode cX7_readPlainOne 100 = .ok (.getfield 57, 3) := by decide +kernel
theorem dX7_readPlainOne_103 : decode cX7_readPlainOne 103 = .ok (.istore 4, 2) := by decide +kernel
theorem dX7_readPlainOne_105 : decode cX7_readPlainOne 105 = .ok (.iload 4, 2) := by decide +kernel
theorem dX7_readPlainOne_107 : decode cX7_readPlainOne 107 = .ok (.bipush 60, 2) := by decide +kernel
theorem dX7_readPlainOne_109 : decode cX7_readPlainOne 109 = .ok (.if_icmp .eq 23, 3) := by decide +kernel
theorem dX7_readPlainOne_112 : decode cX7_readPlainOne 112 = .ok (.iload 4, 2) := by decide +kernel
theorem dX7_readPlainOne_114 : decode cX7_readPlainOne 114 = .ok (.bipush 61, 2) := by decide +kernel
theorem dX7_readPlainOne_116 : decode cX7_readPlainOne 116 = .ok (.if_icmp .eq 16, 3) := by decide +kernel
theorem dX7_readPlainOne_119 : decode cX7_readPlainOne 119 = .ok (.iload 4, 2) := by decide +kernel
theorem dX7_readPlainOne_121 : decode cX7_readPlainOne 121 = .ok (.bipush 62, 2) := by decide +kernel
theorem dX7_readPlainOne_123 : decode cX7_readPlainOne 123 = .ok (.if_icmp .eq 9, 3) := by decide +kernel
theorem dX7_readPlainOne_126 : decode cX7_readPlainOne 126 = .ok (.aload_n 1, 1) := by decide +kernel
theorem dX7_readPlainOne_127 : decode cX7_readPlainOne 127 = .ok (.iconst 1, 1) := by decide +kernel
theorem dX7_readPlainOne_128 : decode cX7_readPlainOne 128 = .ok (.invokevirtual 73, 3) := by decide +kernel
theorem dX7_readPlainOne_131 : decode cX7_readPlainOne 131 = .ok (.ireturn, 1) := by decide +kernel
theorem dX7_readPlainOne_132 : decode cX7_readPlainOne 132 = .ok (.aload_n 1, 1) := by decide +kernel
theorem dX7_readPlainOne_133 : decode cX7_readPlainOne 133 = .ok (.invokevirtual 60, 3) := by decide +kernel
theorem dX7_readPlainOne_136 : decode cX7_readPlainOne 136 = .ok (.aload_n 1, 1) := by decide +kernel
theorem dX7_readPlainOne_137 : decode cX7_readPlainOne 137 = .ok (.iconst 0, 1) := by decide +kernel
theorem dX7_readPlainOne_138 : decode cX7_readPlainOne 138 = .ok (.sipush 999, 3) := by decide +kernel
theorem dX7_readPlainOne_141 : decode cX7_readPlainOne 141 = .ok (.invokevirtual 96, 3) := by decide +kernel
theorem dX7_readPlainOne_144 : decode cX7_readPlainOne 144 = .ok (.istore 5, 2) := by decide +kernel
theorem dX7_readPlainOne_146 : decode cX7_readPlainOne 146 = .ok (.iload 5, 2) := by decide +kernel
theorem dX7_readPlainOne_148 : decode cX7_readPlainOne 148 = .ok (.iconst (-1), 1) := by decide +kernel
theorem dX7_readPlainOne_149 : decode cX7_readPlainOne 149 = .ok (.if_icmp .eq 19, 3) := by decide +kernel
theorem dX7_readPlainOne_152 : decode cX7_readPlainOne 152 = .ok (.aload_n 0, 1) := by decide +kernel
theorem dX7_readPlainOne_153 : decode cX7_readPlainOne 153 = .ok (.iload_n 3, 1) := by decide +kernel
theorem dX7_readPlainOne_154 : decode cX7_readPlainOne 154 = .ok (.iload 4, 2) := by decide +kernel
theorem dX7_readPlainOne_156 : decode cX7_readPlainOne 156 = .ok (.iload 5, 2) := by decide +kernel
theorem dX7_readPlainOne_158 : decode cX7_readPlainOne 158 = .ok (.invokevirtual 63, 3) := by decide +kernel
theorem dX7_readPlainOne_161 : decode cX7_readPlainOne 161 = .ok (.ifCond .eq 7, 3) := by decide +kernel
theorem dX7_readPlainOne_164 : decode cX7_readPlainOne 164 = .ok (.iconst 1, 1) := by decide +kernel
theorem dX7_readPlainOne_165 : decode cX7_readPlainOne 165 = .ok (.goto 4, 3) := by decide +kernel
theorem dX7_readPlainOne_168 : decode cX7_readPlainOne 168 = .ok (.iconst 0, 1) := by decide +kernel
theorem dX7_readPlainOne_169 : decode cX7_readPlainOne 169 = .ok (.ireturn, 1) := by decide +kernel
theorem dX8_stepsBetween_0 : decode cX8_stepsBetween 0 = .ok (.iload_n 1, 1) := by decide +kernel
theorem dX8_stepsBetween_1 : decode cX8_stepsBetween 1 = .ok (.istore_n 3, 1) := by decide +kernel
theorem dX8_stepsBetween_2 : decode cX8_stepsBetween 2 = .ok (.iload_n 2, 1) := by decide +kernel
theorem dX8_stepsBetween_3 : decode cX8_stepsBetween 3 = .ok (.istore 4, 2) := by decide +kernel
theorem dX8_stepsBetween_5 : decode cX8_stepsBetween 5 = .ok (.iconst 0, 1) := by decide +kernel
theorem dX8_stepsBetween_6 : decode cX8_stepsBetween 6 = .ok (.istore 5, 2) := by decide +kernel
theorem dX8_stepsBetween_8 : decode cX8_stepsBetween 8 = .ok (.iload_n 3, 1) := by decide +kernel
theorem dX8_stepsBetween_9 : decode cX8_stepsBetween 9 = .ok (.iload 4, 2) := by decide +kernel
theorem dX8_stepsBetween_11 : decode cX8_stepsBetween 11 = .ok (.if_icmp .eq 56, 3) := by decide +kernel
theorem dX8_stepsBetween_14 : decode cX8_stepsBetween 14 = .ok (.iload 5, 2) := by decide +kernel
theorem dX8_stepsBetween_16 : decode cX8_stepsBetween 16 = .ok (.bipush 14, 2) := by decide +kernel
theorem dX8_stepsBetween_18 : decode cX8_stepsBetween 18 = .ok (.if_icmp .ge 49, 3) := by decide +kernel
theorem dX8_stepsBetween_21 : decode cX8_stepsBetween 21 = .ok (.iload_n 3, 1) := by decide +kernel
theorem dX8_stepsBetween_22 : decode cX8_stepsBetween 22 = .ok (.iload 4, 2) := by decide +kernel
theorem dX8_stepsBetween_24 : decode cX8_stepsBetween 24 = .ok (.invokestatic 47, 3) := by decide +kernel
theorem dX8_stepsBetween_27 : decode cX8_stepsBetween 27 = .ok (.istore 6, 2) := by decide +kernel
theorem dX8_stepsBetween_29 : decode cX8_stepsBetween 29 = .ok (.iload_n 3, 1) := by decide +kernel
theorem dX8_stepsBetween_30 : decode cX8_stepsBetween 30 = .ok (.iload 4, 2) := by decide +kernel
theorem dX8_stepsBetween_32 : decode cX8_stepsBetween 32 = .ok (.invokestatic 53, 3) := by decide +kernel
theorem dX8_stepsBetween_35 : decode cX8_stepsBetween 35 = .ok (.istore 4, 2) := by decide +kernel
theorem dX8_stepsBetween_37 : decode cX8_stepsBetween 37 = .ok (.iload 6, 2) := by decide +kernel
theorem dX8_stepsBetween_39 : decode cX8_stepsBetween 39 = .ok (.ifCond .lt 13, 3) := by decide +kernel
theorem dX8_stepsBetween_42 : decode cX8_stepsBetween 42 = .ok (.aload_n 0, 1) := by decide +kernel
theorem dX8_stepsBetween_43 : decode cX8_stepsBetween 43 = .ok (.getfield 19, 3) := by decide +kernel
theorem dX8_stepsBetween_46 : decode cX8_stepsBetween 46 = .ok (.iload 6, 2) := by decide +kernel
theorem dX8_stepsBetween_48 : decode cX8_stepsBetween 48 = .ok (.iaload, 1) := by decide +kernel
theorem dX8_stepsBetween_49 : decode cX8_stepsBetween 49 = .ok (.goto 4, 3) := by decide +kernel
theorem dX8_stepsBetween_53 : decode cX8_stepsBetween 53 = .ok (.istore_n 3, 1) := by decide +kernel
theorem dX8_stepsBetween_54 : decode cX8_stepsBetween 54 = .ok (.iload_n 3, 1) := by decide +kernel
theorem dX8_stepsBetween_55 : decode cX8_stepsBetween 55 = .ok (.iconst (-1), 1) := by decide +kernel
theorem dX8_stepsBetween_56 : decode cX8_stepsBetween 56 = .ok (.if_icmp .ne 5, 3) := by decide +kernel
theorem dX8_stepsBetween_59 : decode cX8_stepsBetween 59 = .ok (.iconst (-1), 1) := by decide +kernel
theorem dX8_stepsBetween_60 : decode cX8_stepsBetween 60 = .ok (.ireturn, 1) := by decide +kernel
theorem dX8_stepsBetween_61 : decode cX8_stepsBetween 61 = .ok (.iinc 5 1, 3) := by decide +kernel
theorem dX8_stepsBetween_64 : decode cX8_stepsBetween 64 = .ok (.goto (-56), 3) := by decide +kernel
theorem dX8_stepsBetween_67 : decode cX8_stepsBetween 67 = .ok (.iload 5, 2) := by decide +kernel
theorem dX8_stepsBetween_69 : decode cX8_stepsBetween 69 = .ok (.ireturn, 1) := by decide +kernel
theorem rc_14 : Rg 14 14 14 := ⟨by decide, by decide⟩
theorem rc_19 : Rg 19 19 19 := ⟨by decide, by decide⟩
theorem rc_23 : Rg 23 23 23 := ⟨by decide, by decide⟩
theorem rc_27 : Rg 27 27 27 := ⟨by decide, by decide⟩
theorem rc_31 : Rg 31 31 31 := ⟨by decide, by decide⟩
theorem rc_60 : Rg 60 60 60 := ⟨by decide, by decide⟩
theorem rc_61 : Rg 61 61 61 := ⟨by decide, by decide⟩
theorem rc_999 : Rg 999 999 999 := ⟨by decide, by decide⟩
theorem rc_12345 : Rg 12345 12345 12345 := ⟨by decide, by decide⟩
theorem rc_1103515245 : Rg 1103515245 1103515245 1103515245 := ⟨by decide, by decide⟩
set_option maxRecDepth 100000 in
set_option maxHeartbeats 8000000 in
theorem c_X11_seatAt {l : Launch} {D : va_G} {cy : Nat → ClassId} {L : List Nat} {κ ln : Nat → Nat} {R : Nat → Nat → Option Nat} {I : Nat → Nat → Int32} {J : Nat → Nat → Int64} {ow : Nat → Nat × Nat} (W9 : ∀ a ∈ L, Shp L κ ln R ow a) {x : Nat} (hLx : x ∈ L) (hkx : κ x = 11) (a0 : Int32) (hU : Uv L κ ow I) : CtI l yX11_seatAt cX11_seatAt 2 (some .int) { frames := 0, cells := 0, slots := 0, locals := 0 } D cy L κ ln R I J [.ref x, .int a0] (fun r I2 J2 => I = I2 ∧ J = J2 ∧ Rg (-2147483648) 2147483647 r) := by
  refine CtI.of (by decide +kernel) (Nat.le_of_ble_eq_true rfl) ?_
  intro p e s m below meth c B K
  have C := B.1
  obtain ⟨b_414478, hb_414478, hb_414478L, hb_414478k⟩ := shp_o (W9 x hLx) hkx 10 6 rfl (by decide)
  obtain ⟨b_414479, hb_414479, hb_414479L, hb_414479k, hb_414479n, hb_414479o⟩ := shp_a (W9 b_414478 hb_414478L) hb_414478k 0 14 7 rfl (by decide)
  refine g_lo (is := [0, 1]) (lo2 := [(0, .ref x), (1, .int a0)]) rfl ?_
  refine g_iload_n C 1 dX11_seatAt_0 rfl rfl ?_
  refine g_if_lt C (tgt := 27) dX11_seatAt_1 (by decide) (fun h_414480 => ?_) (fun h_414480 => ?_)
  · skip
    have r_414481 := lt_l (hi := (-1)) (h_414480) (rg_all a0) rc_0 (by decide)
    refine g_iconst C (v := (-1)) dX11_seatAt_27 (by decide) ?_
    exact g_zret (ty := .int) (r := (-1)) B K rfl (rfl) ⟨rfl, rfl, rg_all _⟩ dX11_seatAt_28
  · skip
    have r_414482 := le_r (nlt h_414480) rc_0 (rg_all a0)
    refine g_iload_n C 1 dX11_seatAt_4 rfl rfl ?_
    refine g_aload_n C 0 dX11_seatAt_5 rfl rfl ?_
    refine g_getR C K hLx hkx f_11_76 hb_414478 dX11_seatAt_6 ?_
    obtain ⟨x_414483, hx_414483, rx_414483⟩ := ex_get (I := I) (a := b_414478) (j := 1) (lo := 0) (hi := 7) hU hb_414478L (ro_o hb_414478k (by decide)) rfl
    refine g_getI C K hb_414478L hb_414478k f_11_294 (v := x_414483) hx_414483 dX11_seatAt_9 ?_
    refine g_icmp_ge C (tgt := 27) dX11_seatAt_12 (by decide) (fun h_414484 => ?_) (fun h_414484 => ?_)
    · skip
      refine g_iconst C (v := (-1)) dX11_seatAt_27 (by decide) ?_
      exact g_zret (ty := .int) (r := (-1)) B K rfl (rfl) ⟨rfl, rfl, rg_all _⟩ dX11_seatAt_28
    · skip
      have r_414485 := lt_l (hi := 6) (nle h_414484) r_414482 rx_414483 (by decide)
      have r_414486 := lt_r (lo := 1) (nle h_414484) r_414482 rx_414483 (by decide)
      refine g_aload_n C 0 dX11_seatAt_15 rfl rfl ?_
      refine g_getR C K hLx hkx f_11_76 hb_414478 dX11_seatAt_16 ?_
      refine g_getR C K hb_414478L hb_414478k f_11_295 hb_414479 dX11_seatAt_19 ?_
      refine g_iload_n C 1 dX11_seatAt_22 rfl rfl ?_
      obtain ⟨x_414487, hx_414487, rx_414487⟩ := ex_get (I := I) (a := b_414479) (j := a0.toNatClampNeg) (lo := (-2147483648)) (hi := 2147483647) hU hb_414479L (ro_a hb_414479k (by decide) hb_414479o hb_414478k rfl) (rfl)
      refine h_iald C K hb_414479L hb_414479k (v := x_414487) (a0.toNatClampNeg) (rfl) (ix_0 r_414485 (by decide)) (ix_lt r_414485 (by decide) hb_414479n (by decide)) hx_414487 dX11_seatAt_23 ?_
      refine g_goto C (tgt := 28) dX11_seatAt_24 (by decide) ?_
      exact g_zret (ty := .int) (r := x_414487) B K rfl (rfl) ⟨rfl, rfl, rx_414487⟩ dX11_seatAt_28
set_option maxRecDepth 100000 in
set_option maxHeartbeats 8000000 in
theorem c_X8_stepsBetween {l : Launch} {D : va_G} {cy : Nat → ClassId} {L : List Nat} {κ ln : Nat → Nat} {R : Nat → Nat → Option Nat} {I : Nat → Nat → Int32} {J : Nat → Nat → Int64} {ow : Nat → Nat × Nat} (W9 : ∀ a ∈ L, Shp L κ ln R ow a) {x : Nat} (hLx : x ∈ L) (hkx : κ x = 8) (a0 : Int32) (a1 : Int32) (ra0 : Rg 0 6 a0) (ra1 : Rg 0 6 a1) (hU : Uv L κ ow I) : CtI l yX8_stepsBetween cX8_stepsBetween 7 (some .int) { frames := 1, cells := 0, slots := 0, locals := 60 } D cy L κ ln R I J [.ref x, .int a0, .int a1] (fun r I2 J2 => I = I2 ∧ J = J2 ∧ Rg (-1) 14 r) := by
  refine CtI.of (by decide +kernel) (Nat.le_of_ble_eq_true rfl) ?_
  intro p e s m below meth c B K
  have C := B.1
  obtain ⟨b_414671, hb_414671, hb_414671L, hb_414671k, hb_414671n, hb_414671o⟩ := shp_a (W9 x hLx) hkx 2 14 7 rfl (by decide)
  refine g_lo (is := [0, 1, 2]) (lo2 := [(0, .ref x), (1, .int a0), (2, .int a1)]) rfl ?_
  have l_8 : ∀ (n_8 : Nat) (v_414672 : Int32) (rv_414672 : Rg 0 6 v_414672) (v_414673 : Int32) (rv_414673 : Rg 0 6 v_414673) (v_414674 : Int32) (rv_414674 : Rg 0 6 v_414674) (nv_414674_m1 : ¬ v_414674 = (-1)) (v_414675 : Int32) (rv_414675 : Rg 0 6 v_414675) (v_414676 : Int32) (rv_414676 : Rg 0 14 v_414676) (hm_414677 : 14 < (v_414676 : Int32).toInt + (n_8 : Int)), WG p l e { frames := 1, cells := 0, slots := 0, locals := 60 } s m ([.ref x, .int a0, .int a1] : List Value).toArray below meth c 7 0 0 (MQ below (Qi_ D cy L κ ln R (fun r I2 J2 => I = I2 ∧ J = J2 ∧ Rg (-1) 14 r)) ([.ref x, .int a0, .int a1] : List Value).toArray s 0 0 (Al_ L)) D cy (Al_ L) s.heap L κ ln R I J 8 [(0, .ref x), (1, .int v_414672), (2, .int v_414673), (3, .int v_414674), (4, .int v_414675), (5, .int v_414676)] [] := by
    intro n_8
    induction n_8 with
    | zero =>
      intro v_414672 rv_414672 v_414673 rv_414673 v_414674 rv_414674 nv_414674_m1 v_414675 rv_414675 v_414676 rv_414676 hm_414677
      exact ms_0 rv_414676 hm_414677
    | succ n_8 ih_8 =>
      intro v_414672 rv_414672 v_414673 rv_414673 v_414674 rv_414674 nv_414674_m1 v_414675 rv_414675 v_414676 rv_414676 hm_414677
      refine g_iload_n C 3 dX8_stepsBetween_8 rfl rfl ?_
      refine g_iload C 4 dX8_stepsBetween_9 rfl ?_
      refine g_icmp_eq C (tgt := 67) dX8_stepsBetween_11 (by decide) (fun h_414678 => ?_) (fun h_414678 => ?_)
      · skip
        refine g_iload C 5 dX8_stepsBetween_67 rfl ?_
        exact g_zret (ty := .int) (r := v_414676) B K rfl (rfl) ⟨rfl, rfl, rg_w rv_414676 (by decide) (by decide)⟩ dX8_stepsBetween_69
      · skip
        refine g_iload C 5 dX8_stepsBetween_14 rfl ?_
        refine g_bipush C (v := 14) dX8_stepsBetween_16 (by decide) ?_
        refine g_icmp_ge C (tgt := 67) dX8_stepsBetween_18 (by decide) (fun h_414679 => ?_) (fun h_414679 => ?_)
        · skip
          have r_414680 := le_r (h_414679) rc_14 rv_414676
          refine g_iload C 5 dX8_stepsBetween_67 rfl ?_
          exact g_zret (ty := .int) (r := v_414676) B K rfl (rfl) ⟨rfl, rfl, rg_w r_414680 (by decide) (by decide)⟩ dX8_stepsBetween_69
        · skip
          have r_414681 := lt_l (hi := 13) (nle h_414679) rv_414676 rc_14 (by decide)
          refine g_iload_n C 3 dX8_stepsBetween_21 rfl rfl ?_
          refine g_iload C 4 dX8_stepsBetween_22 rfl ?_
          obtain ⟨x_414682, hx_414682, rx_414682⟩ := ex_max 0 6 rv_414674 rv_414675 (by decide) (by decide) (by decide)
          refine g_mmax C (v := x_414682) mw_8_47 w_max (Nat.le_of_ble_eq_true rfl) (Nat.le_of_ble_eq_true rfl) ⟨Nat.le_of_ble_eq_true rfl, Nat.le_of_ble_eq_true rfl⟩ (hx_414682) dX8_stepsBetween_24 ?_
          refine g_istore C dX8_stepsBetween_27 (by decide) (lo2 := [(6, .int x_414682), (0, .ref x), (1, .int v_414672), (2, .int v_414673), (3, .int v_414674), (4, .int v_414675), (5, .int v_414676)]) rfl ?_
          refine g_iload_n C 4 dX8_stepsBetween_29 rfl rfl ?_
          refine g_iload C 5 dX8_stepsBetween_30 rfl ?_
          obtain ⟨x_414683, hx_414683, rx_414683⟩ := ex_min 0 6 rv_414674 rv_414675 (by decide) (by decide) (by decide)
          refine g_mmin C (v := x_414683) mw_8_53 w_min (Nat.le_of_ble_eq_true rfl) (Nat.le_of_ble_eq_true rfl) ⟨Nat.le_of_ble_eq_true rfl, Nat.le_of_ble_eq_true rfl⟩ (hx_414683) dX8_stepsBetween_32 ?_
          refine g_istore C dX8_stepsBetween_35 (by decide) (lo2 := [(4, .int x_414683), (6, .int x_414682), (0, .ref x), (1, .int v_414672), (2, .int v_414673), (3, .int v_414674), (5, .int v_414676)]) rfl ?_
          refine g_iload C 1 dX8_stepsBetween_37 rfl ?_
          refine g_if_lt C (tgt := 52) dX8_stepsBetween_39 (by decide) (fun h_414684 => ?_) (fun h_414684 => ?_)
          · skip
            have r_414685 := lt_l (hi := (-1)) (h_414684) rx_414682 rc_0 (by decide)
            exact rg_no r_414685 (by decide)
          · skip
            refine g_aload_n C 2 dX8_stepsBetween_42 rfl rfl ?_
            refine g_getR C K hLx hkx f_8_19 hb_414671 dX8_stepsBetween_43 ?_
            refine g_iload C 1 dX8_stepsBetween_46 rfl ?_
            obtain ⟨x_414686, hx_414686, rx_414686⟩ := ex_get (I := I) (a := b_414671) (j := x_414682.toNatClampNeg) (lo := (-1)) (hi := 6) hU hb_414671L (ro_a hb_414671k (by decide) hb_414671o hkx rfl) (rfl)
            refine h_iald C K hb_414671L hb_414671k (v := x_414686) (x_414682.toNatClampNeg) (rfl) (ix_0 rx_414682 (by decide)) (ix_lt rx_414682 (by decide) hb_414671n (by decide)) hx_414686 dX8_stepsBetween_48 ?_
            refine g_goto C (tgt := 53) dX8_stepsBetween_49 (by decide) ?_
            refine g_istore_n C dX8_stepsBetween_53 rfl (by decide) (lo2 := [(3, .int x_414686), (4, .int x_414683), (6, .int x_414682), (0, .ref x), (1, .int v_414672), (2, .int v_414673), (5, .int v_414676)]) rfl ?_
            refine g_iload_n C 0 dX8_stepsBetween_54 rfl rfl ?_
            refine g_iconst C (v := (-1)) dX8_stepsBetween_55 (by decide) ?_
            refine g_icmp_ne C (tgt := 61) dX8_stepsBetween_56 (by decide) (fun h_414687 => ?_) (fun h_414687 => ?_)
            · skip
              have n_414688 : ¬ x_414686 = (-1) := h_414687
              have r_414689 := ne_lo (lo := 0) n_414688 rx_414686 rc_m1 rfl (by decide)
              obtain ⟨x_414690, hx_414690, rx_414690, tx_414690⟩ := ex_add (y := 1) 1 14 r_414681 rc_1 (by decide) (by decide) (by decide) (by decide)
              refine g_iinc C dX8_stepsBetween_61 (k := 6) (v := x_414690) rfl hx_414690 (by decide) (lo2 := [(5, .int x_414690), (3, .int x_414686), (4, .int x_414683), (6, .int x_414682), (0, .ref x), (1, .int v_414672), (2, .int v_414673)]) rfl ?_
              refine g_goto C (tgt := 8) dX8_stepsBetween_64 (by decide) ?_
              refine g_lo (is := [4, 5, 6, 1, 2, 0]) (lo2 := [(0, .ref x), (1, .int v_414672), (2, .int v_414673), (3, .int x_414686), (4, .int x_414683), (5, .int x_414690)]) rfl ?_
              exact ih_8 v_414672 (rv_414672) v_414673 (rv_414673) x_414686 (r_414689) (n_414688) x_414683 (rx_414683) x_414690 (rg_w rx_414690 (by decide) (by decide)) (ms_1 hm_414677 (ti_k tx_414690 rc_1) (by decide))
            · skip
              have r_414691 := (⟨(rx_414686).1, (eq_rg (h_414687) rc_m1).2⟩ : Rg (-1) (-1) x_414686)
              refine g_iconst C (v := (-1)) dX8_stepsBetween_59 (by decide) ?_
              exact g_zret (ty := .int) (r := (-1)) B K rfl (rfl) ⟨rfl, rfl, rg_w rc_m1 (by decide) (by decide)⟩ dX8_stepsBetween_60
  refine g_iload_n C 1 dX8_stepsBetween_0 rfl rfl ?_
  refine g_istore_n C dX8_stepsBetween_1 rfl (by decide) (lo2 := [(3, .int a0), (0, .ref x), (1, .int a0), (2, .int a1)]) rfl ?_
  refine g_iload_n C 3 dX8_stepsBetween_2 rfl rfl ?_
  refine g_istore C dX8_stepsBetween_3 (by decide) (lo2 := [(4, .int a1), (3, .int a0), (0, .ref x), (1, .int a0), (2, .int a1)]) rfl ?_
  refine g_iconst C (v := 0) dX8_stepsBetween_5 (by decide) ?_
  refine g_istore C dX8_stepsBetween_6 (by decide) (lo2 := [(5, .int 0), (4, .int a1), (3, .int a0), (0, .ref x), (1, .int a0), (2, .int a1)]) rfl ?_
  refine g_lo (is := [3, 4, 5, 2, 1, 0]) (lo2 := [(0, .ref x), (1, .int a0), (2, .int a1), (3, .int a0), (4, .int a1), (5, .int 0)]) rfl ?_
  exact l_8 15 a0 (ra0) a1 (ra1) a0 (ra0) (rg_nek ra0 rc_m1 (by decide)) a1 (ra1) 0 (rg_w rc_0 (by decide) (by decide)) (ms_s (N := 15) (rg_w rc_0 (by decide) (by decide)) (by decide))
set_option maxRecDepth 100000 in
set_option maxHeartbeats 8000000 in
theorem c_X11_kin {l : Launch} {D : va_G} {cy : Nat → ClassId} {L : List Nat} {κ ln : Nat → Nat} {R : Nat → Nat → Option Nat} {I : Nat → Nat → Int32} {J : Nat → Nat → Int64} {ow : Nat → Nat × Nat} (W9 : ∀ a ∈ L, Shp L κ ln R ow a) {x : Nat} (hLx : x ∈ L) (hkx : κ x = 11) (a0 : Int32) (a1 : Int32) (hU : Uv L κ ow I) : CtI l yX11_kin cX11_kin 3 (some .int) { frames := 2, cells := 0, slots := 0, locals := 86 } D cy L κ ln R I J [.ref x, .int a0, .int a1] (fun r I2 J2 => I = I2 ∧ J = J2 ∧ Rg (-1) 14 r) := by
  refine CtI.of (by decide +kernel) (Nat.le_of_ble_eq_true rfl) ?_
  intro p e s m below meth c B K
  have C := B.1
  obtain ⟨b_414738, hb_414738, hb_414738L, hb_414738k⟩ := shp_o (W9 x hLx) hkx 1 8 rfl (by decide)
  refine g_lo (is := [0, 1, 2]) (lo2 := [(0, .ref x), (1, .int a0), (2, .int a1)]) rfl ?_
  refine g_aload_n C 0 dX11_kin_0 rfl rfl ?_
  refine g_getR C K hLx hkx f_11_19 hb_414738 dX11_kin_1 ?_
  refine g_iload_n C 1 dX11_kin_4 rfl rfl ?_
  refine g_callVI C K (c_X8_hasPerson W9 hb_414738L hb_414738k a0  hU) hb_414738L hb_414738k (by decide) rfl v_11_133 rfl ⟨rfl, rfl⟩ ⟨Nat.le_of_ble_eq_true rfl, Nat.le_of_ble_eq_true rfl⟩ (Nat.le_of_ble_eq_true rfl) ⟨Nat.le_of_ble_eq_true rfl, Nat.le_of_ble_eq_true rfl⟩ dX11_kin_5 rfl (st := []) (fun x_414739 I_414740 J_414741 h_414742 => ?_)
  obtain ⟨rfl, rfl, rx_414739, ex_414739⟩ := h_414742
  refine g_if_eq C (tgt := 34) dX11_kin_8 (by decide) (fun h_414743 => ?_) (fun h_414743 => ?_)
  · skip
    have r_414744 := (⟨(rx_414739).1, (eq_rg (h_414743) rc_0).2⟩ : Rg 0 0 x_414739)
    refine g_iconst C (v := (-1)) dX11_kin_34 (by decide) ?_
    exact g_zret (ty := .int) (r := (-1)) B K rfl (rfl) ⟨rfl, rfl, rg_w rc_m1 (by decide) (by decide)⟩ dX11_kin_35
  · skip
    have n_414745 : ¬ x_414739 = 0 := h_414743
    have r_414746 := ne_lo (lo := 1) n_414745 rx_414739 rc_0 rfl (by decide)
    have r_414747 := rg_i (rg_all a0) ((ex_414739) (rg_nz r_414746 (by decide))) (lo := 0) (hi := 6) (by decide) (by decide)
    refine g_aload_n C 0 dX11_kin_11 rfl rfl ?_
    refine g_getR C K hLx hkx f_11_19 hb_414738 dX11_kin_12 ?_
    refine g_iload_n C 2 dX11_kin_15 rfl rfl ?_
    refine g_callVI C K (c_X8_hasPerson W9 hb_414738L hb_414738k a1  hU) hb_414738L hb_414738k (by decide) rfl v_11_133 rfl ⟨rfl, rfl⟩ ⟨Nat.le_of_ble_eq_true rfl, Nat.le_of_ble_eq_true rfl⟩ (Nat.le_of_ble_eq_true rfl) ⟨Nat.le_of_ble_eq_true rfl, Nat.le_of_ble_eq_true rfl⟩ dX11_kin_16 rfl (st := []) (fun x_414748 I_414749 J_414750 h_414751 => ?_)
    obtain ⟨rfl, rfl, rx_414748, ex_414748⟩ := h_414751
    refine g_if_eq C (tgt := 34) dX11_kin_19 (by decide) (fun h_414752 => ?_) (fun h_414752 => ?_)
    · skip
      have r_414753 := (⟨(rx_414748).1, (eq_rg (h_414752) rc_0).2⟩ : Rg 0 0 x_414748)
      refine g_iconst C (v := (-1)) dX11_kin_34 (by decide) ?_
      exact g_zret (ty := .int) (r := (-1)) B K rfl (rfl) ⟨rfl, rfl, rg_w rc_m1 (by decide) (by decide)⟩ dX11_kin_35
    · skip
      have n_414754 : ¬ x_414748 = 0 := h_414752
      have r_414755 := ne_lo (lo := 1) n_414754 rx_414748 rc_0 rfl (by decide)
      have r_414756 := rg_i (rg_all a1) ((ex_414748) (rg_nz r_414755 (by decide))) (lo := 0) (hi := 6) (by decide) (by decide)
      refine g_aload_n C 0 dX11_kin_22 rfl rfl ?_
      refine g_getR C K hLx hkx f_11_19 hb_414738 dX11_kin_23 ?_
      refine g_iload_n C 1 dX11_kin_26 rfl rfl ?_
      refine g_iload_n C 2 dX11_kin_27 rfl rfl ?_
      refine g_callVI C K (c_X8_stepsBetween W9 hb_414738L hb_414738k a0 a1 (r_414747) (r_414756) hU) hb_414738L hb_414738k (by decide) rfl v_11_298 rfl ⟨rfl, rfl⟩ ⟨Nat.le_of_ble_eq_true rfl, Nat.le_of_ble_eq_true rfl⟩ (Nat.le_of_ble_eq_true rfl) ⟨Nat.le_of_ble_eq_true rfl, Nat.le_of_ble_eq_true rfl⟩ dX11_kin_28 rfl (st := []) (fun x_414757 I_414758 J_414759 h_414760 => ?_)
      obtain ⟨rfl, rfl, rx_414757⟩ := h_414760
      refine g_goto C (tgt := 35) dX11_kin_31 (by decide) ?_
      exact g_zret (ty := .int) (r := x_414757) B K rfl (rfl) ⟨rfl, rfl, rx_414757⟩ dX11_kin_35
set_option maxRecDepth 100000 in
set_option maxHeartbeats 8000000 in
theorem c_X11_hungriest {l : Launch} {D : va_G} {cy : Nat → ClassId} {L : List Nat} {κ ln : Nat → Nat} {R : Nat → Nat → Option Nat} {I : Nat → Nat → Int32} {J : Nat → Nat → Int64} {ow : Nat → Nat × Nat} (W9 : ∀ a ∈ L, Shp L κ ln R ow a) {x : Nat} (hLx : x ∈ L) (hkx : κ x = 11) (hU : Uv L κ ow I) : CtI l yX11_hungriest cX11_hungriest 3 (some .int) { frames := 1, cells := 0, slots := 0, locals := 21 } D cy L κ ln R I J [.ref x] (fun r I2 J2 => I = I2 ∧ J = J2 ∧ Rg (-1) 6 r) := by
  refine CtI.of (by decide +kernel) (Nat.le_of_ble_eq_true rfl) ?_
  intro p e s m below meth c B K
  have C := B.1
  obtain ⟨b_414952, hb_414952, hb_414952L, hb_414952k⟩ := shp_o (W9 x hLx) hkx 1 8 rfl (by decide)
  obtain ⟨b_414953, hb_414953, hb_414953L, hb_414953k⟩ := shp_o (W9 x hLx) hkx 2 1 rfl (by decide)
  obtain ⟨b_414954, hb_414954, hb_414954L, hb_414954k, hb_414954n, hb_414954o⟩ := shp_a (W9 b_414953 hb_414953L) hb_414953k 6 14 7 rfl (by decide)
  refine g_lo (is := [0]) (lo2 := [(0, .ref x)]) rfl ?_
  have l_4 : ∀ (n_4 : Nat) (v_414955 : Int32) (rv_414955 : Rg (-1) 6 v_414955) (v_414956 : Int32) (rv_414956 : Rg 0 7 v_414956) (hm_414957 : 7 < (v_414956 : Int32).toInt + (n_4 : Int)), WG p l e { frames := 1, cells := 0, slots := 0, locals := 21 } s m ([.ref x] : List Value).toArray below meth c 3 0 0 (MQ below (Qi_ D cy L κ ln R (fun r I2 J2 => I = I2 ∧ J = J2 ∧ Rg (-1) 6 r)) ([.ref x] : List Value).toArray s 0 0 (Al_ L)) D cy (Al_ L) s.heap L κ ln R I J 4 [(0, .ref x), (1, .int v_414955), (2, .int v_414956)] [] := by
    intro n_4
    induction n_4 with
    | zero =>
      intro v_414955 rv_414955 v_414956 rv_414956 hm_414957
      exact ms_0 rv_414956 hm_414957
    | succ n_4 ih_4 =>
      intro v_414955 rv_414955 v_414956 rv_414956 hm_414957
      have j_54 : ∀ (v_414958 : Int32) (rv_414958 : Rg (-1) 6 v_414958) (v_414959 : Int32) (rv_414959 : Rg 0 6 v_414959) (v_414960 : Int32) (rv_414960 : Rg 1 7 v_414960) (q_414961 : I b_414952 5 = v_414960) (hm_414962 : 7 < (v_414959 : Int32).toInt + ((n_4 + 1 : Nat) : Int)), WG p l e { frames := 1, cells := 0, slots := 0, locals := 21 } s m ([.ref x] : List Value).toArray below meth c 3 0 0 (MQ below (Qi_ D cy L κ ln R (fun r I2 J2 => I = I2 ∧ J = J2 ∧ Rg (-1) 6 r)) ([.ref x] : List Value).toArray s 0 0 (Al_ L)) D cy (Al_ L) s.heap L κ ln R I J 54 [(0, .ref x), (1, .int v_414958), (2, .int v_414959)] [] := by
        intro v_414958 rv_414958 v_414959 rv_414959 v_414960 rv_414960 q_414961 hm_414962
        obtain ⟨x_414963, hx_414963, rx_414963, tx_414963⟩ := ex_add (y := 1) 1 7 rv_414959 rc_1 (by decide) (by decide) (by decide) (by decide)
        refine g_iinc C dX11_hungriest_54 (k := 2) (v := x_414963) rfl hx_414963 (by decide) (lo2 := [(2, .int x_414963), (0, .ref x), (1, .int v_414958)]) rfl ?_
        refine g_goto C (tgt := 4) dX11_hungriest_57 (by decide) ?_
        refine g_lo (is := [1, 2, 0]) (lo2 := [(0, .ref x), (1, .int v_414958), (2, .int x_414963)]) rfl ?_
        exact ih_4 v_414958 (rv_414958) x_414963 (rg_w rx_414963 (by decide) (by decide)) (ms_1 hm_414962 (ti_k tx_414963 rc_1) (by decide))
      have j_52 : ∀ (v_414964 : Int32) (rv_414964 : Rg (-1) 6 v_414964) (v_414965 : Int32) (rv_414965 : Rg 0 6 v_414965) (v_414966 : Int32) (rv_414966 : Rg 1 7 v_414966) (q_414967 : I b_414952 5 = v_414966) (hm_414968 : 7 < (v_414965 : Int32).toInt + ((n_4 + 1 : Nat) : Int)), WG p l e { frames := 1, cells := 0, slots := 0, locals := 21 } s m ([.ref x] : List Value).toArray below meth c 3 0 0 (MQ below (Qi_ D cy L κ ln R (fun r I2 J2 => I = I2 ∧ J = J2 ∧ Rg (-1) 6 r)) ([.ref x] : List Value).toArray s 0 0 (Al_ L)) D cy (Al_ L) s.heap L κ ln R I J 52 [(0, .ref x), (1, .int v_414964), (2, .int v_414965)] [] := by
        intro v_414964 rv_414964 v_414965 rv_414965 v_414966 rv_414966 q_414967 hm_414968
        refine g_iload_n C 2 dX11_hungriest_52 rfl rfl ?_
        refine g_istore_n C dX11_hungriest_53 rfl (by decide) (lo2 := [(1, .int v_414965), (0, .ref x), (2, .int v_414965)]) rfl ?_
        refine g_lo (is := [1, 0, 2]) (lo2 := [(0, .ref x), (1, .int v_414965), (2, .int v_414965)]) rfl ?_
        exact j_54 v_414965 (rg_w rv_414965 (by decide) (by decide)) v_414965 (rv_414965) v_414966 (rv_414966) q_414967 hm_414968
      refine g_iload_n C 2 dX11_hungriest_4 rfl rfl ?_
      refine g_aload_n C 0 dX11_hungriest_5 rfl rfl ?_
      refine g_getR C K hLx hkx f_11_19 hb_414952 dX11_hungriest_6 ?_
      obtain ⟨x_414969, hx_414969, rx_414969⟩ := ex_get (I := I) (a := b_414952) (j := 5) (lo := 0) (hi := 7) hU hb_414952L (ro_o hb_414952k (by decide)) rfl
      refine g_getI C K hb_414952L hb_414952k f_11_213 (v := x_414969) hx_414969 dX11_hungriest_9 ?_
      refine g_icmp_ge C (tgt := 60) dX11_hungriest_12 (by decide) (fun h_414970 => ?_) (fun h_414970 => ?_)
      · skip
        refine g_iload_n C 1 dX11_hungriest_60 rfl rfl ?_
        exact g_zret (ty := .int) (r := v_414955) B K rfl (rfl) ⟨rfl, rfl, rv_414955⟩ dX11_hungriest_61
      · skip
        have r_414971 := lt_l (hi := 6) (nle h_414970) rv_414956 rx_414969 (by decide)
        have r_414972 := lt_r (lo := 1) (nle h_414970) rv_414956 rx_414969 (by decide)
        refine g_aload_n C 0 dX11_hungriest_15 rfl rfl ?_
        refine g_getR C K hLx hkx f_11_28 hb_414953 dX11_hungriest_16 ?_
        refine g_iload_n C 2 dX11_hungriest_19 rfl rfl ?_
        refine g_callVI C K (c_X1_lives W9 hb_414953L hb_414953k v_414956 (rg_w r_414971 (by decide) (by decide)) hU) hb_414953L hb_414953k (by decide) rfl v_11_301 rfl ⟨rfl, rfl⟩ ⟨Nat.le_of_ble_eq_true rfl, Nat.le_of_ble_eq_true rfl⟩ (Nat.le_of_ble_eq_true rfl) ⟨Nat.le_of_ble_eq_true rfl, Nat.le_of_ble_eq_true rfl⟩ dX11_hungriest_20 rfl (st := []) (fun x_414973 I_414974 J_414975 h_414976 => ?_)
        obtain ⟨rfl, rfl, rx_414973⟩ := h_414976
        refine g_if_eq C (tgt := 54) dX11_hungriest_23 (by decide) (fun h_414977 => ?_) (fun h_414977 => ?_)
        · skip
          have r_414978 := (⟨(rx_414973).1, (eq_rg (h_414977) rc_0).2⟩ : Rg 0 0 x_414973)
          refine g_lo (is := [0, 1, 2]) (lo2 := [(0, .ref x), (1, .int v_414955), (2, .int v_414956)]) rfl ?_
          exact j_54 v_414955 (rv_414955) v_414956 (r_414971) x_414969 (r_414972) hx_414969 hm_414957
        · skip
          have n_414979 : ¬ x_414973 = 0 := h_414977
          have r_414980 := ne_lo (lo := 1) n_414979 rx_414973 rc_0 rfl (by decide)
          refine g_iload_n C 1 dX11_hungriest_26 rfl rfl ?_
          refine g_iconst C (v := (-1)) dX11_hungriest_27 (by decide) ?_
          refine g_icmp_eq C (tgt := 52) dX11_hungriest_28 (by decide) (fun h_414981 => ?_) (fun h_414981 => ?_)
          · skip
            have r_414982 := (⟨(rv_414955).1, (eq_rg (h_414981) rc_m1).2⟩ : Rg (-1) (-1) v_414955)
            refine g_lo (is := [0, 1, 2]) (lo2 := [(0, .ref x), (1, .int v_414955), (2, .int v_414956)]) rfl ?_
            exact j_52 v_414955 (rg_w r_414982 (by decide) (by decide)) v_414956 (r_414971) x_414969 (r_414972) hx_414969 hm_414957
          · skip
            have n_414983 : ¬ v_414955 = (-1) := h_414981
            have r_414984 := ne_lo (lo := 0) n_414983 rv_414955 rc_m1 rfl (by decide)
            refine g_aload_n C 0 dX11_hungriest_31 rfl rfl ?_
            refine g_getR C K hLx hkx f_11_28 hb_414953 dX11_hungriest_32 ?_
            refine g_getR C K hb_414953L hb_414953k f_11_163 hb_414954 dX11_hungriest_35 ?_
            refine g_iload_n C 2 dX11_hungriest_38 rfl rfl ?_
            obtain ⟨x_414985, hx_414985, rx_414985⟩ := ex_get (I := I) (a := b_414954) (j := v_414956.toNatClampNeg) (lo := (-2147483648)) (hi := 2147483647) hU hb_414954L (ro_a hb_414954k (by decide) hb_414954o hb_414953k rfl) (rfl)
            refine h_iald C K hb_414954L hb_414954k (v := x_414985) (v_414956.toNatClampNeg) (rfl) (ix_0 r_414971 (by decide)) (ix_lt r_414971 (by decide) hb_414954n (by decide)) hx_414985 dX11_hungriest_39 ?_
            refine g_aload_n C 0 dX11_hungriest_40 rfl rfl ?_
            refine g_getR C K hLx hkx f_11_28 hb_414953 dX11_hungriest_41 ?_
            refine g_getR C K hb_414953L hb_414953k f_11_163 hb_414954 dX11_hungriest_44 ?_
            refine g_iload_n C 1 dX11_hungriest_47 rfl rfl ?_
            obtain ⟨x_414986, hx_414986, rx_414986⟩ := ex_get (I := I) (a := b_414954) (j := v_414955.toNatClampNeg) (lo := (-2147483648)) (hi := 2147483647) hU hb_414954L (ro_a hb_414954k (by decide) hb_414954o hb_414953k rfl) (rfl)
            refine h_iald C K hb_414954L hb_414954k (v := x_414986) (v_414955.toNatClampNeg) (rfl) (ix_0 r_414984 (by decide)) (ix_lt r_414984 (by decide) hb_414954n (by decide)) hx_414986 dX11_hungriest_48 ?_
            refine g_icmp_le C (tgt := 54) dX11_hungriest_49 (by decide) (fun h_414987 => ?_) (fun h_414987 => ?_)
            · skip
              refine g_lo (is := [0, 1, 2]) (lo2 := [(0, .ref x), (1, .int v_414955), (2, .int v_414956)]) rfl ?_
              exact j_54 v_414955 (rg_w r_414984 (by decide) (by decide)) v_414956 (r_414971) x_414969 (r_414972) hx_414969 hm_414957
            · skip
              have r_414988 := lt_l (hi := 2147483646) (nle h_414987) rx_414986 rx_414985 (by decide)
              have r_414989 := lt_r (lo := (-2147483647)) (nle h_414987) rx_414986 rx_414985 (by decide)
              refine g_lo (is := [0, 1, 2]) (lo2 := [(0, .ref x), (1, .int v_414955), (2, .int v_414956)]) rfl ?_
              exact j_52 v_414955 (rg_w r_414984 (by decide) (by decide)) v_414956 (r_414971) x_414969 (r_414972) hx_414969 hm_414957
  refine g_iconst C (v := (-1)) dX11_hungriest_0 (by decide) ?_
  refine g_istore_n C dX11_hungriest_1 rfl (by decide) (lo2 := [(1, .int (-1)), (0, .ref x)]) rfl ?_
  refine g_iconst C (v := 0) dX11_hungriest_2 (by decide) ?_
  refine g_istore_n C dX11_hungriest_3 rfl (by decide) (lo2 := [(2, .int 0), (1, .int (-1)), (0, .ref x)]) rfl ?_
  refine g_lo (is := [2, 1, 0]) (lo2 := [(0, .ref x), (1, .int (-1)), (2, .int 0)]) rfl ?_
  exact l_4 8 (-1) (rg_w rc_m1 (by decide) (by decide)) 0 (rg_w rc_0 (by decide) (by decide)) (ms_s (N := 8) (rg_w rc_0 (by decide) (by decide)) (by decide))
set_option maxRecDepth 100000 in
set_option maxHeartbeats 8000000 in
theorem c_X11_writeByte {l : Launch} {D : va_G} {cy : Nat → ClassId} {L : List Nat} {κ ln : Nat → Nat} {R : Nat → Nat → Option Nat} {I : Nat → Nat → Int32} {J : Nat → Nat → Int64} {ow : Nat → Nat × Nat} (W9 : ∀ a ∈ L, Shp L κ ln R ow a) {x : Nat} (hLx : x ∈ L) (hkx : κ x = 11) (a0 : Int32) (ra0 : Rg 97 127 a0) (hU : Uv L κ ow I) : CtV l yX11_writeByte cX11_writeByte 2 none { frames := 0, cells := 0, slots := 0, locals := 0 } D cy L κ ln R I J [.ref x, .int a0] (fun I2 J2 => Uv L κ ow I2 ∧ Fq L κ ow [1114, 77300] I I2 ∧ Fq L κ ow [] J J2) := by
  refine CtV.of (by decide +kernel) (Nat.le_of_ble_eq_true rfl) ?_
  intro p e s m below meth c B K
  have C := B.1
  have hF : Fq L κ ow [1114, 77300] I I := fq_rf
  have hG : Fq L κ ow [] J J := fq_rf
  obtain ⟨b_415016, hb_415016, hb_415016L, hb_415016k, hb_415016n, hb_415016o⟩ := shp_a (W9 x hLx) hkx 13 13 40 rfl (by decide)
  refine g_lo (is := [0, 1]) (lo2 := [(0, .ref x), (1, .int a0)]) rfl ?_
  refine g_aload_n C 0 dX11_writeByte_0 rfl rfl ?_
  obtain ⟨x_415017, hx_415017, rx_415017⟩ := ex_get (I := I) (a := x) (j := 14) (lo := 0) (hi := 40) hU hLx (ro_o hkx (by decide)) rfl
  refine g_getI C K hLx hkx f_11_97 (v := x_415017) hx_415017 dX11_writeByte_1 ?_
  refine g_aload_n C 0 dX11_writeByte_4 rfl rfl ?_
  refine g_getR C K hLx hkx f_11_93 hb_415016 dX11_writeByte_5 ?_
  refine g_alenB C K hb_415016L hb_415016k (v := 40) (by rw [hb_415016n]; rfl) dX11_writeByte_8 ?_
  refine g_icmp_ge C (tgt := 33) dX11_writeByte_9 (by decide) (fun h_415018 => ?_) (fun h_415018 => ?_)
  · skip
    have r_415019 := le_r (h_415018) rc_40 rx_415017
    exact g_vret B K rfl ⟨hU, hF, hG⟩ dX11_writeByte_33
  · skip
    have r_415020 := lt_l (hi := 39) (nle h_415018) rx_415017 rc_40 (by decide)
    refine g_aload_n C 0 dX11_writeByte_12 rfl rfl ?_
    refine g_getR C K hLx hkx f_11_93 hb_415016 dX11_writeByte_13 ?_
    refine g_aload_n C 0 dX11_writeByte_16 rfl rfl ?_
    refine g_getI C K hLx hkx f_11_97 (v := x_415017) hx_415017 dX11_writeByte_17 ?_
    refine g_iload_n C 1 dX11_writeByte_20 rfl rfl ?_
    obtain ⟨x_415021, hx_415021, rx_415021⟩ := ex_b2 (x := a0)
    refine g_i2b C (v := x_415021) dX11_writeByte_21 hx_415021 ?_
    refine h_bast C K hb_415016L hb_415016k (x_415017.toNatClampNeg) (rfl) (ix_0 r_415020 (by decide)) (ix_lt r_415020 (by decide) hb_415016n (by decide)) dX11_writeByte_22 (fun I_415022 hI_415022 => ?_)
    have hU_415023 := uv_put hU hI_415022 (ro_a hb_415016k (by decide) hb_415016o hkx rfl) (lo := (-128)) (hi := 127) (rfl) (nar_b _)
    have hF_415024 := fq_puta hF hI_415022 (ro_a hb_415016k (by decide) hb_415016o hkx rfl) (by decide) (by decide)
    refine g_aload_n C 0 dX11_writeByte_23 rfl rfl ?_
    refine g_dup C dX11_writeByte_24 rfl ?_
    refine g_getI C K hLx hkx f_11_97 (v := x_415017) (kp_k hI_415022 (by rw [hkx, hb_415016k]; decide) hx_415017) dX11_writeByte_25 ?_
    refine g_iconst C (v := 1) dX11_writeByte_28 (by decide) ?_
    obtain ⟨x_415025, hx_415025, rx_415025, tx_415025⟩ := ex_add 1 40 r_415020 rc_1 (by decide) (by decide) (by decide) (by decide)
    refine g_iadd C (v := x_415025) dX11_writeByte_29 hx_415025 ?_
    refine h_putI C K hLx hkx f_11_97 p_11_14 dX11_writeByte_30 (fun I_415026 hI_415026 => ?_)
    have hU_415027 := uv_put hU_415023 hI_415026 (ro_o hkx (by decide)) (lo := 0) (hi := 40) rfl (rg_w rx_415025 (by decide) (by decide))
    have hF_415028 := fq_puto hF_415024 hI_415026 hkx (by decide) (by decide)
    exact g_vret B K rfl ⟨hU_415027, hF_415028, hG⟩ dX11_writeByte_33
set_option maxRecDepth 100000 in
set_option maxHeartbeats 8000000 in
theorem c_X11_writeName {l : Launch} {D : va_G} {cy : Nat → ClassId} {L : List Nat} {κ ln : Nat → Nat} {R : Nat → Nat → Option Nat} {I : Nat → Nat → Int32} {J : Nat → Nat → Int64} {ow : Nat → Nat × Nat} (W9 : ∀ a ∈ L, Shp L κ ln R ow a) {x : Nat} (hLx : x ∈ L) (hkx : κ x = 11) (a0 : Int64) (hU : Uv L κ ow I) : CtV l yX11_writeName cX11_writeName 5 none { frames := 1, cells := 0, slots := 0, locals := 21 } D cy L κ ln R I J [.ref x, .long a0] (fun I2 J2 => Uv L κ ow I2 ∧ Fq L κ ow [1114, 77300] I I2 ∧ Fq L κ ow [] J J2) := by
  refine CtV.of (by decide +kernel) (Nat.le_of_ble_eq_true rfl) ?_
  intro p e s m below meth c B K
  have C := B.1
  have hF : Fq L κ ow [1114, 77300] I I := fq_rf
  have hG : Fq L κ ow [] J J := fq_rf
  refine g_lo (is := [0, 1]) (lo2 := [(0, .ref x), (1, .long a0)]) rfl ?_
  have l_3 : ∀ (n_3 : Nat) (I_415198 : Nat → Nat → Int32) (J_415199 : Nat → Nat → Int64) (hU_415200 : Uv L κ ow I_415198) (hF_415201 : Fq L κ ow [1114, 77300] I I_415198) (hG_415202 : Fq L κ ow [] J J_415199) (y_415203 : Int64) (v_415204 : Int32) (rv_415204 : Rg (-1) 6 v_415204) (hm_415205 : (v_415204 : Int32).toInt - (-1) < (n_3 : Int)), WG p l e { frames := 1, cells := 0, slots := 0, locals := 21 } s m ([.ref x, .long a0] : List Value).toArray below meth c 5 0 0 (MQ below (Qv_ D cy L κ ln R (fun I2 J2 => Uv L κ ow I2 ∧ Fq L κ ow [1114, 77300] I I2 ∧ Fq L κ ow [] J J2)) ([.ref x, .long a0] : List Value).toArray s 0 0 (Al_ L)) D cy (Al_ L) s.heap L κ ln R I_415198 J_415199 3 [(0, .ref x), (1, .long y_415203), (3, .int v_415204)] [] := by
    intro n_3
    induction n_3 with
    | zero =>
      intro I_415198 J_415199 hU_415200 hF_415201 hG_415202 y_415203 v_415204 rv_415204 hm_415205
      exact md_0 rv_415204 hm_415205
    | succ n_3 ih_3 =>
      intro I_415198 J_415199 hU_415200 hF_415201 hG_415202 y_415203 v_415204 rv_415204 hm_415205
      have j_34 : ∀ (I_415206 : Nat → Nat → Int32) (J_415207 : Nat → Nat → Int64) (hU_415208 : Uv L κ ow I_415206) (hF_415209 : Fq L κ ow [1114, 77300] I I_415206) (hG_415210 : Fq L κ ow [] J J_415207) (y_415211 : Int64) (v_415212 : Int32) (rv_415212 : Rg 0 6 v_415212) (v_415213 : Int32) (rv_415213 : Rg 0 31 v_415213) (hm_415214 : (v_415212 : Int32).toInt - (-1) < ((n_3 + 1 : Nat) : Int)), WG p l e { frames := 1, cells := 0, slots := 0, locals := 21 } s m ([.ref x, .long a0] : List Value).toArray below meth c 5 0 0 (MQ below (Qv_ D cy L κ ln R (fun I2 J2 => Uv L κ ow I2 ∧ Fq L κ ow [1114, 77300] I I2 ∧ Fq L κ ow [] J J2)) ([.ref x, .long a0] : List Value).toArray s 0 0 (Al_ L)) D cy (Al_ L) s.heap L κ ln R I_415206 J_415207 34 [(0, .ref x), (1, .long y_415211), (3, .int v_415212), (4, .int v_415213)] [] := by
        intro I_415206 J_415207 hU_415208 hF_415209 hG_415210 y_415211 v_415212 rv_415212 v_415213 rv_415213 hm_415214
        obtain ⟨x_415215, hx_415215, rx_415215, tx_415215⟩ := ex_add (y := (-1)) (-1) 5 rv_415212 rc_m1 (by decide) (by decide) (by decide) (by decide)
        refine g_iinc C dX11_writeName_34 (k := 2) (v := x_415215) rfl hx_415215 (by decide) (lo2 := [(3, .int x_415215), (0, .ref x), (1, .long y_415211), (4, .int v_415213)]) rfl ?_
        refine g_goto C (tgt := 3) dX11_writeName_37 (by decide) ?_
        refine g_lo (is := [1, 2, 0]) (lo2 := [(0, .ref x), (1, .long y_415211), (3, .int x_415215)]) rfl ?_
        exact ih_3 I_415206 J_415207 hU_415208 hF_415209 hG_415210 y_415211 x_415215 (rg_w rx_415215 (by decide) (by decide)) (md_1 hm_415214 (ti_k tx_415215 rc_m1) (by decide))
      refine g_iload_n C 2 dX11_writeName_3 rfl rfl ?_
      refine g_if_lt C (tgt := 40) dX11_writeName_4 (by decide) (fun h_415216 => ?_) (fun h_415216 => ?_)
      · skip
        have r_415217 := lt_l (hi := (-1)) (h_415216) rv_415204 rc_0 (by decide)
        exact g_vret B K rfl ⟨hU_415200, hF_415201, hG_415202⟩ dX11_writeName_40
      · skip
        have r_415218 := le_r (nlt h_415216) rc_0 rv_415204
        refine g_lload_n C 1 dX11_writeName_7 rfl rfl ?_
        refine g_iload_n C 2 dX11_writeName_8 rfl rfl ?_
        refine g_iconst C (v := 5) dX11_writeName_9 (by decide) ?_
        obtain ⟨x_415219, hx_415219, rx_415219⟩ := ex_mulk 0 30 r_415218 rc_5 (by decide) (by decide) (by decide) (by decide) (by decide)
        refine g_imul C (v := x_415219) dX11_writeName_10 hx_415219 ?_
        refine g_lshr C dX11_writeName_11 (fun y_415220 => ?_)
        obtain ⟨x_415221, hx_415221, rx_415221⟩ := ex_any (z0 := Int64.toInt32 y_415220)
        refine g_l2i C (v := x_415221) dX11_writeName_12 hx_415221 ?_
        refine g_bipush C (v := 31) dX11_writeName_13 (by decide) ?_
        obtain ⟨x_415222, hx_415222, rx_415222⟩ := ex_andr (x := x_415221) (y := 31) (b := 31) (rg_w rc_31 (by decide) (by decide))
        refine g_iand C (v := x_415222) dX11_writeName_15 hx_415222 ?_
        refine g_istore C dX11_writeName_16 (by decide) (lo2 := [(4, .int x_415222), (0, .ref x), (1, .long y_415203), (3, .int v_415204)]) rfl ?_
        refine g_iload C 0 dX11_writeName_18 rfl ?_
        refine g_if_eq C (tgt := 34) dX11_writeName_20 (by decide) (fun h_415223 => ?_) (fun h_415223 => ?_)
        · skip
          have r_415224 := (⟨(rx_415222).1, (eq_rg (h_415223) rc_0).2⟩ : Rg 0 0 x_415222)
          refine g_lo (is := [1, 2, 3, 0]) (lo2 := [(0, .ref x), (1, .long y_415203), (3, .int v_415204), (4, .int x_415222)]) rfl ?_
          exact j_34 I_415198 J_415199 hU_415200 hF_415201 hG_415202 y_415203 v_415204 (r_415218) x_415222 (rg_w r_415224 (by decide) (by decide)) hm_415205
        · skip
          have n_415225 : ¬ x_415222 = 0 := h_415223
          have r_415226 := ne_lo (lo := 1) n_415225 rx_415222 rc_0 rfl (by decide)
          refine g_aload_n C 1 dX11_writeName_23 rfl rfl ?_
          refine g_bipush C (v := 97) dX11_writeName_24 (by decide) ?_
          refine g_iload C 0 dX11_writeName_26 rfl ?_
          obtain ⟨x_415227, hx_415227, rx_415227, tx_415227⟩ := ex_add 98 128 rc_97 r_415226 (by decide) (by decide) (by decide) (by decide)
          refine g_iadd C (v := x_415227) dX11_writeName_28 hx_415227 ?_
          refine g_iconst C (v := 1) dX11_writeName_29 (by decide) ?_
          obtain ⟨x_415228, hx_415228, rx_415228, tx_415228⟩ := ex_sub 97 127 rx_415227 rc_1 (by decide) (by decide) (by decide) (by decide)
          refine g_isub C (v := x_415228) dX11_writeName_30 hx_415228 ?_
          refine g_callVV C K (c_X11_writeByte W9 hLx hkx x_415228 (rx_415228) hU_415200) hLx hkx (by decide) rfl v_11_334 rfl ⟨rfl, rfl⟩ ⟨Nat.le_of_ble_eq_true rfl, Nat.le_of_ble_eq_true rfl⟩ (Nat.le_of_ble_eq_true rfl) ⟨Nat.le_of_ble_eq_true rfl, Nat.le_of_ble_eq_true rfl⟩ dX11_writeName_31 rfl (st := []) (fun I_415230 J_415231 h_415232 => ?_)
          obtain ⟨hUI_415230, hFI_415230, hGJ_415231⟩ := h_415232
          have hF_415233 := fq_tr hF_415201 hFI_415230 (by decide)
          have hG_415234 := fq_tr hG_415202 hGJ_415231 (by decide)
          refine g_lo (is := [1, 2, 3, 0]) (lo2 := [(0, .ref x), (1, .long y_415203), (3, .int v_415204), (4, .int x_415222)]) rfl ?_
          exact j_34 I_415230 J_415231 hUI_415230 hF_415233 hG_415234 y_415203 v_415204 (r_415218) x_415222 (rg_w r_415226 (by decide) (by decide)) hm_415205
  refine g_bipush C (v := 6) dX11_writeName_0 (by decide) ?_
  refine g_istore_n C dX11_writeName_2 rfl (by decide) (lo2 := [(3, .int 6), (0, .ref x), (1, .long a0)]) rfl ?_
  refine g_lo (is := [1, 2, 0]) (lo2 := [(0, .ref x), (1, .long a0), (3, .int 6)]) rfl ?_
  exact l_3 8 I J hU hF hG a0 6 (rg_w rc_6 (by decide) (by decide)) (md_s (N := 8) (rg_w rc_6 (by decide) (by decide)) (by decide))
set_option maxRecDepth 100000 in
set_option maxHeartbeats 8000000 in
theorem c_X11_byteAt {l : Launch} {D : va_G} {cy : Nat → ClassId} {L : List Nat} {κ ln : Nat → Nat} {R : Nat → Nat → Option Nat} {I : Nat → Nat → Int32} {J : Nat → Nat → Int64} {ow : Nat → Nat × Nat} (W9 : ∀ a ∈ L, Shp L κ ln R ow a) {x : Nat} (hLx : x ∈ L) (hkx : κ x = 11) (a0 : Int32) (hU : Uv L κ ow I) : CtI l yX11_byteAt cX11_byteAt 2 (some .int) { frames := 0, cells := 0, slots := 0, locals := 0 } D cy L κ ln R I J [.ref x, .int a0] (fun r I2 J2 => I = I2 ∧ J = J2 ∧ Rg (-128) 127 r) := by
  refine CtI.of (by decide +kernel) (Nat.le_of_ble_eq_true rfl) ?_
  intro p e s m below meth c B K
  have C := B.1
  obtain ⟨b_415253, hb_415253, hb_415253L, hb_415253k, hb_415253n, hb_415253o⟩ := shp_a (W9 x hLx) hkx 13 13 40 rfl (by decide)
  refine g_lo (is := [0, 1]) (lo2 := [(0, .ref x), (1, .int a0)]) rfl ?_
  refine g_iload_n C 1 dX11_byteAt_0 rfl rfl ?_
  refine g_if_lt C (tgt := 21) dX11_byteAt_1 (by decide) (fun h_415254 => ?_) (fun h_415254 => ?_)
  · skip
    have r_415255 := lt_l (hi := (-1)) (h_415254) (rg_all a0) rc_0 (by decide)
    refine g_iconst C (v := (-1)) dX11_byteAt_21 (by decide) ?_
    exact g_zret (ty := .int) (r := (-1)) B K rfl (rfl) ⟨rfl, rfl, rg_w rc_m1 (by decide) (by decide)⟩ dX11_byteAt_22
  · skip
    have r_415256 := le_r (nlt h_415254) rc_0 (rg_all a0)
    refine g_iload_n C 1 dX11_byteAt_4 rfl rfl ?_
    refine g_aload_n C 0 dX11_byteAt_5 rfl rfl ?_
    obtain ⟨x_415257, hx_415257, rx_415257⟩ := ex_get (I := I) (a := x) (j := 14) (lo := 0) (hi := 40) hU hLx (ro_o hkx (by decide)) rfl
    refine g_getI C K hLx hkx f_11_97 (v := x_415257) hx_415257 dX11_byteAt_6 ?_
    refine g_icmp_ge C (tgt := 21) dX11_byteAt_9 (by decide) (fun h_415258 => ?_) (fun h_415258 => ?_)
    · skip
      refine g_iconst C (v := (-1)) dX11_byteAt_21 (by decide) ?_
      exact g_zret (ty := .int) (r := (-1)) B K rfl (rfl) ⟨rfl, rfl, rg_w rc_m1 (by decide) (by decide)⟩ dX11_byteAt_22
    · skip
      have r_415259 := lt_l (hi := 39) (nle h_415258) r_415256 rx_415257 (by decide)
      have r_415260 := lt_r (lo := 1) (nle h_415258) r_415256 rx_415257 (by decide)
      refine g_aload_n C 0 dX11_byteAt_12 rfl rfl ?_
      refine g_getR C K hLx hkx f_11_93 hb_415253 dX11_byteAt_13 ?_
      refine g_iload_n C 1 dX11_byteAt_16 rfl rfl ?_
      obtain ⟨x_415261, hx_415261, rx_415261⟩ := ex_get (I := I) (a := b_415253) (j := a0.toNatClampNeg) (lo := (-128)) (hi := 127) hU hb_415253L (ro_a hb_415253k (by decide) hb_415253o hkx rfl) (rfl)
      refine h_bald C K hb_415253L hb_415253k (v := x_415261) (a0.toNatClampNeg) (rfl) (ix_0 r_415259 (by decide)) (ix_lt r_415259 (by decide) hb_415253n (by decide)) hx_415261 dX11_byteAt_17 ?_
      refine g_goto C (tgt := 22) dX11_byteAt_18 (by decide) ?_
      exact g_zret (ty := .int) (r := x_415261) B K rfl (rfl) ⟨rfl, rfl, rx_415261⟩ dX11_byteAt_22
set_option maxRecDepth 100000 in
set_option maxHeartbeats 8000000 in
theorem c_X1_draw {l : Launch} {D : va_G} {cy : Nat → ClassId} {L : List Nat} {κ ln : Nat → Nat} {R : Nat → Nat → Option Nat} {I : Nat → Nat → Int32} {J : Nat → Nat → Int64} {ow : Nat → Nat × Nat} (W9 : ∀ a ∈ L, Shp L κ ln R ow a) {x : Nat} (hLx : x ∈ L) (hkx : κ x = 1) (a0 : Int32) (ra0 : Rg 4 6 a0) (hU : Uv L κ ow I) : CtI l yX1_draw cX1_draw 2 (some .int) { frames := 0, cells := 0, slots := 0, locals := 0 } D cy L κ ln R I J [.ref x, .int a0] (fun r I2 J2 => Uv L κ ow I2 ∧ Fq L κ ow [113] I I2 ∧ Fq L κ ow [] J J2 ∧ Rg 0 5 r) := by
  refine CtI.of (by decide +kernel) (Nat.le_of_ble_eq_true rfl) ?_
  intro p e s m below meth c B K
  have C := B.1
  have hF : Fq L κ ow [113] I I := fq_rf
  have hG : Fq L κ ow [] J J := fq_rf
  refine g_lo (is := [0, 1]) (lo2 := [(0, .ref x), (1, .int a0)]) rfl ?_
  refine g_aload_n C 0 dX1_draw_0 rfl rfl ?_
  refine g_aload_n C 0 dX1_draw_1 rfl rfl ?_
  obtain ⟨x_415282, hx_415282, rx_415282⟩ := ex_get (I := I) (a := x) (j := 13) (lo := (-2147483648)) (hi := 2147483647) hU hLx (ro_o hkx (by decide)) rfl
  refine g_getI C K hLx hkx f_1_49 (v := x_415282) hx_415282 dX1_draw_2 ?_
  refine g_ldcw C k_SecondHelpings_Course_129 dX1_draw_5 ?_
  obtain ⟨x_415283, hx_415283, rx_415283⟩ := ex_any (z0 := x_415282 * 1103515245)
  refine g_imul C (v := x_415283) dX1_draw_7 hx_415283 ?_
  refine g_sipush C (v := 12345) dX1_draw_8 (by decide) ?_
  obtain ⟨x_415284, hx_415284, rx_415284⟩ := ex_any (z0 := x_415283 + 12345)
  refine g_iadd C (v := x_415284) dX1_draw_11 hx_415284 ?_
  refine h_putI C K hLx hkx f_1_49 p_1_13 dX1_draw_12 (fun I_415285 hI_415285 => ?_)
  have hU_415286 := uv_put hU hI_415285 (ro_o hkx (by decide)) (lo := (-2147483648)) (hi := 2147483647) rfl (rx_415284)
  have hF_415287 := fq_puto hF hI_415285 hkx (by decide) (by decide)
  refine g_iload_n C 1 dX1_draw_15 rfl rfl ?_
  refine g_if_le C (tgt := 31) dX1_draw_16 (by decide) (fun h_415288 => ?_) (fun h_415288 => ?_)
  · skip
    have r_415289 := le_l (h_415288) ra0 rc_0
    exact rg_no r_415289 (by decide)
  · skip
    refine g_aload_n C 0 dX1_draw_19 rfl rfl ?_
    refine g_getI C K hLx hkx f_1_49 (v := x_415284) (kp_s hI_415285) dX1_draw_20 ?_
    refine g_bipush C (v := 8) dX1_draw_23 (by decide) ?_
    obtain ⟨x_415290, hx_415290, rx_415290⟩ := ex_ushr8 (x := x_415284)
    refine g_iushr C (v := x_415290) dX1_draw_25 hx_415290 ?_
    refine g_iload_n C 1 dX1_draw_26 rfl rfl ?_
    obtain ⟨x_415291, hx_415291, rx_415291⟩ := ex_rem (b := 16777215) (d := 6) 5 (rx_415290) (rg_w ra0 (by decide) (by decide)) (by decide)
    refine g_irem C (v := x_415291) dX1_draw_27 (rg_ne0 ra0 (by decide)) hx_415291 ?_
    refine g_goto C (tgt := 32) dX1_draw_28 (by decide) ?_
    exact g_zret (ty := .int) (r := x_415291) B K rfl (rfl) ⟨hU_415286, hF_415287, hG, rx_415291⟩ dX1_draw_32
set_option maxRecDepth 100000 in
set_option maxHeartbeats 8000000 in
theorem c_X0_behind {l : Launch} {D : va_G} {cy : Nat → ClassId} {L : List Nat} {κ ln : Nat → Nat} {R : Nat → Nat → Option Nat} {I : Nat → Nat → Int32} {J : Nat → Nat → Int64} {ow : Nat → Nat × Nat} (W9 : ∀ a ∈ L, Shp L κ ln R ow a) (a0 : Int32) (a1 : Int32) (ra0 : Rg 10 50 a0) (ra1 : Rg 0 2 a1) (hU : Uv L κ ow I) : CtI l yX0_behind cX0_behind 2 (some .int) { frames := 0, cells := 0, slots := 0, locals := 0 } D cy L κ ln R I J [.int a0, .int a1] (fun r I2 J2 => I = I2 ∧ J = J2 ∧ Rg 0 52 r) := by
  refine CtI.of (by decide +kernel) (Nat.le_of_ble_eq_true rfl) ?_
  intro p e s m below meth c B K
  have C := B.1
  refine g_lo (is := [0, 1]) (lo2 := [(0, .int a0), (1, .int a1)]) rfl ?_
  refine g_iload_n C 1 dX0_behind_0 rfl rfl ?_
  refine g_if_ne C (tgt := 8) dX0_behind_1 (by decide) (fun h_415302 => ?_) (fun h_415302 => ?_)
  · skip
    have n_415303 : ¬ a1 = 0 := h_415302
    have r_415304 := ne_lo (lo := 1) n_415303 ra1 rc_0 rfl (by decide)
    refine g_iload_n C 0 dX0_behind_8 rfl rfl ?_
    refine g_iload_n C 1 dX0_behind_9 rfl rfl ?_
    obtain ⟨x_415305, hx_415305, rx_415305, tx_415305⟩ := ex_add 11 52 ra0 r_415304 (by decide) (by decide) (by decide) (by decide)
    refine g_iadd C (v := x_415305) dX0_behind_10 hx_415305 ?_
    exact g_zret (ty := .int) (r := x_415305) B K rfl (rfl) ⟨rfl, rfl, rg_w rx_415305 (by decide) (by decide)⟩ dX0_behind_11
  · skip
    have r_415306 := (⟨(ra1).1, (eq_rg (h_415302) rc_0).2⟩ : Rg 0 0 a1)
    refine g_iconst C (v := 0) dX0_behind_4 (by decide) ?_
    refine g_goto C (tgt := 11) dX0_behind_5 (by decide) ?_
    exact g_zret (ty := .int) (r := 0) B K rfl (rfl) ⟨rfl, rfl, rg_w rc_0 (by decide) (by decide)⟩ dX0_behind_11
set_option maxRecDepth 100000 in
set_option maxHeartbeats 8000000 in
theorem c_X11_told {l : Launch} {D : va_G} {cy : Nat → ClassId} {L : List Nat} {κ ln : Nat → Nat} {R : Nat → Nat → Option Nat} {I : Nat → Nat → Int32} {J : Nat → Nat → Int64} {ow : Nat → Nat × Nat} (W9 : ∀ a ∈ L, Shp L κ ln R ow a) {x : Nat} (hLx : x ∈ L) (hkx : κ x = 11) (a0 : Int32) (hU : Uv L κ ow I) : CtI l yX11_told cX11_told 2 (some .int) { frames := 0, cells := 0, slots := 0, locals := 0 } D cy L κ ln R I J [.ref x, .int a0] (fun r I2 J2 => I = I2 ∧ J = J2 ∧ Rg (-2147483648) 2147483647 r) := by
  refine CtI.of (by decide +kernel) (Nat.le_of_ble_eq_true rfl) ?_
  intro p e s m below meth c B K
  have C := B.1
  obtain ⟨b_415345, hb_415345, hb_415345L, hb_415345k⟩ := shp_o (W9 x hLx) hkx 6 0 rfl (by decide)
  refine g_lo (is := [0, 1]) (lo2 := [(0, .ref x), (1, .int a0)]) rfl ?_
  refine g_aload_n C 0 dX11_told_0 rfl rfl ?_
  refine g_getR C K hLx hkx f_11_52 hb_415345 dX11_told_1 ?_
  obtain ⟨x_415346, hx_415346, rx_415346⟩ := ex_get (I := I) (a := b_415345) (j := 5) (lo := 0) (hi := 1) hU hb_415345L (ro_o hb_415345k (by decide)) rfl
  refine g_getI C K hb_415345L hb_415345k f_11_352 (v := x_415346) hx_415346 dX11_told_4 ?_
  refine g_if_ne C (tgt := 12) dX11_told_7 (by decide) (fun h_415347 => ?_) (fun h_415347 => ?_)
  · skip
    have n_415348 : ¬ x_415346 = 0 := h_415347
    have r_415349 := ne_lo (lo := 1) n_415348 rx_415346 rc_0 rfl (by decide)
    refine g_iload_n C 1 dX11_told_12 rfl rfl ?_
    by_cases c_415350 : a0.toInt = 0
    · skip
      have r_415351 := rg_of (a := 0) (b := 0) 0 c_415350 (by decide) (by decide)
      refine g_tableIn C (tgt := 44) dX11_told_13 (by omega) (by omega) (off := 31) (by rw [c_415350]; rfl) (by decide) ?_
      refine g_aload_n C 0 dX11_told_44 rfl rfl ?_
      refine g_getR C K hLx hkx f_11_52 hb_415345 dX11_told_45 ?_
      obtain ⟨x_415352, hx_415352, rx_415352⟩ := ex_get (I := I) (a := b_415345) (j := 6) (lo := (-2147483648)) (hi := 2147483647) hU hb_415345L (ro_o hb_415345k (by decide)) rfl
      refine g_getI C K hb_415345L hb_415345k f_11_346 (v := x_415352) hx_415352 dX11_told_48 ?_
      exact g_zret (ty := .int) (r := x_415352) B K rfl (rfl) ⟨rfl, rfl, rx_415352⟩ dX11_told_51
    by_cases c_415353 : a0.toInt = 1
    · skip
      have r_415354 := rg_of (a := 1) (b := 1) 1 c_415353 (by decide) (by decide)
      refine g_tableIn C (tgt := 52) dX11_told_13 (by omega) (by omega) (off := 39) (by rw [c_415353]; rfl) (by decide) ?_
      refine g_aload_n C 0 dX11_told_52 rfl rfl ?_
      refine g_getR C K hLx hkx f_11_52 hb_415345 dX11_told_53 ?_
      obtain ⟨x_415355, hx_415355, rx_415355⟩ := ex_get (I := I) (a := b_415345) (j := 7) (lo := 0) (hi := 40) hU hb_415345L (ro_o hb_415345k (by decide)) rfl
      refine g_getI C K hb_415345L hb_415345k f_11_349 (v := x_415355) hx_415355 dX11_told_56 ?_
      exact g_zret (ty := .int) (r := x_415355) B K rfl (rfl) ⟨rfl, rfl, rg_all _⟩ dX11_told_59
    by_cases c_415356 : a0.toInt = 2
    · skip
      have r_415357 := rg_of (a := 2) (b := 2) 2 c_415356 (by decide) (by decide)
      refine g_tableIn C (tgt := 60) dX11_told_13 (by omega) (by omega) (off := 47) (by rw [c_415356]; rfl) (by decide) ?_
      refine g_aload_n C 0 dX11_told_60 rfl rfl ?_
      refine g_getR C K hLx hkx f_11_52 hb_415345 dX11_told_61 ?_
      obtain ⟨x_415358, hx_415358, rx_415358⟩ := ex_get (I := I) (a := b_415345) (j := 8) (lo := (-2147483648)) (hi := 2147483647) hU hb_415345L (ro_o hb_415345k (by decide)) rfl
      refine g_getI C K hb_415345L hb_415345k f_11_356 (v := x_415358) hx_415358 dX11_told_64 ?_
      exact g_zret (ty := .int) (r := x_415358) B K rfl (rfl) ⟨rfl, rfl, rx_415358⟩ dX11_told_67
    by_cases c_415359 : a0.toInt = 3
    · skip
      have r_415360 := rg_of (a := 3) (b := 3) 3 c_415359 (by decide) (by decide)
      refine g_tableIn C (tgt := 68) dX11_told_13 (by omega) (by omega) (off := 55) (by rw [c_415359]; rfl) (by decide) ?_
      refine g_aload_n C 0 dX11_told_68 rfl rfl ?_
      refine g_getR C K hLx hkx f_11_52 hb_415345 dX11_told_69 ?_
      obtain ⟨x_415361, hx_415361, rx_415361⟩ := ex_get (I := I) (a := b_415345) (j := 9) (lo := (-2147483648)) (hi := 2147483647) hU hb_415345L (ro_o hb_415345k (by decide)) rfl
      refine g_getI C K hb_415345L hb_415345k f_11_359 (v := x_415361) hx_415361 dX11_told_72 ?_
      exact g_zret (ty := .int) (r := x_415361) B K rfl (rfl) ⟨rfl, rfl, rx_415361⟩ dX11_told_75
    obtain ⟨q_4153621, q_4153622⟩ := (rg_all a0)
    refine g_tableOut C (tgt := 76) dX11_told_13 (by omega) (by decide) ?_
    refine g_iconst C (v := (-1)) dX11_told_76 (by decide) ?_
    exact g_zret (ty := .int) (r := (-1)) B K rfl (rfl) ⟨rfl, rfl, rg_all _⟩ dX11_told_77
  · skip
    have r_415363 := (⟨(rx_415346).1, (eq_rg (h_415347) rc_0).2⟩ : Rg 0 0 x_415346)
    refine g_iconst C (v := (-1)) dX11_told_10 (by decide) ?_
    exact g_zret (ty := .int) (r := (-1)) B K rfl (rfl) ⟨rfl, rfl, rg_all _⟩ dX11_told_11
set_option maxRecDepth 100000 in
set_option maxHeartbeats 8000000 in
theorem c_X7_become {l : Launch} {D : va_G} {cy : Nat → ClassId} {L : List Nat} {κ ln : Nat → Nat} {R : Nat → Nat → Option Nat} {I : Nat → Nat → Int32} {J : Nat → Nat → Int64} {ow : Nat → Nat × Nat} (W9 : ∀ a ∈ L, Shp L κ ln R ow a) {x : Nat} (hLx : x ∈ L) (hkx : κ x = 7) {a0 : Nat} (hLa0 : a0 ∈ L) (hka0 : κ a0 = 7) (hU : Uv L κ ow I) : CtV l yX7_become cX7_become 2 none { frames := 1, cells := 0, slots := 0, locals := 60 } D cy L κ ln R I J [.ref x, .ref a0] (fun I2 J2 => Uv L κ ow I2 ∧ Fq L κ ow [704, 705, 52000, 52100, 52200] I I2 ∧ Fq L κ ow [] J J2) := by
  refine CtV.of (by decide +kernel) (Nat.le_of_ble_eq_true rfl) ?_
  intro p e s m below meth c B K
  have C := B.1
  have hF : Fq L κ ow [704, 705, 52000, 52100, 52200] I I := fq_rf
  have hG : Fq L κ ow [] J J := fq_rf
  obtain ⟨b_415410, hb_415410, hb_415410L, hb_415410k, hb_415410n, hb_415410o⟩ := shp_a (W9 x hLx) hkx 1 14 40 rfl (by decide)
  obtain ⟨b_415411, hb_415411, hb_415411L, hb_415411k, hb_415411n, hb_415411o⟩ := shp_a (W9 x hLx) hkx 2 14 40 rfl (by decide)
  obtain ⟨b_415412, hb_415412, hb_415412L, hb_415412k, hb_415412n, hb_415412o⟩ := shp_a (W9 a0 hLa0) hka0 1 14 40 rfl (by decide)
  obtain ⟨b_415413, hb_415413, hb_415413L, hb_415413k, hb_415413n, hb_415413o⟩ := shp_a (W9 a0 hLa0) hka0 2 14 40 rfl (by decide)
  obtain ⟨b_415414, hb_415414, hb_415414L, hb_415414k, hb_415414n, hb_415414o⟩ := shp_a (W9 a0 hLa0) hka0 0 14 40 rfl (by decide)
  obtain ⟨b_415415, hb_415415, hb_415415L, hb_415415k, hb_415415n, hb_415415o⟩ := shp_a (W9 x hLx) hkx 0 14 40 rfl (by decide)
  refine g_lo (is := [0, 1]) (lo2 := [(0, .ref x), (1, .ref a0)]) rfl ?_
  refine g_aload_n C 1 dX7_become_0 rfl rfl ?_
  refine g_getR C K hLa0 hka0 f_7_11 hb_415414 dX7_become_1 ?_
  refine g_iconst C (v := 0) dX7_become_4 (by decide) ?_
  refine g_aload_n C 0 dX7_become_5 rfl rfl ?_
  refine g_getR C K hLx hkx f_7_11 hb_415415 dX7_become_6 ?_
  refine g_iconst C (v := 0) dX7_become_9 (by decide) ?_
  refine g_bipush C (v := 40) dX7_become_10 (by decide) ?_
  refine h_copyI C K hb_415415L hb_415415k hb_415414L hb_415414k ac_7_31 40 (by decide) (by decide) (by rw [hb_415414n]; decide) (by rw [hb_415415n]; decide) w_cp (Nat.le_of_ble_eq_true rfl) (Nat.le_of_ble_eq_true rfl) dX7_become_12 (fun I_415416 hI_415416 => ?_)
  have hU_415417 := uv_cp hU hb_415414L hI_415416 (ro_a hb_415415k (by decide) hb_415415o hkx rfl) (ro_a hb_415414k (by decide) hb_415414o hka0 rfl)
  have hF_415418 := fq_cp hF hI_415416 (ro_a hb_415415k (by decide) hb_415415o hkx rfl) (by decide) (by decide)
  refine g_aload_n C 1 dX7_become_15 rfl rfl ?_
  refine g_getR C K hLa0 hka0 f_7_15 hb_415412 dX7_become_16 ?_
  refine g_iconst C (v := 0) dX7_become_19 (by decide) ?_
  refine g_aload_n C 0 dX7_become_20 rfl rfl ?_
  refine g_getR C K hLx hkx f_7_15 hb_415410 dX7_become_21 ?_
  refine g_iconst C (v := 0) dX7_become_24 (by decide) ?_
  refine g_bipush C (v := 40) dX7_become_25 (by decide) ?_
  refine h_copyI C K hb_415410L hb_415410k hb_415412L hb_415412k ac_7_31 40 (by decide) (by decide) (by rw [hb_415412n]; decide) (by rw [hb_415410n]; decide) w_cp (Nat.le_of_ble_eq_true rfl) (Nat.le_of_ble_eq_true rfl) dX7_become_27 (fun I_415419 hI_415419 => ?_)
  have hU_415420 := uv_cp hU_415417 hb_415412L hI_415419 (ro_a hb_415410k (by decide) hb_415410o hkx rfl) (ro_a hb_415412k (by decide) hb_415412o hka0 rfl)
  have hF_415421 := fq_cp hF_415418 hI_415419 (ro_a hb_415410k (by decide) hb_415410o hkx rfl) (by decide) (by decide)
  refine g_aload_n C 1 dX7_become_30 rfl rfl ?_
  refine g_getR C K hLa0 hka0 f_7_18 hb_415413 dX7_become_31 ?_
  refine g_iconst C (v := 0) dX7_become_34 (by decide) ?_
  refine g_aload_n C 0 dX7_become_35 rfl rfl ?_
  refine g_getR C K hLx hkx f_7_18 hb_415411 dX7_become_36 ?_
  refine g_iconst C (v := 0) dX7_become_39 (by decide) ?_
  refine g_bipush C (v := 40) dX7_become_40 (by decide) ?_
  refine h_copyI C K hb_415411L hb_415411k hb_415413L hb_415413k ac_7_31 40 (by decide) (by decide) (by rw [hb_415413n]; decide) (by rw [hb_415411n]; decide) w_cp (Nat.le_of_ble_eq_true rfl) (Nat.le_of_ble_eq_true rfl) dX7_become_42 (fun I_415422 hI_415422 => ?_)
  have hU_415423 := uv_cp hU_415420 hb_415413L hI_415422 (ro_a hb_415411k (by decide) hb_415411o hkx rfl) (ro_a hb_415413k (by decide) hb_415413o hka0 rfl)
  have hF_415424 := fq_cp hF_415421 hI_415422 (ro_a hb_415411k (by decide) hb_415411o hkx rfl) (by decide) (by decide)
  refine g_aload_n C 0 dX7_become_45 rfl rfl ?_
  refine g_aload_n C 1 dX7_become_46 rfl rfl ?_
  obtain ⟨x_415425, hx_415425, rx_415425⟩ := ex_get (I := I_415422) (a := a0) (j := 4) (lo := 0) (hi := 40) hU_415423 hLa0 (ro_o hka0 (by decide)) rfl
  refine g_getI C K hLa0 hka0 f_7_24 (v := x_415425) hx_415425 dX7_become_47 ?_
  refine h_putI C K hLx hkx f_7_24 p_7_4 dX7_become_50 (fun I_415426 hI_415426 => ?_)
  have hU_415427 := uv_put hU_415423 hI_415426 (ro_o hkx (by decide)) (lo := 0) (hi := 40) rfl (rx_415425)
  have hF_415428 := fq_puto hF_415424 hI_415426 hkx (by decide) (by decide)
  refine g_aload_n C 0 dX7_become_53 rfl rfl ?_
  refine g_aload_n C 1 dX7_become_54 rfl rfl ?_
  obtain ⟨x_415429, hx_415429, rx_415429⟩ := ex_get (I := I_415426) (a := a0) (j := 5) (lo := (-2147483648)) (hi := 2147483647) hU_415427 hLa0 (ro_o hka0 (by decide)) rfl
  refine g_getI C K hLa0 hka0 f_7_28 (v := x_415429) hx_415429 dX7_become_55 ?_
  refine h_putI C K hLx hkx f_7_28 p_7_5 dX7_become_58 (fun I_415430 hI_415430 => ?_)
  have hU_415431 := uv_put hU_415427 hI_415430 (ro_o hkx (by decide)) (lo := (-2147483648)) (hi := 2147483647) rfl (rx_415429)
  have hF_415432 := fq_puto hF_415428 hI_415430 hkx (by decide) (by decide)
  exact g_vret B K rfl ⟨hU_415431, hF_415432, hG⟩ dX7_become_61
set_option maxRecDepth 100000 in
set_option maxHeartbeats 8000000 in
theorem c_X7_addStep {l : Launch} {D : va_G} {cy : Nat → ClassId} {L : List Nat} {κ ln : Nat → Nat} {R : Nat → Nat → Option Nat} {I : Nat → Nat → Int32} {J : Nat → Nat → Int64} {ow : Nat → Nat × Nat} (W9 : ∀ a ∈ L, Shp L κ ln R ow a) {x : Nat} (hLx : x ∈ L) (hkx : κ x = 7) (a0 : Int32) (a1 : Int32) (a2 : Int32) (ra1 : Rg 0 62 a1) (hU : Uv L κ ow I) : CtI l yX7_addStep cX7_addStep 4 (some .boolean) { frames := 0, cells := 0, slots := 0, locals := 0 } D cy L κ ln R I J [.ref x, .int a0, .int a1, .int a2] (fun r I2 J2 => Uv L κ ow I2 ∧ Fq L κ ow [704, 52000, 52100, 52200] I I2 ∧ Fq L κ ow [] J J2 ∧ Rg 0 1 r) := by
  refine CtI.of (by decide +kernel) (Nat.le_of_ble_eq_true rfl) ?_
  intro p e s m below meth c B K
  have C := B.1
  have hF : Fq L κ ow [704, 52000, 52100, 52200] I I := fq_rf
  have hG : Fq L κ ow [] J J := fq_rf
  obtain ⟨b_415473, hb_415473, hb_415473L, hb_415473k, hb_415473n, hb_415473o⟩ := shp_a (W9 x hLx) hkx 1 14 40 rfl (by decide)
  obtain ⟨b_415474, hb_415474, hb_415474L, hb_415474k, hb_415474n, hb_415474o⟩ := shp_a (W9 x hLx) hkx 2 14 40 rfl (by decide)
  obtain ⟨b_415475, hb_415475, hb_415475L, hb_415475k, hb_415475n, hb_415475o⟩ := shp_a (W9 x hLx) hkx 0 14 40 rfl (by decide)
  refine g_lo (is := [0, 1, 2, 3]) (lo2 := [(0, .ref x), (1, .int a0), (2, .int a1), (3, .int a2)]) rfl ?_
  refine g_aload_n C 0 dX7_addStep_0 rfl rfl ?_
  obtain ⟨x_415476, hx_415476, rx_415476⟩ := ex_get (I := I) (a := x) (j := 4) (lo := 0) (hi := 40) hU hLx (ro_o hkx (by decide)) rfl
  refine g_getI C K hLx hkx f_7_24 (v := x_415476) hx_415476 dX7_addStep_1 ?_
  refine g_bipush C (v := 40) dX7_addStep_4 (by decide) ?_
  refine g_icmp_lt C (tgt := 11) dX7_addStep_6 (by decide) (fun h_415477 => ?_) (fun h_415477 => ?_)
  · skip
    have r_415478 := lt_l (hi := 39) (h_415477) rx_415476 rc_40 (by decide)
    refine g_aload_n C 0 dX7_addStep_11 rfl rfl ?_
    refine g_getR C K hLx hkx f_7_11 hb_415475 dX7_addStep_12 ?_
    refine g_aload_n C 0 dX7_addStep_15 rfl rfl ?_
    refine g_getI C K hLx hkx f_7_24 (v := x_415476) hx_415476 dX7_addStep_16 ?_
    refine g_iload_n C 1 dX7_addStep_19 rfl rfl ?_
    refine h_iast C K hb_415475L hb_415475k (x_415476.toNatClampNeg) (rfl) (ix_0 r_415478 (by decide)) (ix_lt r_415478 (by decide) hb_415475n (by decide)) dX7_addStep_20 (fun I_415479 hI_415479 => ?_)
    have hU_415480 := uv_put hU hI_415479 (ro_a hb_415475k (by decide) hb_415475o hkx rfl) (lo := (-2147483648)) (hi := 2147483647) (rfl) ((rg_all a0))
    have hF_415481 := fq_puta hF hI_415479 (ro_a hb_415475k (by decide) hb_415475o hkx rfl) (by decide) (by decide)
    refine g_aload_n C 0 dX7_addStep_21 rfl rfl ?_
    refine g_getR C K hLx hkx f_7_15 hb_415473 dX7_addStep_22 ?_
    refine g_aload_n C 0 dX7_addStep_25 rfl rfl ?_
    refine g_getI C K hLx hkx f_7_24 (v := x_415476) (kp_k hI_415479 (by rw [hkx, hb_415475k]; decide) hx_415476) dX7_addStep_26 ?_
    refine g_iload_n C 2 dX7_addStep_29 rfl rfl ?_
    refine h_iast C K hb_415473L hb_415473k (x_415476.toNatClampNeg) (rfl) (ix_0 r_415478 (by decide)) (ix_lt r_415478 (by decide) hb_415473n (by decide)) dX7_addStep_30 (fun I_415482 hI_415482 => ?_)
    have hU_415483 := uv_put hU_415480 hI_415482 (ro_a hb_415473k (by decide) hb_415473o hkx rfl) (lo := (-2147483648)) (hi := 2147483647) (rfl) (rg_all _)
    have hF_415484 := fq_puta hF_415481 hI_415482 (ro_a hb_415473k (by decide) hb_415473o hkx rfl) (by decide) (by decide)
    refine g_aload_n C 0 dX7_addStep_31 rfl rfl ?_
    refine g_getR C K hLx hkx f_7_18 hb_415474 dX7_addStep_32 ?_
    refine g_aload_n C 0 dX7_addStep_35 rfl rfl ?_
    refine g_getI C K hLx hkx f_7_24 (v := x_415476) (kp_k hI_415482 (by rw [hkx, hb_415473k]; decide) (kp_k hI_415479 (by rw [hkx, hb_415475k]; decide) hx_415476)) dX7_addStep_36 ?_
    refine g_iload_n C 3 dX7_addStep_39 rfl rfl ?_
    refine h_iast C K hb_415474L hb_415474k (x_415476.toNatClampNeg) (rfl) (ix_0 r_415478 (by decide)) (ix_lt r_415478 (by decide) hb_415474n (by decide)) dX7_addStep_40 (fun I_415485 hI_415485 => ?_)
    have hU_415486 := uv_put hU_415483 hI_415485 (ro_a hb_415474k (by decide) hb_415474o hkx rfl) (lo := (-2147483648)) (hi := 2147483647) (rfl) ((rg_all a2))
    have hF_415487 := fq_puta hF_415484 hI_415485 (ro_a hb_415474k (by decide) hb_415474o hkx rfl) (by decide) (by decide)
    refine g_aload_n C 0 dX7_addStep_41 rfl rfl ?_
    refine g_dup C dX7_addStep_42 rfl ?_
    refine g_getI C K hLx hkx f_7_24 (v := x_415476) (kp_k hI_415485 (by rw [hkx, hb_415474k]; decide) (kp_k hI_415482 (by rw [hkx, hb_415473k]; decide) (kp_k hI_415479 (by rw [hkx, hb_415475k]; decide) hx_415476))) dX7_addStep_43 ?_
    refine g_iconst C (v := 1) dX7_addStep_46 (by decide) ?_
    obtain ⟨x_415488, hx_415488, rx_415488, tx_415488⟩ := ex_add 1 40 r_415478 rc_1 (by decide) (by decide) (by decide) (by decide)
    refine g_iadd C (v := x_415488) dX7_addStep_47 hx_415488 ?_
    refine h_putI C K hLx hkx f_7_24 p_7_4 dX7_addStep_48 (fun I_415489 hI_415489 => ?_)
    have hU_415490 := uv_put hU_415486 hI_415489 (ro_o hkx (by decide)) (lo := 0) (hi := 40) rfl (rg_w rx_415488 (by decide) (by decide))
    have hF_415491 := fq_puto hF_415487 hI_415489 hkx (by decide) (by decide)
    refine g_iconst C (v := 1) dX7_addStep_51 (by decide) ?_
    exact g_zret (ty := .boolean) (r := 1) B K rfl (rfl) ⟨hU_415490, hF_415491, hG, rg_w rc_1 (by decide) (by decide)⟩ dX7_addStep_52
  · skip
    have r_415492 := le_r (nlt h_415477) rc_40 rx_415476
    refine g_iconst C (v := 0) dX7_addStep_9 (by decide) ?_
    exact g_zret (ty := .boolean) (r := 0) B K rfl (rfl) ⟨hU, hF, hG, rg_w rc_0 (by decide) (by decide)⟩ dX7_addStep_10
set_option maxRecDepth 100000 in
set_option maxHeartbeats 8000000 in
theorem c_X7_beginsOne {l : Launch} {D : va_G} {cy : Nat → ClassId} {L : List Nat} {κ ln : Nat → Nat} {R : Nat → Nat → Option Nat} {I : Nat → Nat → Int32} {J : Nat → Nat → Int64} {ow : Nat → Nat × Nat} (W9 : ∀ a ∈ L, Shp L κ ln R ow a) (a0 : Int32) (hU : Uv L κ ow I) : CtI l yX7_beginsOne cX7_beginsOne 1 (some .boolean) { frames := 0, cells := 0, slots := 0, locals := 0 } D cy L κ ln R I J [.int a0] (fun r I2 J2 => I = I2 ∧ J = J2 ∧ Rg 0 1 r) := by
  refine CtI.of (by decide +kernel) (Nat.le_of_ble_eq_true rfl) ?_
  intro p e s m below meth c B K
  have C := B.1
  refine g_lo (is := [0]) (lo2 := [(0, .int a0)]) rfl ?_
  have j_23 : ∀ (v_415517 : Int32) (rv_415517 : Rg 5 40 v_415517), WG p l e { frames := 0, cells := 0, slots := 0, locals := 0 } s m ([.int a0] : List Value).toArray below meth c 1 0 0 (MQ below (Qi_ D cy L κ ln R (fun r I2 J2 => I = I2 ∧ J = J2 ∧ Rg 0 1 r)) ([.int a0] : List Value).toArray s 0 0 (Al_ L)) D cy (Al_ L) s.heap L κ ln R I J 23 [(0, .int v_415517)] [] := by
    intro v_415517 rv_415517
    refine g_iconst C (v := 1) dX7_beginsOne_23 (by decide) ?_
    refine g_goto C (tgt := 28) dX7_beginsOne_24 (by decide) ?_
    exact g_zret (ty := .boolean) (r := 1) B K rfl (rfl) ⟨rfl, rfl, rg_w rc_1 (by decide) (by decide)⟩ dX7_beginsOne_28
  refine g_iload_n C 0 dX7_beginsOne_0 rfl rfl ?_
  refine g_bipush C (v := 40) dX7_beginsOne_1 (by decide) ?_
  refine g_icmp_eq C (tgt := 23) dX7_beginsOne_3 (by decide) (fun h_415518 => ?_) (fun h_415518 => ?_)
  · skip
    have r_415519 := (⟨(eq_rg (h_415518) rc_40).1, (eq_rg (h_415518) rc_40).2⟩ : Rg 40 40 a0)
    refine g_lo (is := [0]) (lo2 := [(0, .int a0)]) rfl ?_
    exact j_23 a0 (rg_w r_415519 (by decide) (by decide))
  · skip
    have n_415520 : ¬ a0 = 40 := h_415518
    refine g_iload_n C 0 dX7_beginsOne_6 rfl rfl ?_
    refine g_iconst C (v := 5) dX7_beginsOne_7 (by decide) ?_
    refine g_icmp_eq C (tgt := 23) dX7_beginsOne_8 (by decide) (fun h_415521 => ?_) (fun h_415521 => ?_)
    · skip
      have r_415522 := (⟨(eq_rg (h_415521) rc_5).1, (eq_rg (h_415521) rc_5).2⟩ : Rg 5 5 a0)
      refine g_lo (is := [0]) (lo2 := [(0, .int a0)]) rfl ?_
      exact j_23 a0 (rg_w r_415522 (by decide) (by decide))
    · skip
      have n_415523 : ¬ a0 = 5 := h_415521
      refine g_iload_n C 0 dX7_beginsOne_11 rfl rfl ?_
      refine g_bipush C (v := 19) dX7_beginsOne_12 (by decide) ?_
      refine g_icmp_lt C (tgt := 27) dX7_beginsOne_14 (by decide) (fun h_415524 => ?_) (fun h_415524 => ?_)
      · skip
        have r_415525 := lt_l (hi := 18) (h_415524) (rg_all a0) rc_19 (by decide)
        refine g_iconst C (v := 0) dX7_beginsOne_27 (by decide) ?_
        exact g_zret (ty := .boolean) (r := 0) B K rfl (rfl) ⟨rfl, rfl, rg_w rc_0 (by decide) (by decide)⟩ dX7_beginsOne_28
      · skip
        have r_415526 := le_r (nlt h_415524) rc_19 (rg_all a0)
        refine g_iload_n C 0 dX7_beginsOne_17 rfl rfl ?_
        refine g_bipush C (v := 27) dX7_beginsOne_18 (by decide) ?_
        refine g_icmp_gt C (tgt := 27) dX7_beginsOne_20 (by decide) (fun h_415527 => ?_) (fun h_415527 => ?_)
        · skip
          have r_415528 := lt_r (lo := 28) (h_415527) rc_27 r_415526 (by decide)
          refine g_iconst C (v := 0) dX7_beginsOne_27 (by decide) ?_
          exact g_zret (ty := .boolean) (r := 0) B K rfl (rfl) ⟨rfl, rfl, rg_w rc_0 (by decide) (by decide)⟩ dX7_beginsOne_28
        · skip
          have r_415529 := le_l (nlt h_415527) r_415526 rc_27
          refine g_lo (is := [0]) (lo2 := [(0, .int a0)]) rfl ?_
          exact j_23 a0 (rg_w r_415529 (by decide) (by decide))
set_option maxRecDepth 100000 in
set_option maxHeartbeats 8000000 in
theorem c_X7_readPlainOne {l : Launch} {D : va_G} {cy : Nat → ClassId} {L : List Nat} {κ ln : Nat → Nat} {R : Nat → Nat → Option Nat} {I : Nat → Nat → Int32} {J : Nat → Nat → Int64} {ow : Nat → Nat × Nat} (W9 : ∀ a ∈ L, Shp L κ ln R ow a) {x : Nat} (hLx : x ∈ L) (hkx : κ x = 7) {a0 : Nat} (hLa0 : a0 ∈ L) (hka0 : κ a0 = 10) {a1 : Nat} (hLa1 : a1 ∈ L) (hka1 : κ a1 = 8) (a2 : Int32) (hU : Uv L κ ow I) : CtI l yX7_readPlainOne cX7_readPlainOne 6 (some .boolean) { frames := 2, cells := 0, slots := 0, locals := 44 } D cy L κ ln R I J [.ref x, .ref a0, .ref a1, .int a2] (fun r I2 J2 => Uv L κ ow I2 ∧ Fq L κ ow [704, 1007, 1008, 1009, 1011, 1012, 52000, 52100, 52200] I I2 ∧ Fq L κ ow [1010] J J2 ∧ Rg 0 1 r) := by
  refine CtI.of (by decide +kernel) (Nat.le_of_ble_eq_true rfl) ?_
  intro p e s m below meth c B K
  have C := B.1
  have hF : Fq L κ ow [704, 1007, 1008, 1009, 1011, 1012, 52000, 52100, 52200] I I := fq_rf
  have hG : Fq L κ ow [1010] J J := fq_rf
  refine g_lo (is := [0, 1, 2, 3]) (lo2 := [(0, .ref x), (1, .ref a0), (2, .ref a1), (3, .int a2)]) rfl ?_
  have j_132 : ∀ (I_415744 : Nat → Nat → Int32) (J_415745 : Nat → Nat → Int64) (hU_415746 : Uv L κ ow I_415744) (hF_415747 : Fq L κ ow [704, 1007, 1008, 1009, 1011, 1012, 52000, 52100, 52200] I I_415744) (hG_415748 : Fq L κ ow [1010] J J_415745) (v_415749 : Int32) (rv_415749 : Rg 24 2147483647 v_415749) (nv_415749_5 : ¬ v_415749 = 5) (nv_415749_23 : ¬ v_415749 = 23) (v_415750 : Int32) (rv_415750 : Rg 60 62 v_415750) (q_415751 : I_415744 a0 8 = v_415750), WG p l e { frames := 2, cells := 0, slots := 0, locals := 44 } s m ([.ref x, .ref a0, .ref a1, .int a2] : List Value).toArray below meth c 6 0 0 (MQ below (Qi_ D cy L κ ln R (fun r I2 J2 => Uv L κ ow I2 ∧ Fq L κ ow [704, 1007, 1008, 1009, 1011, 1012, 52000, 52100, 52200] I I2 ∧ Fq L κ ow [1010] J J2 ∧ Rg 0 1 r)) ([.ref x, .ref a0, .ref a1, .int a2] : List Value).toArray s 0 0 (Al_ L)) D cy (Al_ L) s.heap L κ ln R I_415744 J_415745 132 [(0, .ref x), (1, .ref a0), (2, .ref a1), (3, .int v_415749), (4, .int v_415750)] [] := by
    intro I_415744 J_415745 hU_415746 hF_415747 hG_415748 v_415749 rv_415749 nv_415749_5 nv_415749_23 v_415750 rv_415750 q_415751
    refine g_aload_n C 1 dX7_readPlainOne_132 rfl rfl ?_
    refine g_callVV C K (c_X10_advance W9 hLa0 hka0   hU_415746) hLa0 hka0 (by decide) rfl v_7_60 rfl ⟨rfl, rfl⟩ ⟨Nat.le_of_ble_eq_true rfl, Nat.le_of_ble_eq_true rfl⟩ (Nat.le_of_ble_eq_true rfl) ⟨Nat.le_of_ble_eq_true rfl, Nat.le_of_ble_eq_true rfl⟩ dX7_readPlainOne_133 rfl (st := []) (fun I_415753 J_415754 h_415755 => ?_)
    obtain ⟨hUI_415753, hFI_415753, hGJ_415754⟩ := h_415755
    have hF_415756 := fq_tr hF_415747 hFI_415753 (by decide)
    have hG_415757 := fq_tr hG_415748 hGJ_415754 (by decide)
    refine g_aload_n C 1 dX7_readPlainOne_136 rfl rfl ?_
    refine g_iconst C (v := 0) dX7_readPlainOne_137 (by decide) ?_
    refine g_sipush C (v := 999) dX7_readPlainOne_138 (by decide) ?_
    refine g_callVI C K (c_X10_takeNumber W9 hLa0 hka0 0 999 (rg_w rc_0 (by decide) (by decide)) (rg_w rc_999 (by decide) (by decide)) hUI_415753) hLa0 hka0 (by decide) rfl v_7_96 rfl ⟨rfl, rfl⟩ ⟨Nat.le_of_ble_eq_true rfl, Nat.le_of_ble_eq_true rfl⟩ (Nat.le_of_ble_eq_true rfl) ⟨Nat.le_of_ble_eq_true rfl, Nat.le_of_ble_eq_true rfl⟩ dX7_readPlainOne_141 rfl (st := []) (fun x_415758 I_415759 J_415760 h_415761 => ?_)
    obtain ⟨hUI_415759, hFI_415759, hGJ_415760, rx_415758⟩ := h_415761
    have hF_415762 := fq_tr hF_415756 hFI_415759 (by decide)
    have hG_415763 := fq_tr hG_415757 hGJ_415760 (by decide)
    refine g_istore C dX7_readPlainOne_144 (by decide) (lo2 := [(5, .int x_415758), (0, .ref x), (1, .ref a0), (2, .ref a1), (3, .int v_415749), (4, .int v_415750)]) rfl ?_
    refine g_iload C 0 dX7_readPlainOne_146 rfl ?_
    refine g_iconst C (v := (-1)) dX7_readPlainOne_148 (by decide) ?_
    refine g_icmp_eq C (tgt := 168) dX7_readPlainOne_149 (by decide) (fun h_415764 => ?_) (fun h_415764 => ?_)
    · skip
      have r_415765 := (⟨(eq_rg (h_415764) rc_m1).1, (eq_rg (h_415764) rc_m1).2⟩ : Rg (-1) (-1) x_415758)
      refine g_iconst C (v := 0) dX7_readPlainOne_168 (by decide) ?_
      exact g_zret (ty := .boolean) (r := 0) B K rfl (rfl) ⟨hUI_415759, hF_415762, hG_415763, rg_w rc_0 (by decide) (by decide)⟩ dX7_readPlainOne_169
    · skip
      have n_415766 : ¬ x_415758 = (-1) := h_415764
      refine g_aload_n C 1 dX7_readPlainOne_152 rfl rfl ?_
      refine g_iload_n C 4 dX7_readPlainOne_153 rfl rfl ?_
      refine g_iload C 5 dX7_readPlainOne_154 rfl ?_
      refine g_iload C 0 dX7_readPlainOne_156 rfl ?_
      refine g_callVI C K (c_X7_addStep W9 hLx hkx v_415749 v_415750 x_415758 (rg_w rv_415750 (by decide) (by decide)) hUI_415759) hLx hkx (by decide) rfl v_7_63 rfl ⟨rfl, rfl⟩ ⟨Nat.le_of_ble_eq_true rfl, Nat.le_of_ble_eq_true rfl⟩ (Nat.le_of_ble_eq_true rfl) ⟨Nat.le_of_ble_eq_true rfl, Nat.le_of_ble_eq_true rfl⟩ dX7_readPlainOne_158 rfl (st := []) (fun x_415767 I_415768 J_415769 h_415770 => ?_)
      obtain ⟨hUI_415768, hFI_415768, hGJ_415769, rx_415767⟩ := h_415770
      have hF_415771 := fq_tr hF_415762 hFI_415768 (by decide)
      have hG_415772 := fq_tr hG_415763 hGJ_415769 (by decide)
      refine g_if_eq C (tgt := 168) dX7_readPlainOne_161 (by decide) (fun h_415773 => ?_) (fun h_415773 => ?_)
      · skip
        have r_415774 := (⟨(rx_415767).1, (eq_rg (h_415773) rc_0).2⟩ : Rg 0 0 x_415767)
        refine g_iconst C (v := 0) dX7_readPlainOne_168 (by decide) ?_
        exact g_zret (ty := .boolean) (r := 0) B K rfl (rfl) ⟨hUI_415768, hF_415771, hG_415772, rg_w rc_0 (by decide) (by decide)⟩ dX7_readPlainOne_169
      · skip
        have n_415775 : ¬ x_415767 = 0 := h_415773
        have r_415776 := ne_lo (lo := 1) n_415775 rx_415767 rc_0 rfl (by decide)
        refine g_iconst C (v := 1) dX7_readPlainOne_164 (by decide) ?_
        refine g_goto C (tgt := 169) dX7_readPlainOne_165 (by decide) ?_
        exact g_zret (ty := .boolean) (r := 1) B K rfl (rfl) ⟨hUI_415768, hF_415771, hG_415772, rg_w rc_1 (by decide) (by decide)⟩ dX7_readPlainOne_169
  refine g_iload_n C 3 dX7_readPlainOne_0 rfl rfl ?_
  refine g_iconst C (v := 5) dX7_readPlainOne_1 (by decide) ?_
  refine g_icmp_ne C (tgt := 42) dX7_readPlainOne_2 (by decide) (fun h_415777 => ?_) (fun h_415777 => ?_)
  · skip
    have n_415778 : ¬ a2 = 5 := h_415777
    refine g_iload_n C 3 dX7_readPlainOne_42 rfl rfl ?_
    refine g_bipush C (v := 23) dX7_readPlainOne_43 (by decide) ?_
    refine g_icmp_ne C (tgt := 85) dX7_readPlainOne_45 (by decide) (fun h_415779 => ?_) (fun h_415779 => ?_)
    · skip
      have n_415780 : ¬ a2 = 23 := h_415779
      refine g_iload_n C 3 dX7_readPlainOne_85 rfl rfl ?_
      refine g_bipush C (v := 23) dX7_readPlainOne_86 (by decide) ?_
      refine g_icmp_ge C (tgt := 99) dX7_readPlainOne_88 (by decide) (fun h_415781 => ?_) (fun h_415781 => ?_)
      · skip
        have r_415782 := le_r (h_415781) rc_23 (rg_all a2)
        have r_415783 := ne_lo (lo := 24) n_415780 r_415782 rc_23 rfl (by decide)
        refine g_aload_n C 1 dX7_readPlainOne_99 rfl rfl ?_
        obtain ⟨x_415784, hx_415784, rx_415784⟩ := ex_get (I := I) (a := a0) (j := 8) (lo := (-2147483648)) (hi := 2147483647) hU hLa0 (ro_o hka0 (by decide)) rfl
        refine g_getI C K hLa0 hka0 f_7_57 (v := x_415784) hx_415784 dX7_readPlainOne_100 ?_
        refine g_istore C dX7_readPlainOne_103 (by decide) (lo2 := [(4, .int x_415784), (0, .ref x), (1, .ref a0), (2, .ref a1), (3, .int a2)]) rfl ?_
        refine g_iload C 0 dX7_readPlainOne_105 rfl ?_
        refine g_bipush C (v := 60) dX7_readPlainOne_107 (by decide) ?_
        refine g_icmp_eq C (tgt := 132) dX7_readPlainOne_109 (by decide) (fun h_415785 => ?_) (fun h_415785 => ?_)
        · skip
          have r_415786 := (⟨(eq_rg (h_415785) rc_60).1, (eq_rg (h_415785) rc_60).2⟩ : Rg 60 60 x_415784)
          refine g_lo (is := [1, 2, 3, 4, 0]) (lo2 := [(0, .ref x), (1, .ref a0), (2, .ref a1), (3, .int a2), (4, .int x_415784)]) rfl ?_
          exact j_132 I J hU hF hG a2 (r_415783) (n_415778) (n_415780) x_415784 (rg_w r_415786 (by decide) (by decide)) hx_415784
        · skip
          have n_415787 : ¬ x_415784 = 60 := h_415785
          refine g_iload C 0 dX7_readPlainOne_112 rfl ?_
          refine g_bipush C (v := 61) dX7_readPlainOne_114 (by decide) ?_
          refine g_icmp_eq C (tgt := 132) dX7_readPlainOne_116 (by decide) (fun h_415788 => ?_) (fun h_415788 => ?_)
          · skip
            have r_415789 := (⟨(eq_rg (h_415788) rc_61).1, (eq_rg (h_415788) rc_61).2⟩ : Rg 61 61 x_415784)
            refine g_lo (is := [1, 2, 3, 4, 0]) (lo2 := [(0, .ref x), (1, .ref a0), (2, .ref a1), (3, .int a2), (4, .int x_415784)]) rfl ?_
            exact j_132 I J hU hF hG a2 (r_415783) (n_415778) (n_415780) x_415784 (rg_w r_415789 (by decide) (by decide)) hx_415784
          · skip
            have n_415790 : ¬ x_415784 = 61 := h_415788
            refine g_iload C 0 dX7_readPlainOne_119 rfl ?_
            refine g_bipush C (v := 62) dX7_readPlainOne_121 (by decide) ?_
            refine g_icmp_eq C (tgt := 132) dX7_readPlainOne_123 (by decide) (fun h_415791 => ?_) (fun h_415791 => ?_)
            · skip
              have r_415792 := (⟨(eq_rg (h_415791) rc_62).1, (eq_rg (h_415791) rc_62).2⟩ : Rg 62 62 x_415784)
              refine g_lo (is := [1, 2, 3, 4, 0]) (lo2 := [(0, .ref x), (1, .ref a0), (2, .ref a1), (3, .int a2), (4, .int x_415784)]) rfl ?_
              exact j_132 I J hU hF hG a2 (r_415783) (n_415778) (n_415780) x_415784 (rg_w r_415792 (by decide) (by decide)) hx_415784
            · skip
              have n_415793 : ¬ x_415784 = 62 := h_415791
              refine g_aload_n C 2 dX7_readPlainOne_126 rfl rfl ?_
              refine g_iconst C (v := 1) dX7_readPlainOne_127 (by decide) ?_
              refine g_callVI C K (c_X10_fail W9 hLa0 hka0 1 (rg_w rc_1 (by decide) (by decide)) hU) hLa0 hka0 (by decide) rfl v_7_73 rfl ⟨rfl, rfl⟩ ⟨Nat.le_of_ble_eq_true rfl, Nat.le_of_ble_eq_true rfl⟩ (Nat.le_of_ble_eq_true rfl) ⟨Nat.le_of_ble_eq_true rfl, Nat.le_of_ble_eq_true rfl⟩ dX7_readPlainOne_128 rfl (st := []) (fun x_415794 I_415795 J_415796 h_415797 => ?_)
              obtain ⟨hUI_415795, hFI_415795, hGJ_415796, rx_415794⟩ := h_415797
              have hF_415798 := fq_tr hF hFI_415795 (by decide)
              have hG_415799 := fq_tr hG hGJ_415796 (by decide)
              exact g_zret (ty := .boolean) (r := x_415794) B K rfl (nar_z (rg_w rx_415794 (by decide) (by decide))) ⟨hUI_415795, hF_415798, hG_415799, rg_w rx_415794 (by decide) (by decide)⟩ dX7_readPlainOne_131
      · skip
        have r_415800 := lt_l (hi := 22) (nle h_415781) (rg_all a2) rc_23 (by decide)
        refine g_aload_n C 0 dX7_readPlainOne_91 rfl rfl ?_
        refine g_iload_n C 3 dX7_readPlainOne_92 rfl rfl ?_
        refine g_iconst C (v := 0) dX7_readPlainOne_93 (by decide) ?_
        refine g_iconst C (v := 0) dX7_readPlainOne_94 (by decide) ?_
        refine g_callVI C K (c_X7_addStep W9 hLx hkx a2 0 0 (rg_w rc_0 (by decide) (by decide)) hU) hLx hkx (by decide) rfl v_7_63 rfl ⟨rfl, rfl⟩ ⟨Nat.le_of_ble_eq_true rfl, Nat.le_of_ble_eq_true rfl⟩ (Nat.le_of_ble_eq_true rfl) ⟨Nat.le_of_ble_eq_true rfl, Nat.le_of_ble_eq_true rfl⟩ dX7_readPlainOne_95 rfl (st := []) (fun x_415801 I_415802 J_415803 h_415804 => ?_)
        obtain ⟨hUI_415802, hFI_415802, hGJ_415803, rx_415801⟩ := h_415804
        have hF_415805 := fq_tr hF hFI_415802 (by decide)
        have hG_415806 := fq_tr hG hGJ_415803 (by decide)
        exact g_zret (ty := .boolean) (r := x_415801) B K rfl (nar_z (rx_415801)) ⟨hUI_415802, hF_415805, hG_415806, rx_415801⟩ dX7_readPlainOne_98
    · skip
      have r_415807 := (⟨(eq_rg (h_415779) rc_23).1, (eq_rg (h_415779) rc_23).2⟩ : Rg 23 23 a2)
      refine g_aload_n C 1 dX7_readPlainOne_48 rfl rfl ?_
      refine g_aload_n C 2 dX7_readPlainOne_49 rfl rfl ?_
      refine g_aload_n C 1 dX7_readPlainOne_50 rfl rfl ?_
      obtain ⟨y_415808, hy_415808⟩ : ∃ z, J a0 10 = z := ⟨_, rfl⟩
      refine g_getJ C K hLa0 hka0 f_7_79 (v := y_415808) hy_415808 dX7_readPlainOne_51 ?_
      refine g_callVI C K (c_X8_dishNamed W9 hLa1 hka1 y_415808  hU) hLa1 hka1 (by decide) rfl v_7_93 rfl ⟨rfl, rfl⟩ ⟨Nat.le_of_ble_eq_true rfl, Nat.le_of_ble_eq_true rfl⟩ (Nat.le_of_ble_eq_true rfl) ⟨Nat.le_of_ble_eq_true rfl, Nat.le_of_ble_eq_true rfl⟩ dX7_readPlainOne_54 rfl (st := [.ref a0]) (fun x_415809 I_415810 J_415811 h_415812 => ?_)
      obtain ⟨rfl, rfl, rx_415809⟩ := h_415812
      refine g_callVI C K (c_X10_takeName W9 hLa0 hka0 x_415809 (rg_w rx_415809 (by decide) (by decide)) hU) hLa0 hka0 (by decide) rfl v_7_89 rfl ⟨rfl, rfl⟩ ⟨Nat.le_of_ble_eq_true rfl, Nat.le_of_ble_eq_true rfl⟩ (Nat.le_of_ble_eq_true rfl) ⟨Nat.le_of_ble_eq_true rfl, Nat.le_of_ble_eq_true rfl⟩ dX7_readPlainOne_57 rfl (st := []) (fun x_415813 I_415814 J_415815 h_415816 => ?_)
      obtain ⟨hUI_415814, hFI_415814, hGJ_415815, rx_415813⟩ := h_415816
      have hF_415817 := fq_tr hF hFI_415814 (by decide)
      have hG_415818 := fq_tr hG hGJ_415815 (by decide)
      refine g_istore C dX7_readPlainOne_60 (by decide) (lo2 := [(4, .int x_415813), (0, .ref x), (1, .ref a0), (2, .ref a1), (3, .int a2)]) rfl ?_
      refine g_iload C 0 dX7_readPlainOne_62 rfl ?_
      refine g_iconst C (v := (-1)) dX7_readPlainOne_64 (by decide) ?_
      refine g_icmp_eq C (tgt := 83) dX7_readPlainOne_65 (by decide) (fun h_415819 => ?_) (fun h_415819 => ?_)
      · skip
        have r_415820 := (⟨(rx_415813).1, (eq_rg (h_415819) rc_m1).2⟩ : Rg (-1) (-1) x_415813)
        refine g_iconst C (v := 0) dX7_readPlainOne_83 (by decide) ?_
        exact g_zret (ty := .boolean) (r := 0) B K rfl (rfl) ⟨hUI_415814, hF_415817, hG_415818, rg_w rc_0 (by decide) (by decide)⟩ dX7_readPlainOne_84
      · skip
        have n_415821 : ¬ x_415813 = (-1) := h_415819
        have r_415822 := ne_lo (lo := 0) n_415821 rx_415813 rc_m1 rfl (by decide)
        refine g_aload_n C 1 dX7_readPlainOne_68 rfl rfl ?_
        refine g_iload_n C 4 dX7_readPlainOne_69 rfl rfl ?_
        refine g_iconst C (v := 0) dX7_readPlainOne_70 (by decide) ?_
        refine g_iload C 0 dX7_readPlainOne_71 rfl ?_
        refine g_callVI C K (c_X7_addStep W9 hLx hkx a2 0 x_415813 (rg_w rc_0 (by decide) (by decide)) hUI_415814) hLx hkx (by decide) rfl v_7_63 rfl ⟨rfl, rfl⟩ ⟨Nat.le_of_ble_eq_true rfl, Nat.le_of_ble_eq_true rfl⟩ (Nat.le_of_ble_eq_true rfl) ⟨Nat.le_of_ble_eq_true rfl, Nat.le_of_ble_eq_true rfl⟩ dX7_readPlainOne_73 rfl (st := []) (fun x_415823 I_415824 J_415825 h_415826 => ?_)
        obtain ⟨hUI_415824, hFI_415824, hGJ_415825, rx_415823⟩ := h_415826
        have hF_415827 := fq_tr hF_415817 hFI_415824 (by decide)
        have hG_415828 := fq_tr hG_415818 hGJ_415825 (by decide)
        refine g_if_eq C (tgt := 83) dX7_readPlainOne_76 (by decide) (fun h_415829 => ?_) (fun h_415829 => ?_)
        · skip
          have r_415830 := (⟨(rx_415823).1, (eq_rg (h_415829) rc_0).2⟩ : Rg 0 0 x_415823)
          refine g_iconst C (v := 0) dX7_readPlainOne_83 (by decide) ?_
          exact g_zret (ty := .boolean) (r := 0) B K rfl (rfl) ⟨hUI_415824, hF_415827, hG_415828, rg_w rc_0 (by decide) (by decide)⟩ dX7_readPlainOne_84
        · skip
          have n_415831 : ¬ x_415823 = 0 := h_415829
          have r_415832 := ne_lo (lo := 1) n_415831 rx_415823 rc_0 rfl (by decide)
          refine g_iconst C (v := 1) dX7_readPlainOne_79 (by decide) ?_
          refine g_goto C (tgt := 84) dX7_readPlainOne_80 (by decide) ?_
          exact g_zret (ty := .boolean) (r := 1) B K rfl (rfl) ⟨hUI_415824, hF_415827, hG_415828, rg_w rc_1 (by decide) (by decide)⟩ dX7_readPlainOne_84
  · skip
    have r_415833 := (⟨(eq_rg (h_415777) rc_5).1, (eq_rg (h_415777) rc_5).2⟩ : Rg 5 5 a2)
    refine g_aload_n C 1 dX7_readPlainOne_5 rfl rfl ?_
    refine g_aload_n C 2 dX7_readPlainOne_6 rfl rfl ?_
    refine g_aload_n C 1 dX7_readPlainOne_7 rfl rfl ?_
    obtain ⟨y_415834, hy_415834⟩ : ∃ z, J a0 10 = z := ⟨_, rfl⟩
    refine g_getJ C K hLa0 hka0 f_7_79 (v := y_415834) hy_415834 dX7_readPlainOne_8 ?_
    refine g_callVI C K (c_X8_personNamed W9 hLa1 hka1 y_415834  hU) hLa1 hka1 (by decide) rfl v_7_83 rfl ⟨rfl, rfl⟩ ⟨Nat.le_of_ble_eq_true rfl, Nat.le_of_ble_eq_true rfl⟩ (Nat.le_of_ble_eq_true rfl) ⟨Nat.le_of_ble_eq_true rfl, Nat.le_of_ble_eq_true rfl⟩ dX7_readPlainOne_11 rfl (st := [.ref a0]) (fun x_415835 I_415836 J_415837 h_415838 => ?_)
    obtain ⟨rfl, rfl, rx_415835⟩ := h_415838
    refine g_callVI C K (c_X10_takeName W9 hLa0 hka0 x_415835 (rx_415835) hU) hLa0 hka0 (by decide) rfl v_7_89 rfl ⟨rfl, rfl⟩ ⟨Nat.le_of_ble_eq_true rfl, Nat.le_of_ble_eq_true rfl⟩ (Nat.le_of_ble_eq_true rfl) ⟨Nat.le_of_ble_eq_true rfl, Nat.le_of_ble_eq_true rfl⟩ dX7_readPlainOne_14 rfl (st := []) (fun x_415839 I_415840 J_415841 h_415842 => ?_)
    obtain ⟨hUI_415840, hFI_415840, hGJ_415841, rx_415839⟩ := h_415842
    have hF_415843 := fq_tr hF hFI_415840 (by decide)
    have hG_415844 := fq_tr hG hGJ_415841 (by decide)
    refine g_istore C dX7_readPlainOne_17 (by decide) (lo2 := [(4, .int x_415839), (0, .ref x), (1, .ref a0), (2, .ref a1), (3, .int a2)]) rfl ?_
    refine g_iload C 0 dX7_readPlainOne_19 rfl ?_
    refine g_iconst C (v := (-1)) dX7_readPlainOne_21 (by decide) ?_
    refine g_icmp_eq C (tgt := 40) dX7_readPlainOne_22 (by decide) (fun h_415845 => ?_) (fun h_415845 => ?_)
    · skip
      have r_415846 := (⟨(rx_415839).1, (eq_rg (h_415845) rc_m1).2⟩ : Rg (-1) (-1) x_415839)
      refine g_iconst C (v := 0) dX7_readPlainOne_40 (by decide) ?_
      exact g_zret (ty := .boolean) (r := 0) B K rfl (rfl) ⟨hUI_415840, hF_415843, hG_415844, rg_w rc_0 (by decide) (by decide)⟩ dX7_readPlainOne_41
    · skip
      have n_415847 : ¬ x_415839 = (-1) := h_415845
      have r_415848 := ne_lo (lo := 0) n_415847 rx_415839 rc_m1 rfl (by decide)
      refine g_aload_n C 1 dX7_readPlainOne_25 rfl rfl ?_
      refine g_iload_n C 4 dX7_readPlainOne_26 rfl rfl ?_
      refine g_iconst C (v := 0) dX7_readPlainOne_27 (by decide) ?_
      refine g_iload C 0 dX7_readPlainOne_28 rfl ?_
      refine g_callVI C K (c_X7_addStep W9 hLx hkx a2 0 x_415839 (rg_w rc_0 (by decide) (by decide)) hUI_415840) hLx hkx (by decide) rfl v_7_63 rfl ⟨rfl, rfl⟩ ⟨Nat.le_of_ble_eq_true rfl, Nat.le_of_ble_eq_true rfl⟩ (Nat.le_of_ble_eq_true rfl) ⟨Nat.le_of_ble_eq_true rfl, Nat.le_of_ble_eq_true rfl⟩ dX7_readPlainOne_30 rfl (st := []) (fun x_415849 I_415850 J_415851 h_415852 => ?_)
      obtain ⟨hUI_415850, hFI_415850, hGJ_415851, rx_415849⟩ := h_415852
      have hF_415853 := fq_tr hF_415843 hFI_415850 (by decide)
      have hG_415854 := fq_tr hG_415844 hGJ_415851 (by decide)
      refine g_if_eq C (tgt := 40) dX7_readPlainOne_33 (by decide) (fun h_415855 => ?_) (fun h_415855 => ?_)
      · skip
        have r_415856 := (⟨(rx_415849).1, (eq_rg (h_415855) rc_0).2⟩ : Rg 0 0 x_415849)
        refine g_iconst C (v := 0) dX7_readPlainOne_40 (by decide) ?_
        exact g_zret (ty := .boolean) (r := 0) B K rfl (rfl) ⟨hUI_415850, hF_415853, hG_415854, rg_w rc_0 (by decide) (by decide)⟩ dX7_readPlainOne_41
      · skip
        have n_415857 : ¬ x_415849 = 0 := h_415855
        have r_415858 := ne_lo (lo := 1) n_415857 rx_415849 rc_0 rfl (by decide)
        refine g_iconst C (v := 1) dX7_readPlainOne_36 (by decide) ?_
        refine g_goto C (tgt := 41) dX7_readPlainOne_37 (by decide) ?_
        exact g_zret (ty := .boolean) (r := 1) B K rfl (rfl) ⟨hUI_415850, hF_415853, hG_415854, rg_w rc_1 (by decide) (by decide)⟩ dX7_readPlainOne_41
