theorem dX0_behind_0 : decode cX0_behind 0 = .ok (.iload_n 1, 1) := by decide +kernel
theorem dX0_behind_1 : decode cX0_behind 1 = .ok (.ifCond .ne 7, 3) := by decide +kernel
theorem dX0_behind_4 : decode cX0_behind 4 = .ok (.iconst 0, 1) := by decide +kernel
theorem dX0_behind_5 : decode cX0_behind 5 = .ok (.goto 6, 3) := by decide +kernel
theorem dX0_behind_8 : decode cX0_behind 8 = .ok (.iload_n 0, 1) := by decide +kernel
theorem dX0_behind_9 : decode cX0_behind 9 = .ok (.iload_n 1, 1) := by decide +kernel
theorem dX0_behind_10 : decode cX0_behind 10 = .ok (.iadd, 1) := by decide +kernel
theorem dX0_behind_11 : decode cX0_behind 11 = .ok (.ireturn, 1) := by decide +kernel
theorem dX11_byteAt_0 : decode cX11_byteAt 0 = .ok (.iload_n 1, 1) := by decide +kernel
theorem dX11_byteAt_1 : decode cX11_byteAt 1 = .ok (.ifCond .lt 20, 3) := by decide +kernel
theorem dX11_byteAt_4 : decode cX11_byteAt 4 = .ok (.iload_n 1, 1) := by decide +kernel
theorem dX11_byteAt_5 : decode cX11_byteAt 5 = .ok (.aload_n 0, 1) := by decide +kernel
theorem dX11_byteAt_6 : decode cX11_byteAt 6 = .ok (.getfield 97, 3) := by decide +kernel
theorem dX11_byteAt_9 : decode cX11_byteAt 9 = .ok (.if_icmp .ge 12, 3) := by decide +kernel
theorem dX11_byteAt_12 : decode cX11_byteAt 12 = .ok (.aload_n 0, 1) := by decide +kernel
theorem dX11_byteAt_13 : decode cX11_byteAt 13 = .ok (.getfield 93, 3) := by decide +kernel
theorem dX11_byteAt_16 : decode cX11_byteAt 16 = .ok (.iload_n 1, 1) := by decide +kernel
theorem dX11_byteAt_17 : decode cX11_byteAt 17 = .ok (.baload, 1) := by decide +kernel
theorem dX11_byteAt_18 : decode cX11_byteAt 18 = .ok (.goto 4, 3) := by decide +kernel
theorem dX11_byteAt_21 : decode cX11_byteAt 21 = .ok (.iconst (-1), 1) := by decide +kernel
theorem dX11_byteAt_22 : decode cX11_byteAt 22 = .ok (.ireturn, 1) := by decide +kernel
theorem dX11_hungriest_0 : decode cX11_hungriest 0 = .ok (.iconst (-1), 1) := by decide +kernel
theorem dX11_hungriest_1 : decode cX11_hungriest 1 = .ok (.istore_n 1, 1) := by decide +kernel
theorem dX11_hungriest_2 : decode cX11_hungriest 2 = .ok (.iconst 0, 1) := by decide +kernel
theorem dX11_hungriest_3 : decode cX11_hungriest 3 = .ok (.istore_n 2, 1) := by decide +kernel
theorem dX11_hungriest_4 : decode cX11_hungriest 4 = .ok (.iload_n 2, 1) := by decide +kernel
theorem dX11_hungriest_5 : decode cX11_hungriest 5 = .ok (.aload_n 0, 1) := by decide +kernel
theorem dX11_hungriest_6 : decode cX11_hungriest 6 = .ok (.getfield 19, 3) := by decide +kernel
theorem dX11_hungriest_9 : decode cX11_hungriest 9 = .ok (.getfield 213, 3) := by decide +kernel
theorem dX11_hungriest_12 : decode cX11_hungriest 12 = .ok (.if_icmp .ge 48, 3) := by decide +kernel
theorem dX11_hungriest_15 : decode cX11_hungriest 15 = .ok (.aload_n 0, 1) := by decide +kernel
theorem dX11_hungriest_16 : decode cX11_hungriest 16 = .ok (.getfield 28, 3) := by decide +kernel
theorem dX11_hungriest_19 : decode cX11_hungriest 19 = .ok (.iload_n 2, 1) := by decide +kernel
theorem dX11_hungriest_20 : decode cX11_hungriest 20 = .ok (.invokevirtual 301, 3) := by decide +kernel
theorem dX11_hungriest_23 : decode cX11_hungriest 23 = .ok (.ifCond .eq 31, 3) := by decide +kernel
theorem dX11_hungriest_26 : decode cX11_hungriest 26 = .ok (.iload_n 1, 1) := by decide +kernel
theorem dX11_hungriest_27 : decode cX11_hungriest 27 = .ok (.iconst (-1), 1) := by decide +kernel
theorem dX11_hungriest_28 : decode cX11_hungriest 28 = .ok (.if_icmp .eq 24, 3) := by decide +kernel
theorem dX11_hungriest_31 : decode cX11_hungriest 31 = .ok (.aload_n 0, 1) := by decide +kernel
theorem dX11_hungriest_32 : decode cX11_hungriest 32 = .ok (.getfield 28, 3) := by decide +kernel
theorem dX11_hungriest_35 : decode cX11_hungriest 35 = .ok (.getfield 163, 3) := by decide +kernel
theorem dX11_hungriest_38 : decode cX11_hungriest 38 = .ok (.iload_n 2, 1) := by decide +kernel
theorem dX11_hungriest_39 : decode cX11_hungriest 39 = .ok (.iaload, 1) := by decide +kernel
theorem dX11_hungriest_40 : decode cX11_hungriest 40 = .ok (.aload_n 0, 1) := by decide +kernel
theorem dX11_hungriest_41 : decode cX11_hungriest 41 = .ok (.getfield 28, 3) := by decide +kernel
theorem dX11_hungriest_44 : decode cX11_hungriest 44 = .ok (.getfield 163, 3) := by decide +kernel
theorem dX11_hungriest_47 : decode cX11_hungriest 47 = .ok (.iload_n 1, 1) := by decide +kernel
theorem dX11_hungriest_48 : decode cX11_hungriest 48 = .ok (.iaload, 1) := by decide +kernel
theorem dX11_hungriest_49 : decode cX11_hungriest 49 = .ok (.if_icmp .le 5, 3) := by decide +kernel
theorem dX11_hungriest_52 : decode cX11_hungriest 52 = .ok (.iload_n 2, 1) := by decide +kernel
theorem dX11_hungriest_53 : decode cX11_hungriest 53 = .ok (.istore_n 1, 1) := by decide +kernel
theorem dX11_hungriest_54 : decode cX11_hungriest 54 = .ok (.iinc 2 1, 3) := by decide +kernel
theorem dX11_hungriest_57 : decode cX11_hungriest 57 = .ok (.goto (-53), 3) := by decide +kernel
theorem dX11_hungriest_60 : decode cX11_hungriest 60 = .ok (.iload_n 1, 1) := by decide +kernel
theorem dX11_hungriest_61 : decode cX11_hungriest 61 = .ok (.ireturn, 1) := by decide +kernel
theorem dX11_kin_0 : decode cX11_kin 0 = .ok (.aload_n 0, 1) := by decide +kernel
theorem dX11_kin_1 : decode cX11_kin 1 = .ok (.getfield 19, 3) := by decide +kernel
theorem dX11_kin_4 : decode cX11_kin 4 = .ok (.iload_n 1, 1) := by decide +kernel
theorem dX11_kin_5 : decode cX11_kin 5 = .ok (.invokevirtual 133, 3) := by decide +kernel
theorem dX11_kin_8 : decode cX11_kin 8 = .ok (.ifCond .eq 26, 3) := by decide +kernel
theorem dX11_kin_11 : decode cX11_kin 11 = .ok (.aload_n 0, 1) := by decide +kernel
theorem dX11_kin_12 : decode cX11_kin 12 = .ok (.getfield 19, 3) := by decide +kernel
theorem dX11_kin_15 : decode cX11_kin 15 = .ok (.iload_n 2, 1) := by decide +kernel
theorem dX11_kin_16 : decode cX11_kin 16 = .ok (.invokevirtual 133, 3) := by decide +kernel
theorem dX11_kin_19 : decode cX11_kin 19 = .ok (.ifCond .eq 15, 3) := by decide +kernel
theorem dX11_kin_22 : decode cX11_kin 22 = .ok (.aload_n 0, 1) := by decide +kernel
theorem dX11_kin_23 : decode cX11_kin 23 = .ok (.getfield 19, 3) := by decide +kernel
theorem dX11_kin_26 : decode cX11_kin 26 = .ok (.iload_n 1, 1) := by decide +kernel
theorem dX11_kin_27 : decode cX11_kin 27 = .ok (.iload_n 2, 1) := by decide +kernel
theorem dX11_kin_28 : decode cX11_kin 28 = .ok (.invokevirtual 298, 3) := by decide +kernel
theorem dX11_kin_31 : decode cX11_kin 31 = .ok (.goto 4, 3) := by decide +kernel
theorem dX11_kin_34 : decode cX11_kin 34 = .ok (.iconst (-1), 1) := by decide +kernel
theorem dX11_kin_35 : decode cX11_kin 35 = .ok (.ireturn, 1) := by decide +kernel
theorem dX11_seatAt_0 : decode cX11_seatAt 0 = .ok (.iload_n 1, 1) := by decide +kernel
theorem dX11_seatAt_1 : decode cX11_seatAt 1 = .ok (.ifCond .lt 26, 3) := by decide +kernel
theorem dX11_seatAt_4 : decode cX11_seatAt 4 = .ok (.iload_n 1, 1) := by decide +kernel
theorem dX11_seatAt_5 : decode cX11_seatAt 5 = .ok (.aload_n 0, 1) := by decide +kernel
theorem dX11_seatAt_6 : decode cX11_seatAt 6 = .ok (.getfield 76, 3) := by decide +kernel
theorem dX11_seatAt_9 : decode cX11_seatAt 9 = .ok (.getfield 294, 3) := by decide +kernel
theorem dX11_seatAt_12 : decode cX11_seatAt 12 = .ok (.if_icmp .ge 15, 3) := by decide +kernel
theorem dX11_seatAt_15 : decode cX11_seatAt 15 = .ok (.aload_n 0, 1) := by decide +kernel
theorem dX11_seatAt_16 : decode cX11_seatAt 16 = .ok (.getfield 76, 3) := by decide +kernel
theorem dX11_seatAt_19 : decode cX11_seatAt 19 = .ok (.getfield 295, 3) := by decide +kernel
theorem dX11_seatAt_22 : decode cX11_seatAt 22 = .ok (.iload_n 1, 1) := by decide +kernel
theorem dX11_seatAt_23 : decode cX11_seatAt 23 = .ok (.iaload, 1) := by decide +kernel
theorem dX11_seatAt_24 : decode cX11_seatAt 24 = .ok (.goto 4, 3) := by decide +kernel
theorem dX11_seatAt_27 : decode cX11_seatAt 27 = .ok (.iconst (-1), 1) := by decide +kernel
theorem dX11_seatAt_28 : decode cX11_seatAt 28 = .ok (.ireturn, 1) := by decide +kernel
theorem dX11_told_0 : decode cX11_told 0 = .ok (.aload_n 0, 1) := by decide +kernel
theorem dX11_told_1 : decode cX11_told 1 = .ok (.getfield 52, 3) := by decide +kernel
theorem dX11_told_4 : decode cX11_told 4 = .ok (.getfield 352, 3) := by decide +kernel
theorem dX11_told_7 : decode cX11_told 7 = .ok (.ifCond .ne 5, 3) := by decide +kernel
theorem dX11_told_10 : decode cX11_told 10 = .ok (.iconst (-1), 1) := by decide +kernel
theorem dX11_told_11 : decode cX11_told 11 = .ok (.ireturn, 1) := by decide +kernel
theorem dX11_told_12 : decode cX11_told 12 = .ok (.iload_n 1, 1) := by decide +kernel
theorem dX11_told_13 : decode cX11_told 13 = .ok (.tableswitch 63 0 3 #[31, 39, 47, 55], 31) := by decide +kernel
theorem dX11_told_44 : decode cX11_told 44 = .ok (.aload_n 0, 1) := by decide +kernel
theorem dX11_told_45 : decode cX11_told 45 = .ok (.getfield 52, 3) := by decide +kernel
theorem dX11_told_48 : decode cX11_told 48 = .ok (.getfield 346, 3) := by decide +kernel
theorem dX11_told_51 : decode cX11_told 51 = .ok (.ireturn, 1) := by decide +kernel
theorem dX11_told_52 : decode cX11_told 52 = .ok (.aload_n 0, 1) := by decide +kernel
theorem dX11_told_53 : decode cX11_told 53 = .ok (.getfield 52, 3) := by decide +kernel
theorem dX11_told_56 : decode cX11_told 56 = .ok (.getfield 349, 3) := by decide +kernel
theorem dX11_told_59 : decode cX11_told 59 = .ok (.ireturn, 1) := by decide +kernel
theorem dX11_told_60 : decode cX11_told 60 = .ok (.aload_n 0, 1) := by decide +kernel
theorem dX11_told_61 : decode cX11_told 61 = .ok (.getfield 52, 3) := by decide +kernel
theorem dX11_told_64 : decode cX11_told 64 = .ok (.getfield 356, 3) := by decide +kernel
theorem dX11_told_67 : decode cX11_told 67 = .ok (.ireturn, 1) := by decide +kernel
theorem dX11_told_68 : decode cX11_told 68 = .ok (.aload_n 0, 1) := by decide +kernel
theorem dX11_told_69 : decode cX11_told 69 = .ok (.getfield 52, 3) := by decide +kernel
theorem dX11_told_72 : decode cX11_told 72 = .ok (.getfield 359, 3) := by decide +kernel
theorem dX11_told_75 : decode cX11_told 75 = .ok (.ireturn, 1) := by decide +kernel
theorem dX11_told_76 : decode cX11_told 76 = .ok (.iconst (-1), 1) := by decide +kernel
theorem dX11_told_77 : decode cX11_told 77 = .ok (.ireturn, 1) := by decide +kernel
theorem dX11_writeByte_0 : decode cX11_writeByte 0 = .ok (.aload_n 0, 1) := by decide +kernel
theorem dX11_writeByte_1 : decode cX11_writeByte 1 = .ok (.getfield 97, 3) := by decide +kernel
theorem dX11_writeByte_4 : decode cX11_writeByte 4 = .ok (.aload_n 0, 1) := by decide +kernel
theorem dX11_writeByte_5 : decode cX11_writeByte 5 = .ok (.getfield 93, 3) := by decide +kernel
theorem dX11_writeByte_8 : decode cX11_writeByte 8 = .ok (.arraylength, 1) := by decide +kernel
theorem dX11_writeByte_9 : decode cX11_writeByte 9 = .ok (.if_icmp .ge 24, 3) := by decide +kernel
theorem dX11_writeByte_12 : decode cX11_writeByte 12 = .ok (.aload_n 0, 1) := by decide +kernel
theorem dX11_writeByte_13 : decode cX11_writeByte 13 = .ok (.getfield 93, 3) := by decide +kernel
theorem dX11_writeByte_16 : decode cX11_writeByte 16 = .ok (.aload_n 0, 1) := by decide +kernel
theorem dX11_writeByte_17 : decode cX11_writeByte 17 = .ok (.getfield 97, 3) := by decide +kernel
theorem dX11_writeByte_20 : decode cX11_writeByte 20 = .ok (.iload_n 1, 1) := by decide +kernel
theorem dX11_writeByte_21 : decode cX11_writeByte 21 = .ok (.i2b, 1) := by decide +kernel
theorem dX11_writeByte_22 : decode cX11_writeByte 22 = .ok (.bastore, 1) := by decide +kernel
theorem dX11_writeByte_23 : decode cX11_writeByte 23 = .ok (.aload_n 0, 1) := by decide +kernel
theorem dX11_writeByte_24 : decode cX11_writeByte 24 = .ok (.dup, 1) := by decide +kernel
theorem dX11_writeByte_25 : decode cX11_writeByte 25 = .ok (.getfield 97, 3) := by decide +kernel
theorem dX11_writeByte_28 : decode cX11_writeByte 28 = .ok (.iconst 1, 1) := by decide +kernel
theorem dX11_writeByte_29 : decode cX11_writeByte 29 = .ok (.iadd, 1) := by decide +kernel
theorem dX11_writeByte_30 : decode cX11_writeByte 30 = .ok (.putfield 97, 3) := by decide +kernel
theorem dX11_writeByte_33 : decode cX11_writeByte 33 = .ok (.return_, 1) := by decide +kernel
theorem dX11_writeName_0 : decode cX11_writeName 0 = .ok (.bipush 6, 2) := by decide +kernel
theorem dX11_writeName_2 : decode cX11_writeName 2 = .ok (.istore_n 3, 1) := by decide +kernel
theorem dX11_writeName_3 : decode cX11_writeName 3 = .ok (.iload_n 3, 1) := by decide +kernel
theorem dX11_writeName_4 : decode cX11_writeName 4 = .ok (.ifCond .lt 36, 3) := by decide +kernel
theorem dX11_writeName_7 : decode cX11_writeName 7 = .ok (.lload_n 1, 1) := by decide +kernel
theorem dX11_writeName_8 : decode cX11_writeName 8 = .ok (.iload_n 3, 1) := by decide +kernel
theorem dX11_writeName_9 : decode cX11_writeName 9 = .ok (.iconst 5, 1) := by decide +kernel
theorem dX11_writeName_10 : decode cX11_writeName 10 = .ok (.imul, 1) := by decide +kernel
theorem dX11_writeName_11 : decode cX11_writeName 11 = .ok (.lshr, 1) := by decide +kernel
theorem dX11_writeName_12 : decode cX11_writeName 12 = .ok (.l2i, 1) := by decide +kernel
theorem dX11_writeName_13 : decode cX11_writeName 13 = .ok (.bipush 31, 2) := by decide +kernel
theorem dX11_writeName_15 : decode cX11_writeName 15 = .ok (.iand, 1) := by decide +kernel
theorem dX11_writeName_16 : decode cX11_writeName 16 = .ok (.istore 4, 2) := by decide +kernel
theorem dX11_writeName_18 : decode cX11_writeName 18 = .ok (.iload 4, 2) := by decide +kernel
theorem dX11_writeName_20 : decode cX11_writeName 20 = .ok (.ifCond .eq 14, 3) := by decide +kernel
theorem dX11_writeName_23 : decode cX11_writeName 23 = .ok (.aload_n 0, 1) := by decide +kernel
theorem dX11_writeName_24 : decode cX11_writeName 24 = .ok (.bipush 97, 2) := by decide +kernel
theorem dX11_writeName_26 : decode cX11_writeName 26 = .ok (.iload 4, 2) := by decide +kernel
theorem dX11_writeName_28 : decode cX11_writeName 28 = .ok (.iadd, 1) := by decide +kernel
theorem dX11_writeName_29 : decode cX11_writeName 29 = .ok (.iconst 1, 1) := by decide +kernel
theorem dX11_writeName_30 : decode cX11_writeName 30 = .ok (.isub, 1) := by decide +kernel
theorem dX11_writeName_31 : decode cX11_writeName 31 = .ok (.invokevirtual 334, 3) := by decide +kernel
theorem dX11_writeName_34 : decode cX11_writeName 34 = .ok (.iinc 3 (-1), 3) := by decide +kernel
theorem dX11_writeName_37 : decode cX11_writeName 37 = .ok (.goto (-34), 3) := by decide +kernel
theorem dX11_writeName_40 : decode cX11_writeName 40 = .ok (.return_, 1) := by decide +kernel
theorem dX1_draw_0 : decode cX1_draw 0 = .ok (.aload_n 0, 1) := by decide +kernel
theorem dX1_draw_1 : decode cX1_draw 1 = .ok (.aload_n 0, 1) := by decide +kernel
theorem dX1_draw_2 : decode cX1_draw 2 = .ok (.getfield 49, 3) := by decide +kernel
theorem dX1_draw_5 : decode cX1_draw 5 = .ok (.ldc 129, 2) := by decide +kernel
theorem dX1_draw_7 : decode cX1_draw 7 = .ok (.imul, 1) := by decide +kernel
theorem dX1_draw_8 : decode cX1_draw 8 = .ok (.sipush 12345, 3) := by decide +kernel
theorem dX1_draw_11 : decode cX1_draw 11 = .ok (.iadd, 1) := by decide +kernel
theorem dX1_draw_12 : decode cX1_draw 12 = .ok (.putfield 49, 3) := by decide +kernel
theorem dX1_draw_15 : decode cX1_draw 15 = .ok (.iload_n 1, 1) := by decide +kernel
theorem dX1_draw_16 : decode cX1_draw 16 = .ok (.ifCond .le 15, 3) := by decide +kernel
theorem dX1_draw_19 : decode cX1_draw 19 = .ok (.aload_n 0, 1) := by decide +kernel
theorem dX1_draw_20 : decode cX1_draw 20 = .ok (.getfield 49, 3) := by decide +kernel
theorem dX1_draw_23 : decode cX1_draw 23 = .ok (.bipush 8, 2) := by decide +kernel
theorem dX1_draw_25 : decode cX1_draw 25 = .ok (.iushr, 1) := by decide +kernel
theorem dX1_draw_26 : decode cX1_draw 26 = .ok (.iload_n 1, 1) := by decide +kernel
theorem dX1_draw_27 : decode cX1_draw 27 = .ok (.irem, 1) := by decide +kernel
theorem dX1_draw_28 : decode cX1_draw 28 = .ok (.goto 4, 3) := by decide +kernel
theorem dX1_draw_32 : decode cX1_draw 32 = .ok (.ireturn, 1) := by decide +kernel
theorem dX7_addStep_0 : decode cX7_addStep 0 = .ok (.aload_n 0, 1) := by decide +kernel
theorem dX7_addStep_1 : decode cX7_addStep 1 = .ok (.getfield 24, 3) := by decide +kernel
theorem dX7_addStep_4 : decode cX7_addStep 4 = .ok (.bipush 40, 2) := by decide +kernel
theorem dX7_addStep_6 : decode cX7_addStep 6 = .ok (.if_icmp .lt 5, 3) := by decide +kernel
theorem dX7_addStep_9 : decode cX7_addStep 9 = .ok (.iconst 0, 1) := by decide +kernel
theorem dX7_addStep_10 : decode cX7_addStep 10 = .ok (.ireturn, 1) := by decide +kernel
theorem dX7_addStep_11 : decode cX7_addStep 11 = .ok (.aload_n 0, 1) := by decide +kernel
theorem dX7_addStep_12 : decode cX7_addStep 12 = .ok (.getfield 11, 3) := by decide +kernel
theorem dX7_addStep_15 : decode cX7_addStep 15 = .ok (.aload_n 0, 1) := by decide +kernel
theorem dX7_addStep_16 : decode cX7_addStep 16 = .ok (.getfield 24, 3) := by decide +kernel
theorem dX7_addStep_19 : decode cX7_addStep 19 = .ok (.iload_n 1, 1) := by decide +kernel
theorem dX7_addStep_20 : decode cX7_addStep 20 = .ok (.iastore, 1) := by decide +kernel
theorem dX7_addStep_21 : decode cX7_addStep 21 = .ok (.aload_n 0, 1) := by decide +kernel
theorem dX7_addStep_22 : decode cX7_addStep 22 = .ok (.getfield 15, 3) := by decide +kernel
theorem dX7_addStep_25 : decode cX7_addStep 25 = .ok (.aload_n 0, 1) := by decide +kernel
theorem dX7_addStep_26 : decode cX7_addStep 26 = .ok (.getfield 24, 3) := by decide +kernel
theorem dX7_addStep_29 : decode cX7_addStep 29 = .ok (.iload_n 2, 1) := by decide +kernel
theorem dX7_addStep_30 : decode cX7_addStep 30 = .ok (.iastore, 1) := by decide +kernel
theorem dX7_addStep_31 : decode cX7_addStep 31 = .ok (.aload_n 0, 1) := by decide +kernel
theorem dX7_addStep_32 : decode cX7_addStep 32 = .ok (.getfield 18, 3) := by decide +kernel
theorem dX7_addStep_35 : decode cX7_addStep 35 = .ok (.aload_n 0, 1) := by decide +kernel
theorem dX7_addStep_36 : decode cX7_addStep 36 = .ok (.getfield 24, 3) := by decide +kernel
theorem dX7_addStep_39 : decode cX7_addStep 39 = .ok (.iload_n 3, 1) := by decide +kernel
theorem dX7_addStep_40 : decode cX7_addStep 40 = .ok (.iastore, 1) := by decide +kernel
theorem dX7_addStep_41 : decode cX7_addStep 41 = .ok (.aload_n 0, 1) := by decide +kernel
theorem dX7_addStep_42 : decode cX7_addStep 42 = .ok (.dup, 1) := by decide +kernel
theorem dX7_addStep_43 : decode cX7_addStep 43 = .ok (.getfield 24, 3) := by decide +kernel
theorem dX7_addStep_46 : decode cX7_addStep 46 = .ok (.iconst 1, 1) := by decide +kernel
theorem dX7_addStep_47 : decode cX7_addStep 47 = .ok (.iadd, 1) := by decide +kernel
theorem dX7_addStep_48 : decode cX7_addStep 48 = .ok (.putfield 24, 3) := by decide +kernel
theorem dX7_addStep_51 : decode cX7_addStep 51 = .ok (.iconst 1, 1) := by decide +kernel
theorem dX7_addStep_52 : decode cX7_addStep 52 = .ok (.ireturn, 1) := by decide +kernel
theorem dX7_become_0 : decode cX7_become 0 = .ok (.aload_n 1, 1) := by decide +kernel
theorem dX7_become_1 : decode cX7_become 1 = .ok (.getfield 11, 3) := by decide +kernel
theorem dX7_become_4 : decode cX7_become 4 = .ok (.iconst 0, 1) := by decide +kernel
theorem dX7_become_5 : decode cX7_become 5 = .ok (.aload_n 0, 1) := by decide +kernel
theorem dX7_become_6 : decode cX7_become 6 = .ok (.getfield 11, 3) := by decide +kernel
theorem dX7_become_9 : decode cX7_become 9 = .ok (.iconst 0, 1) := by decide +kernel
theorem dX7_become_10 : decode cX7_become 10 = .ok (.bipush 40, 2) := by decide +kernel
theorem dX7_become_12 : decode cX7_become 12 = .ok (.invokestatic 31, 3) := by decide +kernel
theorem dX7_become_15 : decode cX7_become 15 = .ok (.aload_n 1, 1) := by decide +kernel
theorem dX7_become_16 : decode cX7_become 16 = .ok (.getfield 15, 3) := by decide +kernel
theorem dX7_become_19 : decode cX7_become 19 = .ok (.iconst 0, 1) := by decide +kernel
theorem dX7_become_20 : decode cX7_become 20 = .ok (.aload_n 0, 1) := by decide +kernel
theorem dX7_become_21 : decode cX7_become 21 = .ok (.getfield 15, 3) := by decide +kernel
theorem dX7_become_24 : decode cX7_become 24 = .ok (.iconst 0, 1) := by decide +kernel
theorem dX7_become_25 : decode cX7_become 25 = .ok (.bipush 40, 2) := by decide +kernel
theorem dX7_become_27 : decode cX7_become 27 = .ok (.invokestatic 31, 3) := by decide +kernel
theorem dX7_become_30 : decode cX7_become 30 = .ok (.aload_n 1, 1) := by decide +kernel
theorem dX7_become_31 : decode cX7_become 31 = .ok (.getfield 18, 3) := by decide +kernel
theorem dX7_become_34 : decode cX7_become 34 = .ok (.iconst 0, 1) := by decide +kernel
theorem dX7_become_35 : decode cX7_become 35 = .ok (.aload_n 0, 1) := by decide +kernel
theorem dX7_become_36 : decode cX7_become 36 = .ok (.getfield 18, 3) := by decide +kernel
theorem dX7_become_39 : decode cX7_become 39 = .ok (.iconst 0, 1) := by decide +kernel
theorem dX7_become_40 : decode cX7_become 40 = .ok (.bipush 40, 2) := by decide +kernel
theorem dX7_become_42 : decode cX7_become 42 = .ok (.invokestatic 31, 3) := by decide +kernel
theorem dX7_become_45 : decode cX7_become 45 = .ok (.aload_n 0, 1) := by decide +kernel
theorem dX7_become_46 : decode cX7_become 46 = .ok (.aload_n 1, 1) := by decide +kernel
theorem dX7_become_47 : decode cX7_become 47 = .ok (.getfield 24, 3) := by decide +kernel
theorem dX7_become_50 : decode cX7_become 50 = .ok (.putfield 24, 3) := by decide +kernel
theorem dX7_become_53 : decode cX7_become 53 = .ok (.aload_n 0, 1) := by decide +kernel
theorem dX7_become_54 : decode cX7_become 54 = .ok (.aload_n 1, 1) := by decide +kernel
theorem dX7_become_55 : decode cX7_become 55 = .ok (.getfield 28, 3) := by decide +kernel
theorem dX7_become_58 : decode cX7_become 58 = .ok (.putfield 28, 3) := by decide +kernel
theorem dX7_become_61 : decode cX7_become 61 = .ok (.return_, 1) := by decide +kernel
theorem dX7_beginsOne_0 : decode cX7_beginsOne 0 = .ok (.iload_n 0, 1) := by decide +kernel
theorem dX7_beginsOne_1 : decode cX7_beginsOne 1 = .ok (.bipush 40, 2) := by decide +kernel
theorem dX7_beginsOne_3 : decode cX7_beginsOne 3 = .ok (.if_icmp .eq 20, 3) := by decide +kernel
theorem dX7_beginsOne_6 : decode cX7_beginsOne 6 = .ok (.iload_n 0, 1) := by decide +kernel
theorem dX7_beginsOne_7 : decode cX7_beginsOne 7 = .ok (.iconst 5, 1) := by decide +kernel
theorem dX7_beginsOne_8 : decode cX7_beginsOne 8 = .ok (.if_icmp .eq 15, 3) := by decide +kernel
theorem dX7_beginsOne_11 : decode cX7_beginsOne 11 = .ok (.iload_n 0, 1) := by decide +kernel
theorem dX7_beginsOne_12 : decode cX7_beginsOne 12 = .ok (.bipush 19, 2) := by decide +kernel
theorem dX7_beginsOne_14 : decode cX7_beginsOne 14 = .ok (.if_icmp .lt 13, 3) := by decide +kernel
theorem dX7_beginsOne_17 : decode cX7_beginsOne 17 = .ok (.iload_n 0, 1) := by decide +kernel
theorem dX7_beginsOne_18 : decode cX7_beginsOne 18 = .ok (.bipush 27, 2) := by decide +kernel
theorem dX7_beginsOne_20 : decode cX7_beginsOne 20 = .ok (.if_icmp .gt 7, 3) := by decide +kernel
theorem dX7_beginsOne_23 : decode cX7_beginsOne 23 = .ok (.iconst 1, 1) := by decide +kernel
theorem dX7_beginsOne_24 : decode cX7_beginsOne 24 = .ok (.goto 4, 3) := by decide +kernel
theorem dX7_beginsOne_27 : decode cX7_beginsOne 27 = .ok (.iconst 0, 1) := by decide +kernel
theorem dX7_beginsOne_28 : decode cX7_beginsOne 28 = .ok (.ireturn, 1) := by decide +kernel
theorem dX7_readPlainOne_0 : decode cX7_readPlainOne 0 = .ok (.iload_n 3, 1) := by decide +kernel
theorem dX7_readPlainOne_1 : decode cX7_readPlainOne 1 = .ok (.iconst 5, 1) := by decide +kernel
theorem dX7_readPlainOne_2 : decode cX7_readPlainOne 2 = .ok (.if_icmp .ne 40, 3) := by decide +kernel
theorem dX7_readPlainOne_5 : decode cX7_readPlainOne 5 = .ok (.aload_n 1, 1) := by decide +kernel
theorem dX7_readPlainOne_6 : decode cX7_readPlainOne 6 = .ok (.aload_n 2, 1) := by decide +kernel
theorem dX7_readPlainOne_7 : decode cX7_readPlainOne 7 = .ok (.aload_n 1, 1) := by decide +kernel
theorem dX7_readPlainOne_8 : decode cX7_readPlainOne 8 = .ok (.getfield 79, 3) := by decide +kernel
theorem dX7_readPlainOne_11 : decode cX7_readPlainOne 11 = .ok (.invokevirtual 83, 3) := by decide +kernel
theorem dX7_readPlainOne_14 : decode cX7_readPlainOne 14 = .ok (.invokevirtual 89, 3) := by decide +kernel
theorem dX7_readPlainOne_17 : decode cX7_readPlainOne 17 = .ok (.istore 4, 2) := by decide +kernel
theorem dX7_readPlainOne_19 : decode cX7_readPlainOne 19 = .ok (.iload 4, 2) := by decide +kernel
theorem dX7_readPlainOne_21 : decode cX7_readPlainOne 21 = .ok (.iconst (-1), 1) := by decide +kernel
theorem dX7_readPlainOne_22 : decode cX7_readPlainOne 22 = .ok (.if_icmp .eq 18, 3) := by decide +kernel
theorem dX7_readPlainOne_25 : decode cX7_readPlainOne 25 = .ok (.aload_n 0, 1) := by decide +kernel
theorem dX7_readPlainOne_26 : decode cX7_readPlainOne 26 = .ok (.iload_n 3, 1) := by decide +kernel
theorem dX7_readPlainOne_27 : decode cX7_readPlainOne 27 = .ok (.iconst 0, 1) := by decide +kernel
theorem dX7_readPlainOne_28 : decode cX7_readPlainOne 28 = .ok (.iload 4, 2) := by decide +kernel
theorem dX7_readPlainOne_30 : decode cX7_readPlainOne 30 = .ok (.invokevirtual 63, 3) := by decide +kernel
theorem dX7_readPlainOne_33 : decode cX7_readPlainOne 33 = .ok (.ifCond .eq 7, 3) := by decide +kernel
theorem dX7_readPlainOne_36 : decode cX7_readPlainOne 36 = .ok (.iconst 1, 1) := by decide +kernel
theorem dX7_readPlainOne_37 : decode cX7_readPlainOne 37 = .ok (.goto 4, 3) := by decide +kernel
theorem dX7_readPlainOne_40 : decode cX7_readPlainOne 40 = .ok (.iconst 0, 1) := by decide +kernel
theorem dX7_readPlainOne_41 : decode cX7_readPlainOne 41 = .ok (.ireturn, 1) := by decide +kernel
theorem dX7_readPlainOne_42 : decode cX7_readPlainOne 42 = .ok (.iload_n 3, 1) := by decide +kernel
theorem dX7_readPlainOne_43 : decode cX7_readPlainOne 43 = .ok (.bipush 23, 2) := by decide +kernel
theorem dX7_readPlainOne_45 : decode cX7_readPlainOne 45 = .ok (.if_icmp .ne 40, 3) := by decide +kernel
theorem dX7_readPlainOne_48 : decode cX7_readPlainOne 48 = .ok (.aload_n 1, 1) := by decide +kernel
theorem dX7_readPlainOne_49 : decode cX7_readPlainOne 49 = .ok (.aload_n 2, 1) := by decide +kernel
theorem dX7_readPlainOne_50 : decode cX7_readPlainOne 50 = .ok (.aload_n 1, 1) := by decide +kernel
theorem dX7_readPlainOne_51 : decode cX7_readPlainOne 51 = .ok (.getfield 79, 3) := by decide +kernel
theorem dX7_readPlainOne_54 : decode cX7_readPlainOne 54 = .ok (.invokevirtual 93, 3) := by decide +kernel
theorem dX7_readPlainOne_57 : decode cX7_readPlainOne 57 = .ok (.invokevirtual 89, 3) := by decide +kernel
theorem dX7_readPlainOne_60 : decode cX7_readPlainOne 60 = .ok (.istore 4, 2) := by decide +kernel
theorem dX7_readPlainOne_62 : decode cX7_readPlainOne 62 = .ok (.iload 4, 2) := by decide +kernel
theorem dX7_readPlainOne_64 : decode cX7_readPlainOne 64 = .ok (.iconst (-1), 1) := by decide +kernel
theorem dX7_readPlainOne_65 : decode cX7_readPlainOne 65 = .ok (.if_icmp .eq 18, 3) := by decide +kernel
theorem dX7_readPlainOne_68 : decode cX7_readPlainOne 68 = .ok (.aload_n 0, 1) := by decide +kernel
theorem dX7_readPlainOne_69 : decode cX7_readPlainOne 69 = .ok (.iload_n 3, 1) := by decide +kernel
theorem dX7_readPlainOne_70 : decode cX7_readPlainOne 70 = .ok (.iconst 0, 1) := by decide +kernel
theorem dX7_readPlainOne_71 : decode cX7_readPlainOne 71 = .ok (.iload 4, 2) := by decide +kernel
theorem dX7_readPlainOne_73 : decode cX7_readPlainOne 73 = .ok (.invokevirtual 63, 3) := by decide +kernel
theorem dX7_readPlainOne_76 : decode cX7_readPlainOne 76 = .ok (.ifCond .eq 7, 3) := by decide +kernel
theorem dX7_readPlainOne_79 : decode cX7_readPlainOne 79 = .ok (.iconst 1, 1) := by decide +kernel
theorem dX7_readPlainOne_80 : decode cX7_readPlainOne 80 = .ok (.goto 4, 3) := by decide +kernel
theorem dX7_readPlainOne_83 : decode cX7_readPlainOne 83 = .ok (.iconst 0, 1) := by decide +kernel
theorem dX7_readPlainOne_84 : decode cX7_readPlainOne 84 = .ok (.ireturn, 1) := by decide +kernel
theorem dX7_readPlainOne_85 : decode cX7_readPlainOne 85 = .ok (.iload_n 3, 1) := by decide +kernel
theorem dX7_readPlainOne_86 : decode cX7_readPlainOne 86 = .ok (.bipush 23, 2) := by decide +kernel
theorem dX7_readPlainOne_88 : decode cX7_readPlainOne 88 = .ok (.if_icmp .ge 11, 3) := by decide +kernel
theorem dX7_readPlainOne_91 : decode cX7_readPlainOne 91 = .ok (.aload_n 0, 1) := by decide +kernel
theorem dX7_readPlainOne_92 : decode cX7_readPlainOne 92 = .ok (.iload_n 3, 1) := by decide +kernel
theorem dX7_readPlainOne_93 : decode cX7_readPlainOne 93 = .ok (.iconst 0, 1) := by decide +kernel
theorem dX7_readPlainOne_94 : decode cX7_readPlainOne 94 = .ok (.iconst 0, 1) := by decide +kernel
theorem dX7_readPlainOne_95 : decode cX7_readPlainOne 95 = .ok (.invokevirtual 63, 3) := by decide +kernel
theorem dX7_readPlainOne_98 : decode cX7_readPlainOne 98 = .ok (.ireturn, 1) := by decide +kernel
theorem dX7_readPlainOne_99 : decode cX7_readPlainOne 99 = .ok (.aload_n 1, 1) := by decide +kernel
theorem dX7_readPlainOne_100 : decode cX7_readPlainOne 100 = .ok (.getfield 57, 3) := by decide +kernel
theorem dX7_readPlainOne_103 : decode cX7_readPlainOne 103 = .ok (.istore 4, 2) := by decide +kernel
theorem dX7_readPlainOne_105 : decode cX7_readPlainOne 105 = .ok (.iload 4, 2) := by decide +kernel
theorem dX7_readPlainOne_107 : decode cX7_readPlainOne 107 = .ok (.bipush 60, 2) := by decide +kernel
theorem dX7_readPlainOne_109 : decode cX7_readPlainOne 109 = .ok (.if_icmp .eq 23, 3) := by decide +kernel
theorem dX7_readPlainOne_112 : decode cX7_readPlainOne 112 = .ok (.iload 4, 2) := by decide +kernel
theorem dX7_readPlainOne_114 : decode cX7_readPlainOne 114 = .ok (.bipush 61, 2) := by decide +kernel
theorem dX7_readPlainOne_116 : decode cX7_readPlainOne 116 = .ok (.if_icmp .eq 16, 3) := by decide +kernel
theorem dX7_readPlainOne_119 : decode cX7_readPlainOne 119 = .ok (.iload 4, 2) := by decide +kernel
theorem dX7_readPlainOne_121 : decode cX7_readPlainOne 121 = .ok (.bipush 62, 2) := by decide +kernel
theorem dX7_readPlainOne_123 : decode cX7_readPlainOne 123 = .ok (.if_icmp .eq 9, 3) := by decide +kernel
theorem dX7_readPlainOne_126 : decode cX7_readPlainOne 126 = .ok (.aload_n 1, 1) := by decide +kernel
theorem dX7_readPlainOne_127 : decode cX7_readPlainOne 127 = .ok (.iconst 1, 1) := by decide +kernel
theorem dX7_readPlainOne_128 : decode cX7_readPlainOne 128 = .ok (.invokevirtual 73, 3) := by decide +kernel
theorem dX7_readPlainOne_131 : decode cX7_readPlainOne 131 = .ok (.ireturn, 1) := by decide +kernel
theorem dX7_readPlainOne_132 : decode cX7_readPlainOne 132 = .ok (.aload_n 1, 1) := by decide +kernel
theorem dX7_readPlainOne_133 : decode cX7_readPlainOne 133 = .ok (.invokevirtual 60, 3) := by decide +kernel
theorem dX7_readPlainOne_136 : decode cX7_readPlainOne 136 = .ok (.aload_n 1, 1) := by decide +kernel
theorem dX7_readPlainOne_137 : decode cX7_readPlainOne 137 = .ok (.iconst 0, 1) := by decide +kernel
theorem dX7_readPlainOne_138 : decode cX7_readPlainOne 138 = .ok (.sipush 999, 3) := by decide +kernel
theorem dX7_readPlainOne_141 : decode cX7_readPlainOne 141 = .ok (.invokevirtual 96, 3) := by decide +kernel
theorem dX7_readPlainOne_144 : decode cX7_readPlainOne 144 = .ok (.istore 5, 2) := by decide +kernel
theorem dX7_readPlainOne_146 : decode cX7_readPlainOne 146 = .ok (.iload 5, 2) := by decide +kernel
theorem dX7_readPlainOne_148 : decode cX7_readPlainOne 148 = .ok (.iconst (-1), 1) := by decide +kernel
theorem dX7_readPlainOne_149 : decode cX7_readPlainOne 149 = .ok (.if_icmp .eq 19, 3) := by decide +kernel
theorem dX7_readPlainOne_152 : decode cX7_readPlainOne 152 = .ok (.aload_n 0, 1) := by decide +kernel
theorem dX7_readPlainOne_153 : decode cX7_readPlainOne 153 = .ok (.iload_n 3, 1) := by decide +kernel
theorem dX7_readPlainOne_154 : decode cX7_readPlainOne 154 = .ok (.iload 4, 2) := by decide +kernel
theorem dX7_readPlainOne_156 : decode cX7_readPlainOne 156 = .ok (.iload 5, 2) := by decide +kernel
theorem dX7_readPlainOne_158 : decode cX7_readPlainOne 158 = .ok (.invokevirtual 63, 3) := by decide +kernel
theorem dX7_readPlainOne_161 : decode cX7_readPlainOne 161 = .ok (.ifCond .eq 7, 3) := by decide +kernel
theorem dX7_readPlainOne_164 : decode cX7_readPlainOne 164 = .ok (.iconst 1, 1) := by decide +kernel
theorem dX7_readPlainOne_165 : decode cX7_readPlainOne 165 = .ok (.goto 4, 3) := by decide +kernel
theorem dX7_readPlainOne_168 : decode cX7_readPlainOne 168 = .ok (.iconst 0, 1) := by decide +kernel
theorem dX7_readPlainOne_169 : decode cX7_readPlainOne 169 = .ok (.ireturn, 1) := by decide +kernel
theorem dX8_stepsBetween_0 : decode cX8_stepsBetween 0 = .ok (.iload_n 1, 1) := by decide +kernel
theorem dX8_stepsBetween_1 : decode cX8_stepsBetween 1 = .ok (.istore_n 3, 1) := by decide +kernel
theorem dX8_stepsBetween_2 : decode cX8_stepsBetween 2 = .ok (.iload_n 2, 1) := by decide +kernel
theorem dX8_stepsBetween_3 : decode cX8_stepsBetween 3 = .ok (.istore 4, 2) := by decide +kernel
theorem dX8_stepsBetween_5 : decode cX8_stepsBetween 5 = .ok (.iconst 0, 1) := by decide +kernel
theorem dX8_stepsBetween_6 : decode cX8_stepsBetween 6 = .ok (.istore 5, 2) := by decide +kernel
theorem dX8_stepsBetween_8 : decode cX8_stepsBetween 8 = .ok (.iload_n 3, 1) := by decide +kernel
theorem dX8_stepsBetween_9 : decode cX8_stepsBetween 9 = .ok (.iload 4, 2) := by decide +kernel
theorem dX8_stepsBetween_11 : decode cX8_stepsBetween 11 = .ok (.if_icmp .eq 56, 3) := by decide +kernel
theorem dX8_stepsBetween_14 : decode cX8_stepsBetween 14 = .ok (.iload 5, 2) := by decide +kernel
theorem dX8_stepsBetween_16 : decode cX8_stepsBetween 16 = .ok (.bipush 14, 2) := by decide +kernel
theorem dX8_stepsBetween_18 : decode cX8_stepsBetween 18 = .ok (.if_icmp .ge 49, 3) := by decide +kernel
theorem dX8_stepsBetween_21 : decode cX8_stepsBetween 21 = .ok (.iload_n 3, 1) := by decide +kernel
theorem dX8_stepsBetween_22 : decode cX8_stepsBetween 22 = .ok (.iload 4, 2) := by decide +kernel
theorem dX8_stepsBetween_24 : decode cX8_stepsBetween 24 = .ok (.invokestatic 47, 3) := by decide +kernel
theorem dX8_stepsBetween_27 : decode cX8_stepsBetween 27 = .ok (.istore 6, 2) := by decide +kernel
theorem dX8_stepsBetween_29 : decode cX8_stepsBetween 29 = .ok (.iload_n 3, 1) := by decide +kernel
theorem dX8_stepsBetween_30 : decode cX8_stepsBetween 30 = .ok (.iload 4, 2) := by decide +kernel
theorem dX8_stepsBetween_32 : decode cX8_stepsBetween 32 = .ok (.invokestatic 53, 3) := by decide +kernel
theorem dX8_stepsBetween_35 : decode cX8_stepsBetween 35 = .ok (.istore 4, 2) := by decide +kernel
theorem dX8_stepsBetween_37 : decode cX8_stepsBetween 37 = .ok (.iload 6, 2) := by decide +kernel
theorem dX8_stepsBetween_39 : decode cX8_stepsBetween 39 = .ok (.ifCond .lt 13, 3) := by decide +kernel
theorem dX8_stepsBetween_42 : decode cX8_stepsBetween 42 = .ok (.aload_n 0, 1) := by decide +kernel
theorem dX8_stepsBetween_43 : decode cX8_stepsBetween 43 = .ok (.getfield 19, 3) := by decide +kernel
theorem dX8_stepsBetween_46 : decode cX8_stepsBetween 46 = .ok (.iload 6, 2) := by decide +kernel
theorem dX8_stepsBetween_48 : decode cX8_stepsBetween 48 = .ok (.iaload, 1) := by decide +kernel
theorem dX8_stepsBetween_49 : decode cX8_stepsBetween 49 = .ok (.goto 4, 3) := by decide +kernel
theorem dX8_stepsBetween_53 : decode cX8_stepsBetween 53 = .ok (.istore_n 3, 1) := by decide +kernel
theorem dX8_stepsBetween_54 : decode cX8_stepsBetween 54 = .ok (.iload_n 3, 1) := by decide +kernel
theorem dX8_stepsBetween_55 : decode cX8_stepsBetween 55 = .ok (.iconst (-1), 1) := by decide +kernel
theorem dX8_stepsBetween_56 : decode cX8_stepsBetween 56 = .ok (.if_icmp .ne 5, 3) := by decide +kernel
theorem dX8_stepsBetween_59 : decode cX8_stepsBetween 59 = .ok (.iconst (-1), 1) := by decide +kernel
theorem dX8_stepsBetween_60 : decode cX8_stepsBetween 60 = .ok (.ireturn, 1) := by decide +kernel
theorem dX8_stepsBetween_61 : decode cX8_stepsBetween 61 = .ok (.iinc 5 1, 3) := by decide +kernel
theorem dX8_stepsBetween_64 : decode cX8_stepsBetween 64 = .ok (.goto (-56), 3) := by decide +kernel
theorem dX8_stepsBetween_67 : decode cX8_stepsBetween 67 = .ok (.iload 5, 2) := by decide +kernel
theorem dX8_stepsBetween_69 : decode cX8_stepsBetween 69 = .ok (.ireturn, 1) := by decide +kernel
theorem rc_14 : Rg 14 14 14 := ⟨by decide, by decide⟩
theorem rc_19 : Rg 19 19 19 := ⟨by decide, by decide⟩
theorem rc_23 : Rg 23 23 23 := ⟨by decide, by decide⟩
theorem rc_27 : Rg 27 27 27 := ⟨by decide, by decide⟩
theorem rc_31 : Rg 31 31 31 := ⟨by decide, by decide⟩
theorem rc_60 : Rg 60 60 60 := ⟨by decide, by decide⟩
theorem rc_61 : Rg 61 61 61 := ⟨by decide, by decide⟩
theorem rc_999 : Rg 999 999 999 := ⟨by decide, by decide⟩
theorem rc_12345 : Rg 12345 12345 12345 := ⟨by decide, by decide⟩
theorem rc_1103515245 : Rg 1103515245 1103515245 1103515245 := ⟨by decide, by decide⟩
set_option maxRecDepth 100000 in
set_option maxHeartbeats 8000000 in
theorem c_X11_seatAt {l : Launch} {D : va_G} {cy : Nat → ClassId} {L : List Nat} {κ ln : Nat → Nat} {R : Nat → Nat → Option Nat} {I : Nat → Nat → Int32} {J : Nat → Nat → Int64} {ow : Nat → Nat × Nat} (W9 : ∀ a ∈ L, Shp L κ ln R ow a) {x : Nat} (hLx : x ∈ L) (hkx : κ x = 11) (a0 : Int32) (hU : Uv L κ ow I) : CtI l yX11_seatAt cX11_seatAt 2 (some .int) { frames := 0, cells := 0, slots := 0, locals := 0 } D cy L κ ln R I J [.ref x, .int a0] (fun r I2 J2 => I = I2 ∧ J = J2 ∧ Rg (-2147483648) 2147483647 r) := by
  refine CtI.of (by decide +kernel) (Nat.le_of_ble_eq_true rfl) ?_
  intro p e s m below meth c B K
  have C := B.1
  obtain ⟨b_414575, hb_414575, hb_414575L, hb_414575k⟩ := shp_o (W9 x hLx) hkx 10 6 rfl (by decide)
  obtain ⟨b_414576, hb_414576, hb_414576L, hb_414576k, hb_414576n, hb_414576o⟩ := shp_a (W9 b_414575 hb_414575L) hb_414575k 0 14 7 rfl (by decide)
  refine g_lo (is := [0, 1]) (lo2 := [(0, .ref x), (1, .int a0)]) rfl ?_
  refine g_iload_n C 1 dX11_seatAt_0 rfl rfl ?_
  refine g_if_lt C (tgt := 27) dX11_seatAt_1 (by decide) (fun h_414577 => ?_) (fun h_414577 => ?_)
  · skip
    have r_414578 := lt_l (hi := (-1)) (h_414577) (rg_all a0) rc_0 (by decide)
    refine g_iconst C (v := (-1)) dX11_seatAt_27 (by decide) ?_
    exact g_zret (ty := .int) (r := (-1)) B K rfl (rfl) ⟨rfl, rfl, rg_all _⟩ dX11_seatAt_28
  · skip
    have r_414579 := le_r (nlt h_414577) rc_0 (rg_all a0)
    refine g_iload_n C 1 dX11_seatAt_4 rfl rfl ?_
    refine g_aload_n C 0 dX11_seatAt_5 rfl rfl ?_
    refine g_getR C K hLx hkx f_11_76 hb_414575 dX11_seatAt_6 ?_
    obtain ⟨x_414580, hx_414580, rx_414580⟩ := ex_get (I := I) (a := b_414575) (j := 1) (lo := 0) (hi := 7) hU hb_414575L (ro_o hb_414575k (by decide)) rfl
    refine g_getI C K hb_414575L hb_414575k f_11_294 (v := x_414580) hx_414580 dX11_seatAt_9 ?_
    refine g_icmp_ge C (tgt := 27) dX11_seatAt_12 (by decide) (fun h_414581 => ?_) (fun h_414581 => ?_)
    · skip
      refine g_iconst C (v := (-1)) dX11_seatAt_27 (by decide) ?_
      exact g_zret (ty := .int) (r := (-1)) B K rfl (rfl) ⟨rfl, rfl, rg_all _⟩ dX11_seatAt_28
    · skip
      have r_414582 := lt_l (hi := 6) (nle h_414581) r_414579 rx_414580 (by decide)
      have r_414583 := lt_r (lo := 1) (nle h_414581) r_414579 rx_414580 (by decide)
      refine g_aload_n C 0 dX11_seatAt_15 rfl rfl ?_
      refine g_getR C K hLx hkx f_11_76 hb_414575 dX11_seatAt_16 ?_
      refine g_getR C K hb_414575L hb_414575k f_11_295 hb_414576 dX11_seatAt_19 ?_
      refine g_iload_n C 1 dX11_seatAt_22 rfl rfl ?_
      obtain ⟨x_414584, hx_414584, rx_414584⟩ := ex_get (I := I) (a := b_414576) (j := a0.toNatClampNeg) (lo := (-2147483648)) (hi := 2147483647) hU hb_414576L (ro_a hb_414576k (by decide) hb_414576o hb_414575k rfl) (rfl)
      refine h_iald C K hb_414576L hb_414576k (v := x_414584) (a0.toNatClampNeg) (rfl) (ix_0 r_414582 (by decide)) (ix_lt r_414582 (by decide) hb_414576n (by decide)) hx_414584 dX11_seatAt_23 ?_
      refine g_goto C (tgt := 28) dX11_seatAt_24 (by decide) ?_
      exact g_zret (ty := .int) (r := x_414584) B K rfl (rfl) ⟨rfl, rfl, rx_414584⟩ dX11_seatAt_28
set_option maxRecDepth 100000 in
set_option maxHeartbeats 8000000 in
theorem c_X8_stepsBetween {l : Launch} {D : va_G} {cy : Nat → ClassId} {L : List Nat} {κ ln : Nat → Nat} {R : Nat → Nat → Option Nat} {I : Nat → Nat → Int32} {J : Nat → Nat → Int64} {ow : Nat → Nat × Nat} (W9 : ∀ a ∈ L, Shp L κ ln R ow a) {x : Nat} (hLx : x ∈ L) (hkx : κ x = 8) (a0 : Int32) (a1 : Int32) (ra0 : Rg 0 6 a0) (ra1 : Rg 0 6 a1) (hU : Uv L κ ow I) : CtI l yX8_stepsBetween cX8_stepsBetween 7 (some .int) { frames := 1, cells := 0, slots := 0, locals := 60 } D cy L κ ln R I J [.ref x, .int a0, .int a1] (fun r I2 J2 => I = I2 ∧ J = J2 ∧ Rg (-1) 14 r) := by
  refine CtI.of (by decide +kernel) (Nat.le_of_ble_eq_true rfl) ?_
  intro p e s m below meth c B K
  have C := B.1
  obtain ⟨b_414768, hb_414768, hb_414768L, hb_414768k, hb_414768n, hb_414768o⟩ := shp_a (W9 x hLx) hkx 2 14 7 rfl (by decide)
  refine g_lo (is := [0, 1, 2]) (lo2 := [(0, .ref x), (1, .int a0), (2, .int a1)]) rfl ?_
  have l_8 : ∀ (n_8 : Nat) (v_414769 : Int32) (rv_414769 : Rg 0 6 v_414769) (v_414770 : Int32) (rv_414770 : Rg 0 6 v_414770) (v_414771 : Int32) (rv_414771 : Rg 0 6 v_414771) (nv_414771_m1 : ¬ v_414771 = (-1)) (v_414772 : Int32) (rv_414772 : Rg 0 6 v_414772) (v_414773 : Int32) (rv_414773 : Rg 0 14 v_414773) (hm_414774 : 14 < (v_414773 : Int32).toInt + (n_8 : Int)), WG p l e { frames := 1, cells := 0, slots := 0, locals := 60 } s m ([.ref x, .int a0, .int a1] : List Value).toArray below meth c 7 0 0 (MQ below (Qi_ D cy L κ ln R (fun r I2 J2 => I = I2 ∧ J = J2 ∧ Rg (-1) 14 r)) ([.ref x, .int a0, .int a1] : List Value).toArray s 0 0 (Al_ L)) D cy (Al_ L) s.heap L κ ln R I J 8 [(0, .ref x), (1, .int v_414769), (2, .int v_414770), (3, .int v_414771), (4, .int v_414772), (5, .int v_414773)] [] := by
    intro n_8
    induction n_8 with
    | zero =>
      intro v_414769 rv_414769 v_414770 rv_414770 v_414771 rv_414771 nv_414771_m1 v_414772 rv_414772 v_414773 rv_414773 hm_414774
      exact ms_0 rv_414773 hm_414774
    | succ n_8 ih_8 =>
      intro v_414769 rv_414769 v_414770 rv_414770 v_414771 rv_414771 nv_414771_m1 v_414772 rv_414772 v_414773 rv_414773 hm_414774
      refine g_iload_n C 3 dX8_stepsBetween_8 rfl rfl ?_
      refine g_iload C 4 dX8_stepsBetween_9 rfl ?_
      refine g_icmp_eq C (tgt := 67) dX8_stepsBetween_11 (by decide) (fun h_414775 => ?_) (fun h_414775 => ?_)
      · skip
        refine g_iload C 5 dX8_stepsBetween_67 rfl ?_
        exact g_zret (ty := .int) (r := v_414773) B K rfl (rfl) ⟨rfl, rfl, rg_w rv_414773 (by decide) (by decide)⟩ dX8_stepsBetween_69
      · skip
        refine g_iload C 5 dX8_stepsBetween_14 rfl ?_
        refine g_bipush C (v := 14) dX8_stepsBetween_16 (by decide) ?_
        refine g_icmp_ge C (tgt := 67) dX8_stepsBetween_18 (by decide) (fun h_414776 => ?_) (fun h_414776 => ?_)
        · skip
          have r_414777 := le_r (h_414776) rc_14 rv_414773
          refine g_iload C 5 dX8_stepsBetween_67 rfl ?_
          exact g_zret (ty := .int) (r := v_414773) B K rfl (rfl) ⟨rfl, rfl, rg_w r_414777 (by decide) (by decide)⟩ dX8_stepsBetween_69
        · skip
          have r_414778 := lt_l (hi := 13) (nle h_414776) rv_414773 rc_14 (by decide)
          refine g_iload_n C 3 dX8_stepsBetween_21 rfl rfl ?_
          refine g_iload C 4 dX8_stepsBetween_22 rfl ?_
          obtain ⟨x_414779, hx_414779, rx_414779⟩ := ex_max 0 6 rv_414771 rv_414772 (by decide) (by decide) (by decide)
          refine g_mmax C (v := x_414779) mw_8_47 w_max (Nat.le_of_ble_eq_true rfl) (Nat.le_of_ble_eq_true rfl) ⟨Nat.le_of_ble_eq_true rfl, Nat.le_of_ble_eq_true rfl⟩ (hx_414779) dX8_stepsBetween_24 ?_
          refine g_istore C dX8_stepsBetween_27 (by decide) (lo2 := [(6, .int x_414779), (0, .ref x), (1, .int v_414769), (2, .int v_414770), (3, .int v_414771), (4, .int v_414772), (5, .int v_414773)]) rfl ?_
          refine g_iload_n C 4 dX8_stepsBetween_29 rfl rfl ?_
          refine g_iload C 5 dX8_stepsBetween_30 rfl ?_
          obtain ⟨x_414780, hx_414780, rx_414780⟩ := ex_min 0 6 rv_414771 rv_414772 (by decide) (by decide) (by decide)
          refine g_mmin C (v := x_414780) mw_8_53 w_min (Nat.le_of_ble_eq_true rfl) (Nat.le_of_ble_eq_true rfl) ⟨Nat.le_of_ble_eq_true rfl, Nat.le_of_ble_eq_true rfl⟩ (hx_414780) dX8_stepsBetween_32 ?_
          refine g_istore C dX8_stepsBetween_35 (by decide) (lo2 := [(4, .int x_414780), (6, .int x_414779), (0, .ref x), (1, .int v_414769), (2, .int v_414770), (3, .int v_414771), (5, .int v_414773)]) rfl ?_
          refine g_iload C 1 dX8_stepsBetween_37 rfl ?_
          refine g_if_lt C (tgt := 52) dX8_stepsBetween_39 (by decide) (fun h_414781 => ?_) (fun h_414781 => ?_)
          · skip
            have r_414782 := lt_l (hi := (-1)) (h_414781) rx_414779 rc_0 (by decide)
            exact rg_no r_414782 (by decide)
          · skip
            refine g_aload_n C 2 dX8_stepsBetween_42 rfl rfl ?_
            refine g_getR C K hLx hkx f_8_19 hb_414768 dX8_stepsBetween_43 ?_
            refine g_iload C 1 dX8_stepsBetween_46 rfl ?_
            obtain ⟨x_414783, hx_414783, rx_414783⟩ := ex_get (I := I) (a := b_414768) (j := x_414779.toNatClampNeg) (lo := (-1)) (hi := 6) hU hb_414768L (ro_a hb_414768k (by decide) hb_414768o hkx rfl) (rfl)
            refine h_iald C K hb_414768L hb_414768k (v := x_414783) (x_414779.toNatClampNeg) (rfl) (ix_0 rx_414779 (by decide)) (ix_lt rx_414779 (by decide) hb_414768n (by decide)) hx_414783 dX8_stepsBetween_48 ?_
            refine g_goto C (tgt := 53) dX8_stepsBetween_49 (by decide) ?_
            refine g_istore_n C dX8_stepsBetween_53 rfl (by decide) (lo2 := [(3, .int x_414783), (4, .int x_414780), (6, .int x_414779), (0, .ref x), (1, .int v_414769), (2, .int v_414770), (5, .int v_414773)]) rfl ?_
            refine g_iload_n C 0 dX8_stepsBetween_54 rfl rfl ?_
            refine g_iconst C (v := (-1)) dX8_stepsBetween_55 (by decide) ?_
            refine g_icmp_ne C (tgt := 61) dX8_stepsBetween_56 (by decide) (fun h_414784 => ?_) (fun h_414784 => ?_)
            · skip
              have n_414785 : ¬ x_414783 = (-1) := h_414784
              have r_414786 := ne_lo (lo := 0) n_414785 rx_414783 rc_m1 rfl (by decide)
              obtain ⟨x_414787, hx_414787, rx_414787, tx_414787⟩ := ex_add (y := 1) 1 14 r_414778 rc_1 (by decide) (by decide) (by decide) (by decide)
              refine g_iinc C dX8_stepsBetween_61 (k := 6) (v := x_414787) rfl hx_414787 (by decide) (lo2 := [(5, .int x_414787), (3, .int x_414783), (4, .int x_414780), (6, .int x_414779), (0, .ref x), (1, .int v_414769), (2, .int v_414770)]) rfl ?_
              refine g_goto C (tgt := 8) dX8_stepsBetween_64 (by decide) ?_
              refine g_lo (is := [4, 5, 6, 1, 2, 0]) (lo2 := [(0, .ref x), (1, .int v_414769), (2, .int v_414770), (3, .int x_414783), (4, .int x_414780), (5, .int x_414787)]) rfl ?_
              exact ih_8 v_414769 (rv_414769) v_414770 (rv_414770) x_414783 (r_414786) (n_414785) x_414780 (rx_414780) x_414787 (rg_w rx_414787 (by decide) (by decide)) (ms_1 hm_414774 (ti_k tx_414787 rc_1) (by decide))
            · skip
              have r_414788 := (⟨(rx_414783).1, (eq_rg (h_414784) rc_m1).2⟩ : Rg (-1) (-1) x_414783)
              refine g_iconst C (v := (-1)) dX8_stepsBetween_59 (by decide) ?_
              exact g_zret (ty := .int) (r := (-1)) B K rfl (rfl) ⟨rfl, rfl, rg_w rc_m1 (by decide) (by decide)⟩ dX8_stepsBetween_60
  refine g_iload_n C 1 dX8_stepsBetween_0 rfl rfl ?_
  refine g_istore_n C dX8_stepsBetween_1 rfl (by decide) (lo2 := [(3, .int a0), (0, .ref x), (1, .int a0), (2, .int a1)]) rfl ?_
  refine g_iload_n C 3 dX8_stepsBetween_2 rfl rfl ?_
  refine g_istore C dX8_stepsBetween_3 (by decide) (lo2 := [(4, .int a1), (3, .int a0), (0, .ref x), (1, .int a0), (2, .int a1)]) rfl ?_
  refine g_iconst C (v := 0) dX8_stepsBetween_5 (by decide) ?_
  refine g_istore C dX8_stepsBetween_6 (by decide) (lo2 := [(5, .int 0), (4, .int a1), (3, .int a0), (0, .ref x), (1, .int a0), (2, .int a1)]) rfl ?_
  refine g_lo (is := [3, 4, 5, 2, 1, 0]) (lo2 := [(0, .ref x), (1, .int a0), (2, .int a1), (3, .int a0), (4, .int a1), (5, .int 0)]) rfl ?_
  exact l_8 15 a0 (ra0) a1 (ra1) a0 (ra0) (rg_nek ra0 rc_m1 (by decide)) a1 (ra1) 0 (rg_w rc_0 (by decide) (by decide)) (ms_s (a := 0) (b := 14) (N := 15) (rg_w rc_0 (by decide) (by decide)) (by decide))
set_option maxRecDepth 100000 in
set_option maxHeartbeats 8000000 in
theorem c_X11_kin {l : Launch} {D : va_G} {cy : Nat → ClassId} {L : List Nat} {κ ln : Nat → Nat} {R : Nat → Nat → Option Nat} {I : Nat → Nat → Int32} {J : Nat → Nat → Int64} {ow : Nat → Nat × Nat} (W9 : ∀ a ∈ L, Shp L κ ln R ow a) {x : Nat} (hLx : x ∈ L) (hkx : κ x = 11) (a0 : Int32) (a1 : Int32) (hU : Uv L κ ow I) : CtI l yX11_kin cX11_kin 3 (some .int) { frames := 2, cells := 0, slots := 0, locals := 86 } D cy L κ ln R I J [.ref x, .int a0, .int a1] (fun r I2 J2 => I = I2 ∧ J = J2 ∧ Rg (-1) 14 r) := by
  refine CtI.of (by decide +kernel) (Nat.le_of_ble_eq_true rfl) ?_
  intro p e s m below meth c B K
  have C := B.1
  obtain ⟨b_414835, hb_414835, hb_414835L, hb_414835k⟩ := shp_o (W9 x hLx) hkx 1 8 rfl (by decide)
  refine g_lo (is := [0, 1, 2]) (lo2 := [(0, .ref x), (1, .int a0), (2, .int a1)]) rfl ?_
  refine g_aload_n C 0 dX11_kin_0 rfl rfl ?_
  refine g_getR C K hLx hkx f_11_19 hb_414835 dX11_kin_1 ?_
  refine g_iload_n C 1 dX11_kin_4 rfl rfl ?_
  refine g_callVI C K (c_X8_hasPerson W9 hb_414835L hb_414835k a0  hU) hb_414835L hb_414835k (by decide) rfl v_11_133 rfl ⟨rfl, rfl⟩ ⟨Nat.le_of_ble_eq_true rfl, Nat.le_of_ble_eq_true rfl⟩ (Nat.le_of_ble_eq_true rfl) ⟨Nat.le_of_ble_eq_true rfl, Nat.le_of_ble_eq_true rfl⟩ dX11_kin_5 rfl (st := []) (fun x_414836 I_414837 J_414838 h_414839 => ?_)
  obtain ⟨rfl, rfl, rx_414836, ex_414836⟩ := h_414839
  refine g_if_eq C (tgt := 34) dX11_kin_8 (by decide) (fun h_414840 => ?_) (fun h_414840 => ?_)
  · skip
    have r_414841 := (⟨(rx_414836).1, (eq_rg (h_414840) rc_0).2⟩ : Rg 0 0 x_414836)
    refine g_iconst C (v := (-1)) dX11_kin_34 (by decide) ?_
    exact g_zret (ty := .int) (r := (-1)) B K rfl (rfl) ⟨rfl, rfl, rg_w rc_m1 (by decide) (by decide)⟩ dX11_kin_35
  · skip
    have n_414842 : ¬ x_414836 = 0 := h_414840
    have r_414843 := ne_lo (lo := 1) n_414842 rx_414836 rc_0 rfl (by decide)
    have r_414844 := rg_i (rg_all a0) ((ex_414836) (rg_nz r_414843 (by decide))) (lo := 0) (hi := 6) (by decide) (by decide)
    refine g_aload_n C 0 dX11_kin_11 rfl rfl ?_
    refine g_getR C K hLx hkx f_11_19 hb_414835 dX11_kin_12 ?_
    refine g_iload_n C 2 dX11_kin_15 rfl rfl ?_
    refine g_callVI C K (c_X8_hasPerson W9 hb_414835L hb_414835k a1  hU) hb_414835L hb_414835k (by decide) rfl v_11_133 rfl ⟨rfl, rfl⟩ ⟨Nat.le_of_ble_eq_true rfl, Nat.le_of_ble_eq_true rfl⟩ (Nat.le_of_ble_eq_true rfl) ⟨Nat.le_of_ble_eq_true rfl, Nat.le_of_ble_eq_true rfl⟩ dX11_kin_16 rfl (st := []) (fun x_414845 I_414846 J_414847 h_414848 => ?_)
    obtain ⟨rfl, rfl, rx_414845, ex_414845⟩ := h_414848
    refine g_if_eq C (tgt := 34) dX11_kin_19 (by decide) (fun h_414849 => ?_) (fun h_414849 => ?_)
    · skip
      have r_414850 := (⟨(rx_414845).1, (eq_rg (h_414849) rc_0).2⟩ : Rg 0 0 x_414845)
      refine g_iconst C (v := (-1)) dX11_kin_34 (by decide) ?_
      exact g_zret (ty := .int) (r := (-1)) B K rfl (rfl) ⟨rfl, rfl, rg_w rc_m1 (by decide) (by decide)⟩ dX11_kin_35
    · skip
      have n_414851 : ¬ x_414845 = 0 := h_414849
      have r_414852 := ne_lo (lo := 1) n_414851 rx_414845 rc_0 rfl (by decide)
      have r_414853 := rg_i (rg_all a1) ((ex_414845) (rg_nz r_414852 (by decide))) (lo := 0) (hi := 6) (by decide) (by decide)
      refine g_aload_n C 0 dX11_kin_22 rfl rfl ?_
      refine g_getR C K hLx hkx f_11_19 hb_414835 dX11_kin_23 ?_
      refine g_iload_n C 1 dX11_kin_26 rfl rfl ?_
      refine g_iload_n C 2 dX11_kin_27 rfl rfl ?_
      refine g_callVI C K (c_X8_stepsBetween W9 hb_414835L hb_414835k a0 a1 (r_414844) (r_414853) hU) hb_414835L hb_414835k (by decide) rfl v_11_298 rfl ⟨rfl, rfl⟩ ⟨Nat.le_of_ble_eq_true rfl, Nat.le_of_ble_eq_true rfl⟩ (Nat.le_of_ble_eq_true rfl) ⟨Nat.le_of_ble_eq_true rfl, Nat.le_of_ble_eq_true rfl⟩ dX11_kin_28 rfl (st := []) (fun x_414854 I_414855 J_414856 h_414857 => ?_)
      obtain ⟨rfl, rfl, rx_414854⟩ := h_414857
      refine g_goto C (tgt := 35) dX11_kin_31 (by decide) ?_
      exact g_zret (ty := .int) (r := x_414854) B K rfl (rfl) ⟨rfl, rfl, rx_414854⟩ dX11_kin_35
set_option maxRecDepth 100000 in
set_option maxHeartbeats 8000000 in
theorem c_X11_hungriest {l : Launch} {D : va_G} {cy : Nat → ClassId} {L : List Nat} {κ ln : Nat → Nat} {R : Nat → Nat → Option Nat} {I : Nat → Nat → Int32} {J : Nat → Nat → Int64} {ow : Nat → Nat × Nat} (W9 : ∀ a ∈ L, Shp L κ ln R ow a) {x : Nat} (hLx : x ∈ L) (hkx : κ x = 11) (hU : Uv L κ ow I) : CtI l yX11_hungriest cX11_hungriest 3 (some .int) { frames := 1, cells := 0, slots := 0, locals := 21 } D cy L κ ln R I J [.ref x] (fun r I2 J2 => I = I2 ∧ J = J2 ∧ Rg (-1) 6 r) := by
  refine CtI.of (by decide +kernel) (Nat.le_of_ble_eq_true rfl) ?_
  intro p e s m below meth c B K
  have C := B.1
  obtain ⟨b_415049, hb_415049, hb_415049L, hb_415049k⟩ := shp_o (W9 x hLx) hkx 1 8 rfl (by decide)
  obtain ⟨b_415050, hb_415050, hb_415050L, hb_415050k⟩ := shp_o (W9 x hLx) hkx 2 1 rfl (by decide)
  obtain ⟨b_415051, hb_415051, hb_415051L, hb_415051k, hb_415051n, hb_415051o⟩ := shp_a (W9 b_415050 hb_415050L) hb_415050k 6 14 7 rfl (by decide)
  refine g_lo (is := [0]) (lo2 := [(0, .ref x)]) rfl ?_
  have l_4 : ∀ (n_4 : Nat) (v_415052 : Int32) (rv_415052 : Rg (-1) 6 v_415052) (v_415053 : Int32) (rv_415053 : Rg 0 7 v_415053) (hm_415054 : 7 < (v_415053 : Int32).toInt + (n_4 : Int)), WG p l e { frames := 1, cells := 0, slots := 0, locals := 21 } s m ([.ref x] : List Value).toArray below meth c 3 0 0 (MQ below (Qi_ D cy L κ ln R (fun r I2 J2 => I = I2 ∧ J = J2 ∧ Rg (-1) 6 r)) ([.ref x] : List Value).toArray s 0 0 (Al_ L)) D cy (Al_ L) s.heap L κ ln R I J 4 [(0, .ref x), (1, .int v_415052), (2, .int v_415053)] [] := by
    intro n_4
    induction n_4 with
    | zero =>
      intro v_415052 rv_415052 v_415053 rv_415053 hm_415054
      exact ms_0 rv_415053 hm_415054
    | succ n_4 ih_4 =>
      intro v_415052 rv_415052 v_415053 rv_415053 hm_415054
      have j_54 : ∀ (v_415055 : Int32) (rv_415055 : Rg (-1) 6 v_415055) (v_415056 : Int32) (rv_415056 : Rg 0 6 v_415056) (v_415057 : Int32) (rv_415057 : Rg 1 7 v_415057) (q_415058 : I b_415049 5 = v_415057) (hm_415059 : 7 < (v_415056 : Int32).toInt + ((n_4 + 1 : Nat) : Int)), WG p l e { frames := 1, cells := 0, slots := 0, locals := 21 } s m ([.ref x] : List Value).toArray below meth c 3 0 0 (MQ below (Qi_ D cy L κ ln R (fun r I2 J2 => I = I2 ∧ J = J2 ∧ Rg (-1) 6 r)) ([.ref x] : List Value).toArray s 0 0 (Al_ L)) D cy (Al_ L) s.heap L κ ln R I J 54 [(0, .ref x), (1, .int v_415055), (2, .int v_415056)] [] := by
        intro v_415055 rv_415055 v_415056 rv_415056 v_415057 rv_415057 q_415058 hm_415059
        obtain ⟨x_415060, hx_415060, rx_415060, tx_415060⟩ := ex_add (y := 1) 1 7 rv_415056 rc_1 (by decide) (by decide) (by decide) (by decide)
        refine g_iinc C dX11_hungriest_54 (k := 2) (v := x_415060) rfl hx_415060 (by decide) (lo2 := [(2, .int x_415060), (0, .ref x), (1, .int v_415055)]) rfl ?_
        refine g_goto C (tgt := 4) dX11_hungriest_57 (by decide) ?_
        refine g_lo (is := [1, 2, 0]) (lo2 := [(0, .ref x), (1, .int v_415055), (2, .int x_415060)]) rfl ?_
        exact ih_4 v_415055 (rv_415055) x_415060 (rg_w rx_415060 (by decide) (by decide)) (ms_1 hm_415059 (ti_k tx_415060 rc_1) (by decide))
      have j_52 : ∀ (v_415061 : Int32) (rv_415061 : Rg (-1) 6 v_415061) (v_415062 : Int32) (rv_415062 : Rg 0 6 v_415062) (v_415063 : Int32) (rv_415063 : Rg 1 7 v_415063) (q_415064 : I b_415049 5 = v_415063) (hm_415065 : 7 < (v_415062 : Int32).toInt + ((n_4 + 1 : Nat) : Int)), WG p l e { frames := 1, cells := 0, slots := 0, locals := 21 } s m ([.ref x] : List Value).toArray below meth c 3 0 0 (MQ below (Qi_ D cy L κ ln R (fun r I2 J2 => I = I2 ∧ J = J2 ∧ Rg (-1) 6 r)) ([.ref x] : List Value).toArray s 0 0 (Al_ L)) D cy (Al_ L) s.heap L κ ln R I J 52 [(0, .ref x), (1, .int v_415061), (2, .int v_415062)] [] := by
        intro v_415061 rv_415061 v_415062 rv_415062 v_415063 rv_415063 q_415064 hm_415065
        refine g_iload_n C 2 dX11_hungriest_52 rfl rfl ?_
        refine g_istore_n C dX11_hungriest_53 rfl (by decide) (lo2 := [(1, .int v_415062), (0, .ref x), (2, .int v_415062)]) rfl ?_
        refine g_lo (is := [1, 0, 2]) (lo2 := [(0, .ref x), (1, .int v_415062), (2, .int v_415062)]) rfl ?_
        exact j_54 v_415062 (rg_w rv_415062 (by decide) (by decide)) v_415062 (rv_415062) v_415063 (rv_415063) q_415064 hm_415065
      refine g_iload_n C 2 dX11_hungriest_4 rfl rfl ?_
      refine g_aload_n C 0 dX11_hungriest_5 rfl rfl ?_
      refine g_getR C K hLx hkx f_11_19 hb_415049 dX11_hungriest_6 ?_
      obtain ⟨x_415066, hx_415066, rx_415066⟩ := ex_get (I := I) (a := b_415049) (j := 5) (lo := 0) (hi := 7) hU hb_415049L (ro_o hb_415049k (by decide)) rfl
      refine g_getI C K hb_415049L hb_415049k f_11_213 (v := x_415066) hx_415066 dX11_hungriest_9 ?_
      refine g_icmp_ge C (tgt := 60) dX11_hungriest_12 (by decide) (fun h_415067 => ?_) (fun h_415067 => ?_)
      · skip
        refine g_iload_n C 1 dX11_hungriest_60 rfl rfl ?_
        exact g_zret (ty := .int) (r := v_415052) B K rfl (rfl) ⟨rfl, rfl, rv_415052⟩ dX11_hungriest_61
      · skip
        have r_415068 := lt_l (hi := 6) (nle h_415067) rv_415053 rx_415066 (by decide)
        have r_415069 := lt_r (lo := 1) (nle h_415067) rv_415053 rx_415066 (by decide)
        refine g_aload_n C 0 dX11_hungriest_15 rfl rfl ?_
        refine g_getR C K hLx hkx f_11_28 hb_415050 dX11_hungriest_16 ?_
        refine g_iload_n C 2 dX11_hungriest_19 rfl rfl ?_
        refine g_callVI C K (c_X1_lives W9 hb_415050L hb_415050k v_415053 (rg_w r_415068 (by decide) (by decide)) hU) hb_415050L hb_415050k (by decide) rfl v_11_301 rfl ⟨rfl, rfl⟩ ⟨Nat.le_of_ble_eq_true rfl, Nat.le_of_ble_eq_true rfl⟩ (Nat.le_of_ble_eq_true rfl) ⟨Nat.le_of_ble_eq_true rfl, Nat.le_of_ble_eq_true rfl⟩ dX11_hungriest_20 rfl (st := []) (fun x_415070 I_415071 J_415072 h_415073 => ?_)
        obtain ⟨rfl, rfl, rx_415070⟩ := h_415073
        refine g_if_eq C (tgt := 54) dX11_hungriest_23 (by decide) (fun h_415074 => ?_) (fun h_415074 => ?_)
        · skip
          have r_415075 := (⟨(rx_415070).1, (eq_rg (h_415074) rc_0).2⟩ : Rg 0 0 x_415070)
          refine g_lo (is := [0, 1, 2]) (lo2 := [(0, .ref x), (1, .int v_415052), (2, .int v_415053)]) rfl ?_
          exact j_54 v_415052 (rv_415052) v_415053 (r_415068) x_415066 (r_415069) hx_415066 hm_415054
        · skip
          have n_415076 : ¬ x_415070 = 0 := h_415074
          have r_415077 := ne_lo (lo := 1) n_415076 rx_415070 rc_0 rfl (by decide)
          refine g_iload_n C 1 dX11_hungriest_26 rfl rfl ?_
          refine g_iconst C (v := (-1)) dX11_hungriest_27 (by decide) ?_
          refine g_icmp_eq C (tgt := 52) dX11_hungriest_28 (by decide) (fun h_415078 => ?_) (fun h_415078 => ?_)
          · skip
            have r_415079 := (⟨(rv_415052).1, (eq_rg (h_415078) rc_m1).2⟩ : Rg (-1) (-1) v_415052)
            refine g_lo (is := [0, 1, 2]) (lo2 := [(0, .ref x), (1, .int v_415052), (2, .int v_415053)]) rfl ?_
            exact j_52 v_415052 (rg_w r_415079 (by decide) (by decide)) v_415053 (r_415068) x_415066 (r_415069) hx_415066 hm_415054
          · skip
            have n_415080 : ¬ v_415052 = (-1) := h_415078
            have r_415081 := ne_lo (lo := 0) n_415080 rv_415052 rc_m1 rfl (by decide)
            refine g_aload_n C 0 dX11_hungriest_31 rfl rfl ?_
            refine g_getR C K hLx hkx f_11_28 hb_415050 dX11_hungriest_32 ?_
            refine g_getR C K hb_415050L hb_415050k f_11_163 hb_415051 dX11_hungriest_35 ?_
            refine g_iload_n C 2 dX11_hungriest_38 rfl rfl ?_
            obtain ⟨x_415082, hx_415082, rx_415082⟩ := ex_get (I := I) (a := b_415051) (j := v_415053.toNatClampNeg) (lo := (-2147483648)) (hi := 2147483647) hU hb_415051L (ro_a hb_415051k (by decide) hb_415051o hb_415050k rfl) (rfl)
            refine h_iald C K hb_415051L hb_415051k (v := x_415082) (v_415053.toNatClampNeg) (rfl) (ix_0 r_415068 (by decide)) (ix_lt r_415068 (by decide) hb_415051n (by decide)) hx_415082 dX11_hungriest_39 ?_
            refine g_aload_n C 0 dX11_hungriest_40 rfl rfl ?_
            refine g_getR C K hLx hkx f_11_28 hb_415050 dX11_hungriest_41 ?_
            refine g_getR C K hb_415050L hb_415050k f_11_163 hb_415051 dX11_hungriest_44 ?_
            refine g_iload_n C 1 dX11_hungriest_47 rfl rfl ?_
            obtain ⟨x_415083, hx_415083, rx_415083⟩ := ex_get (I := I) (a := b_415051) (j := v_415052.toNatClampNeg) (lo := (-2147483648)) (hi := 2147483647) hU hb_415051L (ro_a hb_415051k (by decide) hb_415051o hb_415050k rfl) (rfl)
            refine h_iald C K hb_415051L hb_415051k (v := x_415083) (v_415052.toNatClampNeg) (rfl) (ix_0 r_415081 (by decide)) (ix_lt r_415081 (by decide) hb_415051n (by decide)) hx_415083 dX11_hungriest_48 ?_
            refine g_icmp_le C (tgt := 54) dX11_hungriest_49 (by decide) (fun h_415084 => ?_) (fun h_415084 => ?_)
            · skip
              refine g_lo (is := [0, 1, 2]) (lo2 := [(0, .ref x), (1, .int v_415052), (2, .int v_415053)]) rfl ?_
              exact j_54 v_415052 (rg_w r_415081 (by decide) (by decide)) v_415053 (r_415068) x_415066 (r_415069) hx_415066 hm_415054
            · skip
              have r_415085 := lt_l (hi := 2147483646) (nle h_415084) rx_415083 rx_415082 (by decide)
              have r_415086 := lt_r (lo := (-2147483647)) (nle h_415084) rx_415083 rx_415082 (by decide)
              refine g_lo (is := [0, 1, 2]) (lo2 := [(0, .ref x), (1, .int v_415052), (2, .int v_415053)]) rfl ?_
              exact j_52 v_415052 (rg_w r_415081 (by decide) (by decide)) v_415053 (r_415068) x_415066 (r_415069) hx_415066 hm_415054
  refine g_iconst C (v := (-1)) dX11_hungriest_0 (by decide) ?_
  refine g_istore_n C dX11_hungriest_1 rfl (by decide) (lo2 := [(1, .int (-1)), (0, .ref x)]) rfl ?_
  refine g_iconst C (v := 0) dX11_hungriest_2 (by decide) ?_
  refine g_istore_n C dX11_hungriest_3 rfl (by decide) (lo2 := [(2, .int 0), (1, .int (-1)), (0, .ref x)]) rfl ?_
  refine g_lo (is := [2, 1, 0]) (lo2 := [(0, .ref x), (1, .int (-1)), (2, .int 0)]) rfl ?_
  exact l_4 8 (-1) (rg_w rc_m1 (by decide) (by decide)) 0 (rg_w rc_0 (by decide) (by decide)) (ms_s (a := 0) (b := 7) (N := 8) (rg_w rc_0 (by decide) (by decide)) (by decide))
set_option maxRecDepth 100000 in
set_option maxHeartbeats 8000000 in
theorem c_X11_writeByte {l : Launch} {D : va_G} {cy : Nat → ClassId} {L : List Nat} {κ ln : Nat → Nat} {R : Nat → Nat → Option Nat} {I : Nat → Nat → Int32} {J : Nat → Nat → Int64} {ow : Nat → Nat × Nat} (W9 : ∀ a ∈ L, Shp L κ ln R ow a) {x : Nat} (hLx : x ∈ L) (hkx : κ x = 11) (a0 : Int32) (ra0 : Rg 97 127 a0) (hU : Uv L κ ow I) : CtV l yX11_writeByte cX11_writeByte 2 none { frames := 0, cells := 0, slots := 0, locals := 0 } D cy L κ ln R I J [.ref x, .int a0] (fun I2 J2 => Uv L κ ow I2 ∧ Fq L κ ow [1114, 77300] I I2 ∧ Fq L κ ow [] J J2) := by
  refine CtV.of (by decide +kernel) (Nat.le_of_ble_eq_true rfl) ?_
  intro p e s m below meth c B K
  have C := B.1
  have hF : Fq L κ ow [1114, 77300] I I := fq_rf
  have hG : Fq L κ ow [] J J := fq_rf
  obtain ⟨b_415113, hb_415113, hb_415113L, hb_415113k, hb_415113n, hb_415113o⟩ := shp_a (W9 x hLx) hkx 13 13 40 rfl (by decide)
  refine g_lo (is := [0, 1]) (lo2 := [(0, .ref x), (1, .int a0)]) rfl ?_
  refine g_aload_n C 0 dX11_writeByte_0 rfl rfl ?_
  obtain ⟨x_415114, hx_415114, rx_415114⟩ := ex_get (I := I) (a := x) (j := 14) (lo := 0) (hi := 40) hU hLx (ro_o hkx (by decide)) rfl
  refine g_getI C K hLx hkx f_11_97 (v := x_415114) hx_415114 dX11_writeByte_1 ?_
  refine g_aload_n C 0 dX11_writeByte_4 rfl rfl ?_
  refine g_getR C K hLx hkx f_11_93 hb_415113 dX11_writeByte_5 ?_
  refine g_alenB C K hb_415113L hb_415113k (v := 40) (by rw [hb_415113n]; rfl) dX11_writeByte_8 ?_
  refine g_icmp_ge C (tgt := 33) dX11_writeByte_9 (by decide) (fun h_415115 => ?_) (fun h_415115 => ?_)
  · skip
    have r_415116 := le_r (h_415115) rc_40 rx_415114
    exact g_vret B K rfl ⟨hU, hF, hG⟩ dX11_writeByte_33
  · skip
    have r_415117 := lt_l (hi := 39) (nle h_415115) rx_415114 rc_40 (by decide)
    refine g_aload_n C 0 dX11_writeByte_12 rfl rfl ?_
    refine g_getR C K hLx hkx f_11_93 hb_415113 dX11_writeByte_13 ?_
    refine g_aload_n C 0 dX11_writeByte_16 rfl rfl ?_
    refine g_getI C K hLx hkx f_11_97 (v := x_415114) hx_415114 dX11_writeByte_17 ?_
    refine g_iload_n C 1 dX11_writeByte_20 rfl rfl ?_
    obtain ⟨x_415118, hx_415118, rx_415118⟩ := ex_b2 (x := a0)
    refine g_i2b C (v := x_415118) dX11_writeByte_21 hx_415118 ?_
    refine h_bast C K hb_415113L hb_415113k (x_415114.toNatClampNeg) (rfl) (ix_0 r_415117 (by decide)) (ix_lt r_415117 (by decide) hb_415113n (by decide)) dX11_writeByte_22 (fun I_415119 hI_415119 => ?_)
    have hU_415120 := uv_put hU hI_415119 (ro_a hb_415113k (by decide) hb_415113o hkx rfl) (lo := (-128)) (hi := 127) (rfl) (nar_b _)
    have hF_415121 := fq_puta hF hI_415119 (ro_a hb_415113k (by decide) hb_415113o hkx rfl) (by decide) (by decide)
    refine g_aload_n C 0 dX11_writeByte_23 rfl rfl ?_
    refine g_dup C dX11_writeByte_24 rfl ?_
    refine g_getI C K hLx hkx f_11_97 (v := x_415114) (kp_k (κ := κ) hI_415119 (by rw [hkx, hb_415113k]; decide) hx_415114) dX11_writeByte_25 ?_
    refine g_iconst C (v := 1) dX11_writeByte_28 (by decide) ?_
    obtain ⟨x_415122, hx_415122, rx_415122, tx_415122⟩ := ex_add 1 40 r_415117 rc_1 (by decide) (by decide) (by decide) (by decide)
    refine g_iadd C (v := x_415122) dX11_writeByte_29 hx_415122 ?_
    refine h_putI C K hLx hkx f_11_97 p_11_14 dX11_writeByte_30 (fun I_415123 hI_415123 => ?_)
    have hU_415124 := uv_put hU_415120 hI_415123 (ro_o hkx (by decide)) (lo := 0) (hi := 40) rfl (rg_w rx_415122 (by decide) (by decide))
    have hF_415125 := fq_puto hF_415121 hI_415123 hkx (by decide) (by decide)
    exact g_vret B K rfl ⟨hU_415124, hF_415125, hG⟩ dX11_writeByte_33
set_option maxRecDepth 100000 in
set_option maxHeartbeats 8000000 in
theorem c_X11_writeName {l : Launch} {D : va_G} {cy : Nat → ClassId} {L : List Nat} {κ ln : Nat → Nat} {R : Nat → Nat → Option Nat} {I : Nat → Nat → Int32} {J : Nat → Nat → Int64} {ow : Nat → Nat × Nat} (W9 : ∀ a ∈ L, Shp L κ ln R ow a) {x : Nat} (hLx : x ∈ L) (hkx : κ x = 11) (a0 : Int64) (hU : Uv L κ ow I) : CtV l yX11_writeName cX11_writeName 5 none { frames := 1, cells := 0, slots := 0, locals := 21 } D cy L κ ln R I J [.ref x, .long a0] (fun I2 J2 => Uv L κ ow I2 ∧ Fq L κ ow [1114, 77300] I I2 ∧ Fq L κ ow [] J J2) := by
  refine CtV.of (by decide +kernel) (Nat.le_of_ble_eq_true rfl) ?_
  intro p e s m below meth c B K
  have C := B.1
  have hF : Fq L κ ow [1114, 77300] I I := fq_rf
  have hG : Fq L κ ow [] J J := fq_rf
  refine g_lo (is := [0, 1]) (lo2 := [(0, .ref x), (1, .long a0)]) rfl ?_
  have l_3 : ∀ (n_3 : Nat) (I_415295 : Nat → Nat → Int32) (J_415296 : Nat → Nat → Int64) (hU_415297 : Uv L κ ow I_415295) (hF_415298 : Fq L κ ow [1114, 77300] I I_415295) (hG_415299 : Fq L κ ow [] J J_415296) (y_415300 : Int64) (v_415301 : Int32) (rv_415301 : Rg (-1) 6 v_415301) (hm_415302 : (v_415301 : Int32).toInt - (-1) < (n_3 : Int)), WG p l e { frames := 1, cells := 0, slots := 0, locals := 21 } s m ([.ref x, .long a0] : List Value).toArray below meth c 5 0 0 (MQ below (Qv_ D cy L κ ln R (fun I2 J2 => Uv L κ ow I2 ∧ Fq L κ ow [1114, 77300] I I2 ∧ Fq L κ ow [] J J2)) ([.ref x, .long a0] : List Value).toArray s 0 0 (Al_ L)) D cy (Al_ L) s.heap L κ ln R I_415295 J_415296 3 [(0, .ref x), (1, .long y_415300), (3, .int v_415301)] [] := by
    intro n_3
    induction n_3 with
    | zero =>
      intro I_415295 J_415296 hU_415297 hF_415298 hG_415299 y_415300 v_415301 rv_415301 hm_415302
      exact md_0 rv_415301 hm_415302
    | succ n_3 ih_3 =>
      intro I_415295 J_415296 hU_415297 hF_415298 hG_415299 y_415300 v_415301 rv_415301 hm_415302
      have j_34 : ∀ (I_415303 : Nat → Nat → Int32) (J_415304 : Nat → Nat → Int64) (hU_415305 : Uv L κ ow I_415303) (hF_415306 : Fq L κ ow [1114, 77300] I I_415303) (hG_415307 : Fq L κ ow [] J J_415304) (y_415308 : Int64) (v_415309 : Int32) (rv_415309 : Rg 0 6 v_415309) (v_415310 : Int32) (rv_415310 : Rg 0 31 v_415310) (hm_415311 : (v_415309 : Int32).toInt - (-1) < ((n_3 + 1 : Nat) : Int)), WG p l e { frames := 1, cells := 0, slots := 0, locals := 21 } s m ([.ref x, .long a0] : List Value).toArray below meth c 5 0 0 (MQ below (Qv_ D cy L κ ln R (fun I2 J2 => Uv L κ ow I2 ∧ Fq L κ ow [1114, 77300] I I2 ∧ Fq L κ ow [] J J2)) ([.ref x, .long a0] : List Value).toArray s 0 0 (Al_ L)) D cy (Al_ L) s.heap L κ ln R I_415303 J_415304 34 [(0, .ref x), (1, .long y_415308), (3, .int v_415309), (4, .int v_415310)] [] := by
        intro I_415303 J_415304 hU_415305 hF_415306 hG_415307 y_415308 v_415309 rv_415309 v_415310 rv_415310 hm_415311
        obtain ⟨x_415312, hx_415312, rx_415312, tx_415312⟩ := ex_add (y := (-1)) (-1) 5 rv_415309 rc_m1 (by decide) (by decide) (by decide) (by decide)
        refine g_iinc C dX11_writeName_34 (k := 2) (v := x_415312) rfl hx_415312 (by decide) (lo2 := [(3, .int x_415312), (0, .ref x), (1, .long y_415308), (4, .int v_415310)]) rfl ?_
        refine g_goto C (tgt := 3) dX11_writeName_37 (by decide) ?_
        refine g_lo (is := [1, 2, 0]) (lo2 := [(0, .ref x), (1, .long y_415308), (3, .int x_415312)]) rfl ?_
        exact ih_3 I_415303 J_415304 hU_415305 hF_415306 hG_415307 y_415308 x_415312 (rg_w rx_415312 (by decide) (by decide)) (md_1 hm_415311 (ti_k tx_415312 rc_m1) (by decide))
      refine g_iload_n C 2 dX11_writeName_3 rfl rfl ?_
      refine g_if_lt C (tgt := 40) dX11_writeName_4 (by decide) (fun h_415313 => ?_) (fun h_415313 => ?_)
      · skip
        have r_415314 := lt_l (hi := (-1)) (h_415313) rv_415301 rc_0 (by decide)
        exact g_vret B K rfl ⟨hU_415297, hF_415298, hG_415299⟩ dX11_writeName_40
      · skip
        have r_415315 := le_r (nlt h_415313) rc_0 rv_415301
        refine g_lload_n C 1 dX11_writeName_7 rfl rfl ?_
        refine g_iload_n C 2 dX11_writeName_8 rfl rfl ?_
        refine g_iconst C (v := 5) dX11_writeName_9 (by decide) ?_
        obtain ⟨x_415316, hx_415316, rx_415316⟩ := ex_mulk 0 30 r_415315 rc_5 (by decide) (by decide) (by decide) (by decide) (by decide)
        refine g_imul C (v := x_415316) dX11_writeName_10 hx_415316 ?_
        refine g_lshr C dX11_writeName_11 (fun y_415317 => ?_)
        obtain ⟨x_415318, hx_415318, rx_415318⟩ := ex_any (z0 := Int64.toInt32 y_415317)
        refine g_l2i C (v := x_415318) dX11_writeName_12 hx_415318 ?_
        refine g_bipush C (v := 31) dX11_writeName_13 (by decide) ?_
        obtain ⟨x_415319, hx_415319, rx_415319⟩ := ex_andr (x := x_415318) (y := 31) (b := 31) (rg_w rc_31 (by decide) (by decide))
        refine g_iand C (v := x_415319) dX11_writeName_15 hx_415319 ?_
        refine g_istore C dX11_writeName_16 (by decide) (lo2 := [(4, .int x_415319), (0, .ref x), (1, .long y_415300), (3, .int v_415301)]) rfl ?_
        refine g_iload C 0 dX11_writeName_18 rfl ?_
        refine g_if_eq C (tgt := 34) dX11_writeName_20 (by decide) (fun h_415320 => ?_) (fun h_415320 => ?_)
        · skip
          have r_415321 := (⟨(rx_415319).1, (eq_rg (h_415320) rc_0).2⟩ : Rg 0 0 x_415319)
          refine g_lo (is := [1, 2, 3, 0]) (lo2 := [(0, .ref x), (1, .long y_415300), (3, .int v_415301), (4, .int x_415319)]) rfl ?_
          exact j_34 I_415295 J_415296 hU_415297 hF_415298 hG_415299 y_415300 v_415301 (r_415315) x_415319 (rg_w r_415321 (by decide) (by decide)) hm_415302
        · skip
          have n_415322 : ¬ x_415319 = 0 := h_415320
          have r_415323 := ne_lo (lo := 1) n_415322 rx_415319 rc_0 rfl (by decide)
          refine g_aload_n C 1 dX11_writeName_23 rfl rfl ?_
          refine g_bipush C (v := 97) dX11_writeName_24 (by decide) ?_
          refine g_iload C 0 dX11_writeName_26 rfl ?_
          obtain ⟨x_415324, hx_415324, rx_415324, tx_415324⟩ := ex_add 98 128 rc_97 r_415323 (by decide) (by decide) (by decide) (by decide)
          refine g_iadd C (v := x_415324) dX11_writeName_28 hx_415324 ?_
          refine g_iconst C (v := 1) dX11_writeName_29 (by decide) ?_
          obtain ⟨x_415325, hx_415325, rx_415325, tx_415325⟩ := ex_sub 97 127 rx_415324 rc_1 (by decide) (by decide) (by decide) (by decide)
          refine g_isub C (v := x_415325) dX11_writeName_30 hx_415325 ?_
          refine g_callVV C K (c_X11_writeByte W9 hLx hkx x_415325 (rx_415325) hU_415297) hLx hkx (by decide) rfl v_11_334 rfl ⟨rfl, rfl⟩ ⟨Nat.le_of_ble_eq_true rfl, Nat.le_of_ble_eq_true rfl⟩ (Nat.le_of_ble_eq_true rfl) ⟨Nat.le_of_ble_eq_true rfl, Nat.le_of_ble_eq_true rfl⟩ dX11_writeName_31 rfl (st := []) (fun I_415327 J_415328 h_415329 => ?_)
          obtain ⟨hUI_415327, hFI_415327, hGJ_415328⟩ := h_415329
          have hF_415330 := fq_tr hF_415298 hFI_415327 (by decide)
          have hG_415331 := fq_tr hG_415299 hGJ_415328 (by decide)
          refine g_lo (is := [1, 2, 3, 0]) (lo2 := [(0, .ref x), (1, .long y_415300), (3, .int v_415301), (4, .int x_415319)]) rfl ?_
          exact j_34 I_415327 J_415328 hUI_415327 hF_415330 hG_415331 y_415300 v_415301 (r_415315) x_415319 (rg_w r_415323 (by decide) (by decide)) hm_415302
  refine g_bipush C (v := 6) dX11_writeName_0 (by decide) ?_
  refine g_istore_n C dX11_writeName_2 rfl (by decide) (lo2 := [(3, .int 6), (0, .ref x), (1, .long a0)]) rfl ?_
  refine g_lo (is := [1, 2, 0]) (lo2 := [(0, .ref x), (1, .long a0), (3, .int 6)]) rfl ?_
  exact l_3 8 I J hU hF hG a0 6 (rg_w rc_6 (by decide) (by decide)) (md_s (a := (-1)) (b := 6) (N := 8) (rg_w rc_6 (by decide) (by decide)) (by decide))
set_option maxRecDepth 100000 in
set_option maxHeartbeats 8000000 in
theorem c_X11_byteAt {l : Launch} {D : va_G} {cy : Nat → ClassId} {L : List Nat} {κ ln : Nat → Nat} {R : Nat → Nat → Option Nat} {I : Nat → Nat → Int32} {J : Nat → Nat → Int64} {ow : Nat → Nat × Nat} (W9 : ∀ a ∈ L, Shp L κ ln R ow a) {x : Nat} (hLx : x ∈ L) (hkx : κ x = 11) (a0 : Int32) (hU : Uv L κ ow I) : CtI l yX11_byteAt cX11_byteAt 2 (some .int) { frames := 0, cells := 0, slots := 0, locals := 0 } D cy L κ ln R I J [.ref x, .int a0] (fun r I2 J2 => I = I2 ∧ J = J2 ∧ Rg (-128) 127 r) := by
  refine CtI.of (by decide +kernel) (Nat.le_of_ble_eq_true rfl) ?_
  intro p e s m below meth c B K
  have C := B.1
  obtain ⟨b_415350, hb_415350, hb_415350L, hb_415350k, hb_415350n, hb_415350o⟩ := shp_a (W9 x hLx) hkx 13 13 40 rfl (by decide)
  refine g_lo (is := [0, 1]) (lo2 := [(0, .ref x), (1, .int a0)]) rfl ?_
  refine g_iload_n C 1 dX11_byteAt_0 rfl rfl ?_
  refine g_if_lt C (tgt := 21) dX11_byteAt_1 (by decide) (fun h_415351 => ?_) (fun h_415351 => ?_)
  · skip
    have r_415352 := lt_l (hi := (-1)) (h_415351) (rg_all a0) rc_0 (by decide)
    refine g_iconst C (v := (-1)) dX11_byteAt_21 (by decide) ?_
    exact g_zret (ty := .int) (r := (-1)) B K rfl (rfl) ⟨rfl, rfl, rg_w rc_m1 (by decide) (by decide)⟩ dX11_byteAt_22
  · skip
    have r_415353 := le_r (nlt h_415351) rc_0 (rg_all a0)
    refine g_iload_n C 1 dX11_byteAt_4 rfl rfl ?_
    refine g_aload_n C 0 dX11_byteAt_5 rfl rfl ?_
    obtain ⟨x_415354, hx_415354, rx_415354⟩ := ex_get (I := I) (a := x) (j := 14) (lo := 0) (hi := 40) hU hLx (ro_o hkx (by decide)) rfl
    refine g_getI C K hLx hkx f_11_97 (v := x_415354) hx_415354 dX11_byteAt_6 ?_
    refine g_icmp_ge C (tgt := 21) dX11_byteAt_9 (by decide) (fun h_415355 => ?_) (fun h_415355 => ?_)
    · skip
      refine g_iconst C (v := (-1)) dX11_byteAt_21 (by decide) ?_
      exact g_zret (ty := .int) (r := (-1)) B K rfl (rfl) ⟨rfl, rfl, rg_w rc_m1 (by decide) (by decide)⟩ dX11_byteAt_22
    · skip
      have r_415356 := lt_l (hi := 39) (nle h_415355) r_415353 rx_415354 (by decide)
      have r_415357 := lt_r (lo := 1) (nle h_415355) r_415353 rx_415354 (by decide)
      refine g_aload_n C 0 dX11_byteAt_12 rfl rfl ?_
      refine g_getR C K hLx hkx f_11_93 hb_415350 dX11_byteAt_13 ?_
      refine g_iload_n C 1 dX11_byteAt_16 rfl rfl ?_
      obtain ⟨x_415358, hx_415358, rx_415358⟩ := ex_get (I := I) (a := b_415350) (j := a0.toNatClampNeg) (lo := (-128)) (hi := 127) hU hb_415350L (ro_a hb_415350k (by decide) hb_415350o hkx rfl) (rfl)
      refine h_bald C K hb_415350L hb_415350k (v := x_415358) (a0.toNatClampNeg) (rfl) (ix_0 r_415356 (by decide)) (ix_lt r_415356 (by decide) hb_415350n (by decide)) hx_415358 dX11_byteAt_17 ?_
      refine g_goto C (tgt := 22) dX11_byteAt_18 (by decide) ?_
      exact g_zret (ty := .int) (r := x_415358) B K rfl (rfl) ⟨rfl, rfl, rx_415358⟩ dX11_byteAt_22
set_option maxRecDepth 100000 in
set_option maxHeartbeats 8000000 in
theorem c_X1_draw {l : Launch} {D : va_G} {cy : Nat → ClassId} {L : List Nat} {κ ln : Nat → Nat} {R : Nat → Nat → Option Nat} {I : Nat → Nat → Int32} {J : Nat → Nat → Int64} {ow : Nat → Nat × Nat} (W9 : ∀ a ∈ L, Shp L κ ln R ow a) {x : Nat} (hLx : x ∈ L) (hkx : κ x = 1) (a0 : Int32) (ra0 : Rg 4 6 a0) (hU : Uv L κ ow I) : CtI l yX1_draw cX1_draw 2 (some .int) { frames := 0, cells := 0, slots := 0, locals := 0 } D cy L κ ln R I J [.ref x, .int a0] (fun r I2 J2 => Uv L κ ow I2 ∧ Fq L κ ow [113] I I2 ∧ Fq L κ ow [] J J2 ∧ Rg 0 5 r) := by
  refine CtI.of (by decide +kernel) (Nat.le_of_ble_eq_true rfl) ?_
  intro p e s m below meth c B K
  have C := B.1
  have hF : Fq L κ ow [113] I I := fq_rf
  have hG : Fq L κ ow [] J J := fq_rf
  refine g_lo (is := [0, 1]) (lo2 := [(0, .ref x), (1, .int a0)]) rfl ?_
  refine g_aload_n C 0 dX1_draw_0 rfl rfl ?_
  refine g_aload_n C 0 dX1_draw_1 rfl rfl ?_
  obtain ⟨x_415379, hx_415379, rx_415379⟩ := ex_get (I := I) (a := x) (j := 13) (lo := (-2147483648)) (hi := 2147483647) hU hLx (ro_o hkx (by decide)) rfl
  refine g_getI C K hLx hkx f_1_49 (v := x_415379) hx_415379 dX1_draw_2 ?_
  refine g_ldcw C k_SecondHelpings_Course_129 dX1_draw_5 ?_
  obtain ⟨x_415380, hx_415380, rx_415380⟩ := ex_any (z0 := x_415379 * 1103515245)
  refine g_imul C (v := x_415380) dX1_draw_7 hx_415380 ?_
  refine g_sipush C (v := 12345) dX1_draw_8 (by decide) ?_
  obtain ⟨x_415381, hx_415381, rx_415381⟩ := ex_any (z0 := x_415380 + 12345)
  refine g_iadd C (v := x_415381) dX1_draw_11 hx_415381 ?_
  refine h_putI C K hLx hkx f_1_49 p_1_13 dX1_draw_12 (fun I_415382 hI_415382 => ?_)
  have hU_415383 := uv_put hU hI_415382 (ro_o hkx (by decide)) (lo := (-2147483648)) (hi := 2147483647) rfl (rx_415381)
  have hF_415384 := fq_puto hF hI_415382 hkx (by decide) (by decide)
  refine g_iload_n C 1 dX1_draw_15 rfl rfl ?_
  refine g_if_le C (tgt := 31) dX1_draw_16 (by decide) (fun h_415385 => ?_) (fun h_415385 => ?_)
  · skip
    have r_415386 := le_l (h_415385) ra0 rc_0
    exact rg_no r_415386 (by decide)
  · skip
    refine g_aload_n C 0 dX1_draw_19 rfl rfl ?_
    refine g_getI C K hLx hkx f_1_49 (v := x_415381) (kp_s hI_415382) dX1_draw_20 ?_
    refine g_bipush C (v := 8) dX1_draw_23 (by decide) ?_
    obtain ⟨x_415387, hx_415387, rx_415387⟩ := ex_ushr8 (x := x_415381)
    refine g_iushr C (v := x_415387) dX1_draw_25 hx_415387 ?_
    refine g_iload_n C 1 dX1_draw_26 rfl rfl ?_
    obtain ⟨x_415388, hx_415388, rx_415388⟩ := ex_rem (b := 16777215) (d := 6) 5 (rx_415387) (rg_w ra0 (by decide) (by decide)) (by decide)
    refine g_irem C (v := x_415388) dX1_draw_27 (rg_ne0 ra0 (by decide)) hx_415388 ?_
    refine g_goto C (tgt := 32) dX1_draw_28 (by decide) ?_
    exact g_zret (ty := .int) (r := x_415388) B K rfl (rfl) ⟨hU_415383, hF_415384, hG, rx_415388⟩ dX1_draw_32
set_option maxRecDepth 100000 in
set_option maxHeartbeats 8000000 in
theorem c_X0_behind {l : Launch} {D : va_G} {cy : Nat → ClassId} {L : List Nat} {κ ln : Nat → Nat} {R : Nat → Nat → Option Nat} {I : Nat → Nat → Int32} {J : Nat → Nat → Int64} {ow : Nat → Nat × Nat} (W9 : ∀ a ∈ L, Shp L κ ln R ow a) (a0 : Int32) (a1 : Int32) (ra0 : Rg 10 50 a0) (ra1 : Rg 0 2 a1) (hU : Uv L κ ow I) : CtI l yX0_behind cX0_behind 2 (some .int) { frames := 0, cells := 0, slots := 0, locals := 0 } D cy L κ ln R I J [.int a0, .int a1] (fun r I2 J2 => I = I2 ∧ J = J2 ∧ Rg 0 52 r) := by
  refine CtI.of (by decide +kernel) (Nat.le_of_ble_eq_true rfl) ?_
  intro p e s m below meth c B K
  have C := B.1
  refine g_lo (is := [0, 1]) (lo2 := [(0, .int a0), (1, .int a1)]) rfl ?_
  refine g_iload_n C 1 dX0_behind_0 rfl rfl ?_
  refine g_if_ne C (tgt := 8) dX0_behind_1 (by decide) (fun h_415399 => ?_) (fun h_415399 => ?_)
  · skip
    have n_415400 : ¬ a1 = 0 := h_415399
    have r_415401 := ne_lo (lo := 1) n_415400 ra1 rc_0 rfl (by decide)
    refine g_iload_n C 0 dX0_behind_8 rfl rfl ?_
    refine g_iload_n C 1 dX0_behind_9 rfl rfl ?_
    obtain ⟨x_415402, hx_415402, rx_415402, tx_415402⟩ := ex_add 11 52 ra0 r_415401 (by decide) (by decide) (by decide) (by decide)
    refine g_iadd C (v := x_415402) dX0_behind_10 hx_415402 ?_
    exact g_zret (ty := .int) (r := x_415402) B K rfl (rfl) ⟨rfl, rfl, rg_w rx_415402 (by decide) (by decide)⟩ dX0_behind_11
  · skip
    have r_415403 := (⟨(ra1).1, (eq_rg (h_415399) rc_0).2⟩ : Rg 0 0 a1)
    refine g_iconst C (v := 0) dX0_behind_4 (by decide) ?_
    refine g_goto C (tgt := 11) dX0_behind_5 (by decide) ?_
    exact g_zret (ty := .int) (r := 0) B K rfl (rfl) ⟨rfl, rfl, rg_w rc_0 (by decide) (by decide)⟩ dX0_behind_11
set_option maxRecDepth 100000 in
set_option maxHeartbeats 8000000 in
theorem c_X11_told {l : Launch} {D : va_G} {cy : Nat → ClassId} {L : List Nat} {κ ln : Nat → Nat} {R : Nat → Nat → Option Nat} {I : Nat → Nat → Int32} {J : Nat → Nat → Int64} {ow : Nat → Nat × Nat} (W9 : ∀ a ∈ L, Shp L κ ln R ow a) {x : Nat} (hLx : x ∈ L) (hkx : κ x = 11) (a0 : Int32) (hU : Uv L κ ow I) : CtI l yX11_told cX11_told 2 (some .int) { frames := 0, cells := 0, slots := 0, locals := 0 } D cy L κ ln R I J [.ref x, .int a0] (fun r I2 J2 => I = I2 ∧ J = J2 ∧ Rg (-2147483648) 2147483647 r) := by
  refine CtI.of (by decide +kernel) (Nat.le_of_ble_eq_true rfl) ?_
  intro p e s m below meth c B K
  have C := B.1
  obtain ⟨b_415442, hb_415442, hb_415442L, hb_415442k⟩ := shp_o (W9 x hLx) hkx 6 0 rfl (by decide)
  refine g_lo (is := [0, 1]) (lo2 := [(0, .ref x), (1, .int a0)]) rfl ?_
  refine g_aload_n C 0 dX11_told_0 rfl rfl ?_
  refine g_getR C K hLx hkx f_11_52 hb_415442 dX11_told_1 ?_
  obtain ⟨x_415443, hx_415443, rx_415443⟩ := ex_get (I := I) (a := b_415442) (j := 5) (lo := 0) (hi := 1) hU hb_415442L (ro_o hb_415442k (by decide)) rfl
  refine g_getI C K hb_415442L hb_415442k f_11_352 (v := x_415443) hx_415443 dX11_told_4 ?_
  refine g_if_ne C (tgt := 12) dX11_told_7 (by decide) (fun h_415444 => ?_) (fun h_415444 => ?_)
  · skip
    have n_415445 : ¬ x_415443 = 0 := h_415444
    have r_415446 := ne_lo (lo := 1) n_415445 rx_415443 rc_0 rfl (by decide)
    refine g_iload_n C 1 dX11_told_12 rfl rfl ?_
    by_cases c_415447 : a0.toInt = 0
    · skip
      have r_415448 := rg_of (a := 0) (b := 0) 0 c_415447 (by decide) (by decide)
      refine g_tableIn C (tgt := 44) dX11_told_13 (by omega) (by omega) (off := 31) (by rw [c_415447]; rfl) (by decide) ?_
      refine g_aload_n C 0 dX11_told_44 rfl rfl ?_
      refine g_getR C K hLx hkx f_11_52 hb_415442 dX11_told_45 ?_
      obtain ⟨x_415449, hx_415449, rx_415449⟩ := ex_get (I := I) (a := b_415442) (j := 6) (lo := (-2147483648)) (hi := 2147483647) hU hb_415442L (ro_o hb_415442k (by decide)) rfl
      refine g_getI C K hb_415442L hb_415442k f_11_346 (v := x_415449) hx_415449 dX11_told_48 ?_
      exact g_zret (ty := .int) (r := x_415449) B K rfl (rfl) ⟨rfl, rfl, rx_415449⟩ dX11_told_51
    by_cases c_415450 : a0.toInt = 1
    · skip
      have r_415451 := rg_of (a := 1) (b := 1) 1 c_415450 (by decide) (by decide)
      refine g_tableIn C (tgt := 52) dX11_told_13 (by omega) (by omega) (off := 39) (by rw [c_415450]; rfl) (by decide) ?_
      refine g_aload_n C 0 dX11_told_52 rfl rfl ?_
      refine g_getR C K hLx hkx f_11_52 hb_415442 dX11_told_53 ?_
      obtain ⟨x_415452, hx_415452, rx_415452⟩ := ex_get (I := I) (a := b_415442) (j := 7) (lo := 0) (hi := 40) hU hb_415442L (ro_o hb_415442k (by decide)) rfl
      refine g_getI C K hb_415442L hb_415442k f_11_349 (v := x_415452) hx_415452 dX11_told_56 ?_
      exact g_zret (ty := .int) (r := x_415452) B K rfl (rfl) ⟨rfl, rfl, rg_all _⟩ dX11_told_59
    by_cases c_415453 : a0.toInt = 2
    · skip
      have r_415454 := rg_of (a := 2) (b := 2) 2 c_415453 (by decide) (by decide)
      refine g_tableIn C (tgt := 60) dX11_told_13 (by omega) (by omega) (off := 47) (by rw [c_415453]; rfl) (by decide) ?_
      refine g_aload_n C 0 dX11_told_60 rfl rfl ?_
      refine g_getR C K hLx hkx f_11_52 hb_415442 dX11_told_61 ?_
      obtain ⟨x_415455, hx_415455, rx_415455⟩ := ex_get (I := I) (a := b_415442) (j := 8) (lo := (-2147483648)) (hi := 2147483647) hU hb_415442L (ro_o hb_415442k (by decide)) rfl
      refine g_getI C K hb_415442L hb_415442k f_11_356 (v := x_415455) hx_415455 dX11_told_64 ?_
      exact g_zret (ty := .int) (r := x_415455) B K rfl (rfl) ⟨rfl, rfl, rx_415455⟩ dX11_told_67
    by_cases c_415456 : a0.toInt = 3
    · skip
      have r_415457 := rg_of (a := 3) (b := 3) 3 c_415456 (by decide) (by decide)
      refine g_tableIn C (tgt := 68) dX11_told_13 (by omega) (by omega) (off := 55) (by rw [c_415456]; rfl) (by decide) ?_
      refine g_aload_n C 0 dX11_told_68 rfl rfl ?_
      refine g_getR C K hLx hkx f_11_52 hb_415442 dX11_told_69 ?_
      obtain ⟨x_415458, hx_415458, rx_415458⟩ := ex_get (I := I) (a := b_415442) (j := 9) (lo := (-2147483648)) (hi := 2147483647) hU hb_415442L (ro_o hb_415442k (by decide)) rfl
      refine g_getI C K hb_415442L hb_415442k f_11_359 (v := x_415458) hx_415458 dX11_told_72 ?_
      exact g_zret (ty := .int) (r := x_415458) B K rfl (rfl) ⟨rfl, rfl, rx_415458⟩ dX11_told_75
    obtain ⟨q_4154591, q_4154592⟩ := (rg_all a0)
    refine g_tableOut C (tgt := 76) dX11_told_13 (by omega) (by decide) ?_
    refine g_iconst C (v := (-1)) dX11_told_76 (by decide) ?_
    exact g_zret (ty := .int) (r := (-1)) B K rfl (rfl) ⟨rfl, rfl, rg_all _⟩ dX11_told_77
  · skip
    have r_415460 := (⟨(rx_415443).1, (eq_rg (h_415444) rc_0).2⟩ : Rg 0 0 x_415443)
    refine g_iconst C (v := (-1)) dX11_told_10 (by decide) ?_
    exact g_zret (ty := .int) (r := (-1)) B K rfl (rfl) ⟨rfl, rfl, rg_all _⟩ dX11_told_11
set_option maxRecDepth 100000 in
set_option maxHeartbeats 8000000 in
theorem c_X7_become {l : Launch} {D : va_G} {cy : Nat → ClassId} {L : List Nat} {κ ln : Nat → Nat} {R : Nat → Nat → Option Nat} {I : Nat → Nat → Int32} {J : Nat → Nat → Int64} {ow : Nat → Nat × Nat} (W9 : ∀ a ∈ L, Shp L κ ln R ow a) {x : Nat} (hLx : x ∈ L) (hkx : κ x = 7) {a0 : Nat} (hLa0 : a0 ∈ L) (hka0 : κ a0 = 7) (hU : Uv L κ ow I) : CtV l yX7_become cX7_become 2 none { frames := 1, cells := 0, slots := 0, locals := 60 } D cy L κ ln R I J [.ref x, .ref a0] (fun I2 J2 => Uv L κ ow I2 ∧ Fq L κ ow [704, 705, 52000, 52100, 52200] I I2 ∧ Fq L κ ow [] J J2) := by
  refine CtV.of (by decide +kernel) (Nat.le_of_ble_eq_true rfl) ?_
  intro p e s m below meth c B K
  have C := B.1
  have hF : Fq L κ ow [704, 705, 52000, 52100, 52200] I I := fq_rf
  have hG : Fq L κ ow [] J J := fq_rf
  obtain ⟨b_415507, hb_415507, hb_415507L, hb_415507k, hb_415507n, hb_415507o⟩ := shp_a (W9 a0 hLa0) hka0 0 14 40 rfl (by decide)
  obtain ⟨b_415508, hb_415508, hb_415508L, hb_415508k, hb_415508n, hb_415508o⟩ := shp_a (W9 a0 hLa0) hka0 2 14 40 rfl (by decide)
  obtain ⟨b_415509, hb_415509, hb_415509L, hb_415509k, hb_415509n, hb_415509o⟩ := shp_a (W9 x hLx) hkx 1 14 40 rfl (by decide)
  obtain ⟨b_415510, hb_415510, hb_415510L, hb_415510k, hb_415510n, hb_415510o⟩ := shp_a (W9 x hLx) hkx 0 14 40 rfl (by decide)
  obtain ⟨b_415511, hb_415511, hb_415511L, hb_415511k, hb_415511n, hb_415511o⟩ := shp_a (W9 x hLx) hkx 2 14 40 rfl (by decide)
  obtain ⟨b_415512, hb_415512, hb_415512L, hb_415512k, hb_415512n, hb_415512o⟩ := shp_a (W9 a0 hLa0) hka0 1 14 40 rfl (by decide)
  refine g_lo (is := [0, 1]) (lo2 := [(0, .ref x), (1, .ref a0)]) rfl ?_
  refine g_aload_n C 1 dX7_become_0 rfl rfl ?_
  refine g_getR C K hLa0 hka0 f_7_11 hb_415507 dX7_become_1 ?_
  refine g_iconst C (v := 0) dX7_become_4 (by decide) ?_
  refine g_aload_n C 0 dX7_become_5 rfl rfl ?_
  refine g_getR C K hLx hkx f_7_11 hb_415510 dX7_become_6 ?_
  refine g_iconst C (v := 0) dX7_become_9 (by decide) ?_
  refine g_bipush C (v := 40) dX7_become_10 (by decide) ?_
  refine h_copyI C K hb_415510L hb_415510k hb_415507L hb_415507k ac_7_31 40 (by decide) (by decide) (by rw [hb_415507n]; decide) (by rw [hb_415510n]; decide) w_cp (Nat.le_of_ble_eq_true rfl) (Nat.le_of_ble_eq_true rfl) dX7_become_12 (fun I_415513 hI_415513 => ?_)
  have hU_415514 := uv_cp hU hb_415507L hI_415513 (ro_a hb_415510k (by decide) hb_415510o hkx rfl) (ro_a hb_415507k (by decide) hb_415507o hka0 rfl)
  have hF_415515 := fq_cp hF hI_415513 (ro_a hb_415510k (by decide) hb_415510o hkx rfl) (by decide) (by decide)
  refine g_aload_n C 1 dX7_become_15 rfl rfl ?_
  refine g_getR C K hLa0 hka0 f_7_15 hb_415512 dX7_become_16 ?_
  refine g_iconst C (v := 0) dX7_become_19 (by decide) ?_
  refine g_aload_n C 0 dX7_become_20 rfl rfl ?_
  refine g_getR C K hLx hkx f_7_15 hb_415509 dX7_become_21 ?_
  refine g_iconst C (v := 0) dX7_become_24 (by decide) ?_
  refine g_bipush C (v := 40) dX7_become_25 (by decide) ?_
  refine h_copyI C K hb_415509L hb_415509k hb_415512L hb_415512k ac_7_31 40 (by decide) (by decide) (by rw [hb_415512n]; decide) (by rw [hb_415509n]; decide) w_cp (Nat.le_of_ble_eq_true rfl) (Nat.le_of_ble_eq_true rfl) dX7_become_27 (fun I_415516 hI_415516 => ?_)
  have hU_415517 := uv_cp hU_415514 hb_415512L hI_415516 (ro_a hb_415509k (by decide) hb_415509o hkx rfl) (ro_a hb_415512k (by decide) hb_415512o hka0 rfl)
  have hF_415518 := fq_cp hF_415515 hI_415516 (ro_a hb_415509k (by decide) hb_415509o hkx rfl) (by decide) (by decide)
  refine g_aload_n C 1 dX7_become_30 rfl rfl ?_
  refine g_getR C K hLa0 hka0 f_7_18 hb_415508 dX7_become_31 ?_
  refine g_iconst C (v := 0) dX7_become_34 (by decide) ?_
  refine g_aload_n C 0 dX7_become_35 rfl rfl ?_
  refine g_getR C K hLx hkx f_7_18 hb_415511 dX7_become_36 ?_
  refine g_iconst C (v := 0) dX7_become_39 (by decide) ?_
  refine g_bipush C (v := 40) dX7_become_40 (by decide) ?_
  refine h_copyI C K hb_415511L hb_415511k hb_415508L hb_415508k ac_7_31 40 (by decide) (by decide) (by rw [hb_415508n]; decide) (by rw [hb_415511n]; decide) w_cp (Nat.le_of_ble_eq_true rfl) (Nat.le_of_ble_eq_true rfl) dX7_become_42 (fun I_415519 hI_415519 => ?_)
  have hU_415520 := uv_cp hU_415517 hb_415508L hI_415519 (ro_a hb_415511k (by decide) hb_415511o hkx rfl) (ro_a hb_415508k (by decide) hb_415508o hka0 rfl)
  have hF_415521 := fq_cp hF_415518 hI_415519 (ro_a hb_415511k (by decide) hb_415511o hkx rfl) (by decide) (by decide)
  refine g_aload_n C 0 dX7_become_45 rfl rfl ?_
  refine g_aload_n C 1 dX7_become_46 rfl rfl ?_
  obtain ⟨x_415522, hx_415522, rx_415522⟩ := ex_get (I := I_415519) (a := a0) (j := 4) (lo := 0) (hi := 40) hU_415520 hLa0 (ro_o hka0 (by decide)) rfl
  refine g_getI C K hLa0 hka0 f_7_24 (v := x_415522) hx_415522 dX7_become_47 ?_
  refine h_putI C K hLx hkx f_7_24 p_7_4 dX7_become_50 (fun I_415523 hI_415523 => ?_)
  have hU_415524 := uv_put hU_415520 hI_415523 (ro_o hkx (by decide)) (lo := 0) (hi := 40) rfl (rx_415522)
  have hF_415525 := fq_puto hF_415521 hI_415523 hkx (by decide) (by decide)
  refine g_aload_n C 0 dX7_become_53 rfl rfl ?_
  refine g_aload_n C 1 dX7_become_54 rfl rfl ?_
  obtain ⟨x_415526, hx_415526, rx_415526⟩ := ex_get (I := I_415523) (a := a0) (j := 5) (lo := (-2147483648)) (hi := 2147483647) hU_415524 hLa0 (ro_o hka0 (by decide)) rfl
  refine g_getI C K hLa0 hka0 f_7_28 (v := x_415526) hx_415526 dX7_become_55 ?_
  refine h_putI C K hLx hkx f_7_28 p_7_5 dX7_become_58 (fun I_415527 hI_415527 => ?_)
  have hU_415528 := uv_put hU_415524 hI_415527 (ro_o hkx (by decide)) (lo := (-2147483648)) (hi := 2147483647) rfl (rx_415526)
  have hF_415529 := fq_puto hF_415525 hI_415527 hkx (by decide) (by decide)
  exact g_vret B K rfl ⟨hU_415528, hF_415529, hG⟩ dX7_become_61
set_option maxRecDepth 100000 in
set_option maxHeartbeats 8000000 in
theorem c_X7_addStep {l : Launch} {D : va_G} {cy : Nat → ClassId} {L : List Nat} {κ ln : Nat → Nat} {R : Nat → Nat → Option Nat} {I : Nat → Nat → Int32} {J : Nat → Nat → Int64} {ow : Nat → Nat × Nat} (W9 : ∀ a ∈ L, Shp L κ ln R ow a) {x : Nat} (hLx : x ∈ L) (hkx : κ x = 7) (a0 : Int32) (a1 : Int32) (a2 : Int32) (ra1 : Rg 0 62 a1) (hU : Uv L κ ow I) : CtI l yX7_addStep cX7_addStep 4 (some .boolean) { frames := 0, cells := 0, slots := 0, locals := 0 } D cy L κ ln R I J [.ref x, .int a0, .int a1, .int a2] (fun r I2 J2 => Uv L κ ow I2 ∧ Fq L κ ow [704, 52000, 52100, 52200] I I2 ∧ Fq L κ ow [] J J2 ∧ Rg 0 1 r) := by
  refine CtI.of (by decide +kernel) (Nat.le_of_ble_eq_true rfl) ?_
  intro p e s m below meth c B K
  have C := B.1
  have hF : Fq L κ ow [704, 52000, 52100, 52200] I I := fq_rf
  have hG : Fq L κ ow [] J J := fq_rf
  obtain ⟨b_415570, hb_415570, hb_415570L, hb_415570k, hb_415570n, hb_415570o⟩ := shp_a (W9 x hLx) hkx 1 14 40 rfl (by decide)
  obtain ⟨b_415571, hb_415571, hb_415571L, hb_415571k, hb_415571n, hb_415571o⟩ := shp_a (W9 x hLx) hkx 0 14 40 rfl (by decide)
  obtain ⟨b_415572, hb_415572, hb_415572L, hb_415572k, hb_415572n, hb_415572o⟩ := shp_a (W9 x hLx) hkx 2 14 40 rfl (by decide)
  refine g_lo (is := [0, 1, 2, 3]) (lo2 := [(0, .ref x), (1, .int a0), (2, .int a1), (3, .int a2)]) rfl ?_
  refine g_aload_n C 0 dX7_addStep_0 rfl rfl ?_
  obtain ⟨x_415573, hx_415573, rx_415573⟩ := ex_get (I := I) (a := x) (j := 4) (lo := 0) (hi := 40) hU hLx (ro_o hkx (by decide)) rfl
  refine g_getI C K hLx hkx f_7_24 (v := x_415573) hx_415573 dX7_addStep_1 ?_
  refine g_bipush C (v := 40) dX7_addStep_4 (by decide) ?_
  refine g_icmp_lt C (tgt := 11) dX7_addStep_6 (by decide) (fun h_415574 => ?_) (fun h_415574 => ?_)
  · skip
    have r_415575 := lt_l (hi := 39) (h_415574) rx_415573 rc_40 (by decide)
    refine g_aload_n C 0 dX7_addStep_11 rfl rfl ?_
    refine g_getR C K hLx hkx f_7_11 hb_415571 dX7_addStep_12 ?_
    refine g_aload_n C 0 dX7_addStep_15 rfl rfl ?_
    refine g_getI C K hLx hkx f_7_24 (v := x_415573) hx_415573 dX7_addStep_16 ?_
    refine g_iload_n C 1 dX7_addStep_19 rfl rfl ?_
    refine h_iast C K hb_415571L hb_415571k (x_415573.toNatClampNeg) (rfl) (ix_0 r_415575 (by decide)) (ix_lt r_415575 (by decide) hb_415571n (by decide)) dX7_addStep_20 (fun I_415576 hI_415576 => ?_)
    have hU_415577 := uv_put hU hI_415576 (ro_a hb_415571k (by decide) hb_415571o hkx rfl) (lo := (-2147483648)) (hi := 2147483647) (rfl) ((rg_all a0))
    have hF_415578 := fq_puta hF hI_415576 (ro_a hb_415571k (by decide) hb_415571o hkx rfl) (by decide) (by decide)
    refine g_aload_n C 0 dX7_addStep_21 rfl rfl ?_
    refine g_getR C K hLx hkx f_7_15 hb_415570 dX7_addStep_22 ?_
    refine g_aload_n C 0 dX7_addStep_25 rfl rfl ?_
    refine g_getI C K hLx hkx f_7_24 (v := x_415573) (kp_k (κ := κ) hI_415576 (by rw [hkx, hb_415571k]; decide) hx_415573) dX7_addStep_26 ?_
    refine g_iload_n C 2 dX7_addStep_29 rfl rfl ?_
    refine h_iast C K hb_415570L hb_415570k (x_415573.toNatClampNeg) (rfl) (ix_0 r_415575 (by decide)) (ix_lt r_415575 (by decide) hb_415570n (by decide)) dX7_addStep_30 (fun I_415579 hI_415579 => ?_)
    have hU_415580 := uv_put hU_415577 hI_415579 (ro_a hb_415570k (by decide) hb_415570o hkx rfl) (lo := (-2147483648)) (hi := 2147483647) (rfl) (rg_all _)
    have hF_415581 := fq_puta hF_415578 hI_415579 (ro_a hb_415570k (by decide) hb_415570o hkx rfl) (by decide) (by decide)
    refine g_aload_n C 0 dX7_addStep_31 rfl rfl ?_
    refine g_getR C K hLx hkx f_7_18 hb_415572 dX7_addStep_32 ?_
    refine g_aload_n C 0 dX7_addStep_35 rfl rfl ?_
    refine g_getI C K hLx hkx f_7_24 (v := x_415573) (kp_k (κ := κ) hI_415579 (by rw [hkx, hb_415570k]; decide) (kp_k (κ := κ) hI_415576 (by rw [hkx, hb_415571k]; decide) hx_415573)) dX7_addStep_36 ?_
    refine g_iload_n C 3 dX7_addStep_39 rfl rfl ?_
    refine h_iast C K hb_415572L hb_415572k (x_415573.toNatClampNeg) (rfl) (ix_0 r_415575 (by decide)) (ix_lt r_415575 (by decide) hb_415572n (by decide)) dX7_addStep_40 (fun I_415582 hI_415582 => ?_)
    have hU_415583 := uv_put hU_415580 hI_415582 (ro_a hb_415572k (by decide) hb_415572o hkx rfl) (lo := (-2147483648)) (hi := 2147483647) (rfl) ((rg_all a2))
    have hF_415584 := fq_puta hF_415581 hI_415582 (ro_a hb_415572k (by decide) hb_415572o hkx rfl) (by decide) (by decide)
    refine g_aload_n C 0 dX7_addStep_41 rfl rfl ?_
    refine g_dup C dX7_addStep_42 rfl ?_
    refine g_getI C K hLx hkx f_7_24 (v := x_415573) (kp_k (κ := κ) hI_415582 (by rw [hkx, hb_415572k]; decide) (kp_k (κ := κ) hI_415579 (by rw [hkx, hb_415570k]; decide) (kp_k (κ := κ) hI_415576 (by rw [hkx, hb_415571k]; decide) hx_415573))) dX7_addStep_43 ?_
    refine g_iconst C (v := 1) dX7_addStep_46 (by decide) ?_
    obtain ⟨x_415585, hx_415585, rx_415585, tx_415585⟩ := ex_add 1 40 r_415575 rc_1 (by decide) (by decide) (by decide) (by decide)
    refine g_iadd C (v := x_415585) dX7_addStep_47 hx_415585 ?_
    refine h_putI C K hLx hkx f_7_24 p_7_4 dX7_addStep_48 (fun I_415586 hI_415586 => ?_)
    have hU_415587 := uv_put hU_415583 hI_415586 (ro_o hkx (by decide)) (lo := 0) (hi := 40) rfl (rg_w rx_415585 (by decide) (by decide))
    have hF_415588 := fq_puto hF_415584 hI_415586 hkx (by decide) (by decide)
    refine g_iconst C (v := 1) dX7_addStep_51 (by decide) ?_
    exact g_zret (ty := .boolean) (r := 1) B K rfl (rfl) ⟨hU_415587, hF_415588, hG, rg_w rc_1 (by decide) (by decide)⟩ dX7_addStep_52
  · skip
    have r_415589 := le_r (nlt h_415574) rc_40 rx_415573
    refine g_iconst C (v := 0) dX7_addStep_9 (by decide) ?_
    exact g_zret (ty := .boolean) (r := 0) B K rfl (rfl) ⟨hU, hF, hG, rg_w rc_0 (by decide) (by decide)⟩ dX7_addStep_10
set_option maxRecDepth 100000 in
set_option maxHeartbeats 8000000 in
theorem c_X7_beginsOne {l : Launch} {D : va_G} {cy : Nat → ClassId} {L : List Nat} {κ ln : Nat → Nat} {R : Nat → Nat → Option Nat} {I : Nat → Nat → Int32} {J : Nat → Nat → Int64} {ow : Nat → Nat × Nat} (W9 : ∀ a ∈ L, Shp L κ ln R ow a) (a0 : Int32) (hU : Uv L κ ow I) : CtI l yX7_beginsOne cX7_beginsOne 1 (some .boolean) { frames := 0, cells := 0, slots := 0, locals := 0 } D cy L κ ln R I J [.int a0] (fun r I2 J2 => I = I2 ∧ J = J2 ∧ Rg 0 1 r) := by
  refine CtI.of (by decide +kernel) (Nat.le_of_ble_eq_true rfl) ?_
  intro p e s m below meth c B K
  have C := B.1
  refine g_lo (is := [0]) (lo2 := [(0, .int a0)]) rfl ?_
  have j_23 : ∀ (v_415614 : Int32) (rv_415614 : Rg 5 40 v_415614), WG p l e { frames := 0, cells := 0, slots := 0, locals := 0 } s m ([.int a0] : List Value).toArray below meth c 1 0 0 (MQ below (Qi_ D cy L κ ln R (fun r I2 J2 => I = I2 ∧ J = J2 ∧ Rg 0 1 r)) ([.int a0] : List Value).toArray s 0 0 (Al_ L)) D cy (Al_ L) s.heap L κ ln R I J 23 [(0, .int v_415614)] [] := by
    intro v_415614 rv_415614
    refine g_iconst C (v := 1) dX7_beginsOne_23 (by decide) ?_
    refine g_goto C (tgt := 28) dX7_beginsOne_24 (by decide) ?_
    exact g_zret (ty := .boolean) (r := 1) B K rfl (rfl) ⟨rfl, rfl, rg_w rc_1 (by decide) (by decide)⟩ dX7_beginsOne_28
  refine g_iload_n C 0 dX7_beginsOne_0 rfl rfl ?_
  refine g_bipush C (v := 40) dX7_beginsOne_1 (by decide) ?_
  refine g_icmp_eq C (tgt := 23) dX7_beginsOne_3 (by decide) (fun h_415615 => ?_) (fun h_415615 => ?_)
  · skip
    have r_415616 := (⟨(eq_rg (h_415615) rc_40).1, (eq_rg (h_415615) rc_40).2⟩ : Rg 40 40 a0)
    refine g_lo (is := [0]) (lo2 := [(0, .int a0)]) rfl ?_
    exact j_23 a0 (rg_w r_415616 (by decide) (by decide))
  · skip
    have n_415617 : ¬ a0 = 40 := h_415615
    refine g_iload_n C 0 dX7_beginsOne_6 rfl rfl ?_
    refine g_iconst C (v := 5) dX7_beginsOne_7 (by decide) ?_
    refine g_icmp_eq C (tgt := 23) dX7_beginsOne_8 (by decide) (fun h_415618 => ?_) (fun h_415618 => ?_)
    · skip
      have r_415619 := (⟨(eq_rg (h_415618) rc_5).1, (eq_rg (h_415618) rc_5).2⟩ : Rg 5 5 a0)
      refine g_lo (is := [0]) (lo2 := [(0, .int a0)]) rfl ?_
      exact j_23 a0 (rg_w r_415619 (by decide) (by decide))
    · skip
      have n_415620 : ¬ a0 = 5 := h_415618
      refine g_iload_n C 0 dX7_beginsOne_11 rfl rfl ?_
      refine g_bipush C (v := 19) dX7_beginsOne_12 (by decide) ?_
      refine g_icmp_lt C (tgt := 27) dX7_beginsOne_14 (by decide) (fun h_415621 => ?_) (fun h_415621 => ?_)
      · skip
        have r_415622 := lt_l (hi := 18) (h_415621) (rg_all a0) rc_19 (by decide)
        refine g_iconst C (v := 0) dX7_beginsOne_27 (by decide) ?_
        exact g_zret (ty := .boolean) (r := 0) B K rfl (rfl) ⟨rfl, rfl, rg_w rc_0 (by decide) (by decide)⟩ dX7_beginsOne_28
      · skip
        have r_415623 := le_r (nlt h_415621) rc_19 (rg_all a0)
        refine g_iload_n C 0 dX7_beginsOne_17 rfl rfl ?_
        refine g_bipush C (v := 27) dX7_beginsOne_18 (by decide) ?_
        refine g_icmp_gt C (tgt := 27) dX7_beginsOne_20 (by decide) (fun h_415624 => ?_) (fun h_415624 => ?_)
        · skip
          have r_415625 := lt_r (lo := 28) (h_415624) rc_27 r_415623 (by decide)
          refine g_iconst C (v := 0) dX7_beginsOne_27 (by decide) ?_
          exact g_zret (ty := .boolean) (r := 0) B K rfl (rfl) ⟨rfl, rfl, rg_w rc_0 (by decide) (by decide)⟩ dX7_beginsOne_28
        · skip
          have r_415626 := le_l (nlt h_415624) r_415623 rc_27
          refine g_lo (is := [0]) (lo2 := [(0, .int a0)]) rfl ?_
          exact j_23 a0 (rg_w r_415626 (by decide) (by decide))
set_option maxRecDepth 100000 in
set_option maxHeartbeats 8000000 in
theorem c_X7_readPlainOne {l : Launch} {D : va_G} {cy : Nat → ClassId} {L : List Nat} {κ ln : Nat → Nat} {R : Nat → Nat → Option Nat} {I : Nat → Nat → Int32} {J : Nat → Nat → Int64} {ow : Nat → Nat × Nat} (W9 : ∀ a ∈ L, Shp L κ ln R ow a) {x : Nat} (hLx : x ∈ L) (hkx : κ x = 7) {a0 : Nat} (hLa0 : a0 ∈ L) (hka0 : κ a0 = 10) {a1 : Nat} (hLa1 : a1 ∈ L) (hka1 : κ a1 = 8) (a2 : Int32) (hU : Uv L κ ow I) : CtI l yX7_readPlainOne cX7_readPlainOne 6 (some .boolean) { frames := 2, cells := 0, slots := 0, locals := 44 } D cy L κ ln R I J [.ref x, .ref a0, .ref a1, .int a2] (fun r I2 J2 => Uv L κ ow I2 ∧ Fq L κ ow [704, 1007, 1008, 1009, 1011, 1012, 52000, 52100, 52200] I I2 ∧ Fq L κ ow [1010] J J2 ∧ Rg 0 1 r) := by
  refine CtI.of (by decide +kernel) (Nat.le_of_ble_eq_true rfl) ?_
  intro p e s m below meth c B K
  have C := B.1
  have hF : Fq L κ ow [704, 1007, 1008, 1009, 1011, 1012, 52000, 52100, 52200] I I := fq_rf
  have hG : Fq L κ ow [1010] J J := fq_rf
  refine g_lo (is := [0, 1, 2, 3]) (lo2 := [(0, .ref x), (1, .ref a0), (2, .ref a1), (3, .int a2)]) rfl ?_
  have j_132 : ∀ (I_415841 : Nat → Nat → Int32) (J_415842 : Nat → Nat → Int64) (hU_415843 : Uv L κ ow I_415841) (hF_415844 : Fq L κ ow [704, 1007, 1008, 1009, 1011, 1012, 52000, 52100, 52200] I I_415841) (hG_415845 : Fq L κ ow [1010] J J_415842) (v_415846 : Int32) (rv_415846 : Rg 24 2147483647 v_415846) (nv_415846_5 : ¬ v_415846 = 5) (nv_415846_23 : ¬ v_415846 = 23) (v_415847 : Int32) (rv_415847 : Rg 60 62 v_415847) (q_415848 : I_415841 a0 8 = v_415847), WG p l e { frames := 2, cells := 0, slots := 0, locals := 44 } s m ([.ref x, .ref a0, .ref a1, .int a2] : List Value).toArray below meth c 6 0 0 (MQ below (Qi_ D cy L κ ln R (fun r I2 J2 => Uv L κ ow I2 ∧ Fq L κ ow [704, 1007, 1008, 1009, 1011, 1012, 52000, 52100, 52200] I I2 ∧ Fq L κ ow [1010] J J2 ∧ Rg 0 1 r)) ([.ref x, .ref a0, .ref a1, .int a2] : List Value).toArray s 0 0 (Al_ L)) D cy (Al_ L) s.heap L κ ln R I_415841 J_415842 132 [(0, .ref x), (1, .ref a0), (2, .ref a1), (3, .int v_415846), (4, .int v_415847)] [] := by
    intro I_415841 J_415842 hU_415843 hF_415844 hG_415845 v_415846 rv_415846 nv_415846_5 nv_415846_23 v_415847 rv_415847 q_415848
    refine g_aload_n C 1 dX7_readPlainOne_132 rfl rfl ?_
    refine g_callVV C K (c_X10_advance W9 hLa0 hka0   hU_415843) hLa0 hka0 (by decide) rfl v_7_60 rfl ⟨rfl, rfl⟩ ⟨Nat.le_of_ble_eq_true rfl, Nat.le_of_ble_eq_true rfl⟩ (Nat.le_of_ble_eq_true rfl) ⟨Nat.le_of_ble_eq_true rfl, Nat.le_of_ble_eq_true rfl⟩ dX7_readPlainOne_133 rfl (st := []) (fun I_415850 J_415851 h_415852 => ?_)
    obtain ⟨hUI_415850, hFI_415850, hGJ_415851⟩ := h_415852
    have hF_415853 := fq_tr hF_415844 hFI_415850 (by decide)
    have hG_415854 := fq_tr hG_415845 hGJ_415851 (by decide)
    refine g_aload_n C 1 dX7_readPlainOne_136 rfl rfl ?_
    refine g_iconst C (v := 0) dX7_readPlainOne_137 (by decide) ?_
    refine g_sipush C (v := 999) dX7_readPlainOne_138 (by decide) ?_
    refine g_callVI C K (c_X10_takeNumber W9 hLa0 hka0 0 999 (rg_w rc_0 (by decide) (by decide)) (rg_w rc_999 (by decide) (by decide)) hUI_415850) hLa0 hka0 (by decide) rfl v_7_96 rfl ⟨rfl, rfl⟩ ⟨Nat.le_of_ble_eq_true rfl, Nat.le_of_ble_eq_true rfl⟩ (Nat.le_of_ble_eq_true rfl) ⟨Nat.le_of_ble_eq_true rfl, Nat.le_of_ble_eq_true rfl⟩ dX7_readPlainOne_141 rfl (st := []) (fun x_415855 I_415856 J_415857 h_415858 => ?_)
    obtain ⟨hUI_415856, hFI_415856, hGJ_415857, rx_415855⟩ := h_415858
    have hF_415859 := fq_tr hF_415853 hFI_415856 (by decide)
    have hG_415860 := fq_tr hG_415854 hGJ_415857 (by decide)
    refine g_istore C dX7_readPlainOne_144 (by decide) (lo2 := [(5, .int x_415855), (0, .ref x), (1, .ref a0), (2, .ref a1), (3, .int v_415846), (4, .int v_415847)]) rfl ?_
    refine g_iload C 0 dX7_readPlainOne_146 rfl ?_
    refine g_iconst C (v := (-1)) dX7_readPlainOne_148 (by decide) ?_
    refine g_icmp_eq C (tgt := 168) dX7_readPlainOne_149 (by decide) (fun h_415861 => ?_) (fun h_415861 => ?_)
    · skip
      have r_415862 := (⟨(eq_rg (h_415861) rc_m1).1, (eq_rg (h_415861) rc_m1).2⟩ : Rg (-1) (-1) x_415855)
      refine g_iconst C (v := 0) dX7_readPlainOne_168 (by decide) ?_
      exact g_zret (ty := .boolean) (r := 0) B K rfl (rfl) ⟨hUI_415856, hF_415859, hG_415860, rg_w rc_0 (by decide) (by decide)⟩ dX7_readPlainOne_169
    · skip
      have n_415863 : ¬ x_415855 = (-1) := h_415861
      refine g_aload_n C 1 dX7_readPlainOne_152 rfl rfl ?_
      refine g_iload_n C 4 dX7_readPlainOne_153 rfl rfl ?_
      refine g_iload C 5 dX7_readPlainOne_154 rfl ?_
      refine g_iload C 0 dX7_readPlainOne_156 rfl ?_
      refine g_callVI C K (c_X7_addStep W9 hLx hkx v_415846 v_415847 x_415855 (rg_w rv_415847 (by decide) (by decide)) hUI_415856) hLx hkx (by decide) rfl v_7_63 rfl ⟨rfl, rfl⟩ ⟨Nat.le_of_ble_eq_true rfl, Nat.le_of_ble_eq_true rfl⟩ (Nat.le_of_ble_eq_true rfl) ⟨Nat.le_of_ble_eq_true rfl, Nat.le_of_ble_eq_true rfl⟩ dX7_readPlainOne_158 rfl (st := []) (fun x_415864 I_415865 J_415866 h_415867 => ?_)
      obtain ⟨hUI_415865, hFI_415865, hGJ_415866, rx_415864⟩ := h_415867
      have hF_415868 := fq_tr hF_415859 hFI_415865 (by decide)
      have hG_415869 := fq_tr hG_415860 hGJ_415866 (by decide)
      refine g_if_eq C (tgt := 168) dX7_readPlainOne_161 (by decide) (fun h_415870 => ?_) (fun h_415870 => ?_)
      · skip
        have r_415871 := (⟨(rx_415864).1, (eq_rg (h_415870) rc_0).2⟩ : Rg 0 0 x_415864)
        refine g_iconst C (v := 0) dX7_readPlainOne_168 (by decide) ?_
        exact g_zret (ty := .boolean) (r := 0) B K rfl (rfl) ⟨hUI_415865, hF_415868, hG_415869, rg_w rc_0 (by decide) (by decide)⟩ dX7_readPlainOne_169
      · skip
        have n_415872 : ¬ x_415864 = 0 := h_415870
        have r_415873 := ne_lo (lo := 1) n_415872 rx_415864 rc_0 rfl (by decide)
        refine g_iconst C (v := 1) dX7_readPlainOne_164 (by decide) ?_
        refine g_goto C (tgt := 169) dX7_readPlainOne_165 (by decide) ?_
        exact g_zret (ty := .boolean) (r := 1) B K rfl (rfl) ⟨hUI_415865, hF_415868, hG_415869, rg_w rc_1 (by decide) (by decide)⟩ dX7_readPlainOne_169
  refine g_iload_n C 3 dX7_readPlainOne_0 rfl rfl ?_
  refine g_iconst C (v := 5) dX7_readPlainOne_1 (by decide) ?_
  refine g_icmp_ne C (tgt := 42) dX7_readPlainOne_2 (by decide) (fun h_415874 => ?_) (fun h_415874 => ?_)
  · skip
    have n_415875 : ¬ a2 = 5 := h_415874
    refine g_iload_n C 3 dX7_readPlainOne_42 rfl rfl ?_
    refine g_bipush C (v := 23) dX7_readPlainOne_43 (by decide) ?_
    refine g_icmp_ne C (tgt := 85) dX7_readPlainOne_45 (by decide) (fun h_415876 => ?_) (fun h_415876 => ?_)
    · skip
      have n_415877 : ¬ a2 = 23 := h_415876
      refine g_iload_n C 3 dX7_readPlainOne_85 rfl rfl ?_
      refine g_bipush C (v := 23) dX7_readPlainOne_86 (by decide) ?_
      refine g_icmp_ge C (tgt := 99) dX7_readPlainOne_88 (by decide) (fun h_415878 => ?_) (fun h_415878 => ?_)
      · skip
        have r_415879 := le_r (h_415878) rc_23 (rg_all a2)
        have r_415880 := ne_lo (lo := 24) n_415877 r_415879 rc_23 rfl (by decide)
        refine g_aload_n C 1 dX7_readPlainOne_99 rfl rfl ?_
        obtain ⟨x_415881, hx_415881, rx_415881⟩ := ex_get (I := I) (a := a0) (j := 8) (lo := (-2147483648)) (hi := 2147483647) hU hLa0 (ro_o hka0 (by decide)) rfl
        refine g_getI C K hLa0 hka0 f_7_57 (v := x_415881) hx_415881 dX7_readPlainOne_100 ?_
        refine g_istore C dX7_readPlainOne_103 (by decide) (lo2 := [(4, .int x_415881), (0, .ref x), (1, .ref a0), (2, .ref a1), (3, .int a2)]) rfl ?_
        refine g_iload C 0 dX7_readPlainOne_105 rfl ?_
        refine g_bipush C (v := 60) dX7_readPlainOne_107 (by decide) ?_
        refine g_icmp_eq C (tgt := 132) dX7_readPlainOne_109 (by decide) (fun h_415882 => ?_) (fun h_415882 => ?_)
        · skip
          have r_415883 := (⟨(eq_rg (h_415882) rc_60).1, (eq_rg (h_415882) rc_60).2⟩ : Rg 60 60 x_415881)
          refine g_lo (is := [1, 2, 3, 4, 0]) (lo2 := [(0, .ref x), (1, .ref a0), (2, .ref a1), (3, .int a2), (4, .int x_415881)]) rfl ?_
          exact j_132 I J hU hF hG a2 (r_415880) (n_415875) (n_415877) x_415881 (rg_w r_415883 (by decide) (by decide)) hx_415881
        · skip
          have n_415884 : ¬ x_415881 = 60 := h_415882
          refine g_iload C 0 dX7_readPlainOne_112 rfl ?_
          refine g_bipush C (v := 61) dX7_readPlainOne_114 (by decide) ?_
          refine g_icmp_eq C (tgt := 132) dX7_readPlainOne_116 (by decide) (fun h_415885 => ?_) (fun h_415885 => ?_)
          · skip
            have r_415886 := (⟨(eq_rg (h_415885) rc_61).1, (eq_rg (h_415885) rc_61).2⟩ : Rg 61 61 x_415881)
            refine g_lo (is := [1, 2, 3, 4, 0]) (lo2 := [(0, .ref x), (1, .ref a0), (2, .ref a1), (3, .int a2), (4, .int x_415881)]) rfl ?_
            exact j_132 I J hU hF hG a2 (r_415880) (n_415875) (n_415877) x_415881 (rg_w r_415886 (by decide) (by decide)) hx_415881
          · skip
            have n_415887 : ¬ x_415881 = 61 := h_415885
            refine g_iload C 0 dX7_readPlainOne_119 rfl ?_
            refine g_bipush C (v := 62) dX7_readPlainOne_121 (by decide) ?_
            refine g_icmp_eq C (tgt := 132) dX7_readPlainOne_123 (by decide) (fun h_415888 => ?_) (fun h_415888 => ?_)
            · skip
              have r_415889 := (⟨(eq_rg (h_415888) rc_62).1, (eq_rg (h_415888) rc_62).2⟩ : Rg 62 62 x_415881)
              refine g_lo (is := [1, 2, 3, 4, 0]) (lo2 := [(0, .ref x), (1, .ref a0), (2, .ref a1), (3, .int a2), (4, .int x_415881)]) rfl ?_
              exact j_132 I J hU hF hG a2 (r_415880) (n_415875) (n_415877) x_415881 (rg_w r_415889 (by decide) (by decide)) hx_415881
            · skip
              have n_415890 : ¬ x_415881 = 62 := h_415888
              refine g_aload_n C 2 dX7_readPlainOne_126 rfl rfl ?_
              refine g_iconst C (v := 1) dX7_readPlainOne_127 (by decide) ?_
              refine g_callVI C K (c_X10_fail W9 hLa0 hka0 1 (rg_w rc_1 (by decide) (by decide)) hU) hLa0 hka0 (by decide) rfl v_7_73 rfl ⟨rfl, rfl⟩ ⟨Nat.le_of_ble_eq_true rfl, Nat.le_of_ble_eq_true rfl⟩ (Nat.le_of_ble_eq_true rfl) ⟨Nat.le_of_ble_eq_true rfl, Nat.le_of_ble_eq_true rfl⟩ dX7_readPlainOne_128 rfl (st := []) (fun x_415891 I_415892 J_415893 h_415894 => ?_)
              obtain ⟨hUI_415892, hFI_415892, hGJ_415893, rx_415891⟩ := h_415894
              have hF_415895 := fq_tr hF hFI_415892 (by decide)
              have hG_415896 := fq_tr hG hGJ_415893 (by decide)
              exact g_zret (ty := .boolean) (r := x_415891) B K rfl (nar_z (rg_w rx_415891 (by decide) (by decide))) ⟨hUI_415892, hF_415895, hG_415896, rg_w rx_415891 (by decide) (by decide)⟩ dX7_readPlainOne_131
      · skip
        have r_415897 := lt_l (hi := 22) (nle h_415878) (rg_all a2) rc_23 (by decide)
        refine g_aload_n C 0 dX7_readPlainOne_91 rfl rfl ?_
        refine g_iload_n C 3 dX7_readPlainOne_92 rfl rfl ?_
        refine g_iconst C (v := 0) dX7_readPlainOne_93 (by decide) ?_
        refine g_iconst C (v := 0) dX7_readPlainOne_94 (by decide) ?_
        refine g_callVI C K (c_X7_addStep W9 hLx hkx a2 0 0 (rg_w rc_0 (by decide) (by decide)) hU) hLx hkx (by decide) rfl v_7_63 rfl ⟨rfl, rfl⟩ ⟨Nat.le_of_ble_eq_true rfl, Nat.le_of_ble_eq_true rfl⟩ (Nat.le_of_ble_eq_true rfl) ⟨Nat.le_of_ble_eq_true rfl, Nat.le_of_ble_eq_true rfl⟩ dX7_readPlainOne_95 rfl (st := []) (fun x_415898 I_415899 J_415900 h_415901 => ?_)
        obtain ⟨hUI_415899, hFI_415899, hGJ_415900, rx_415898⟩ := h_415901
        have hF_415902 := fq_tr hF hFI_415899 (by decide)
        have hG_415903 := fq_tr hG hGJ_415900 (by decide)
        exact g_zret (ty := .boolean) (r := x_415898) B K rfl (nar_z (rx_415898)) ⟨hUI_415899, hF_415902, hG_415903, rx_415898⟩ dX7_readPlainOne_98
    · skip
      have r_415904 := (⟨(eq_rg (h_415876) rc_23).1, (eq_rg (h_415876) rc_23).2⟩ : Rg 23 23 a2)
      refine g_aload_n C 1 dX7_readPlainOne_48 rfl rfl ?_
      refine g_aload_n C 2 dX7_readPlainOne_49 rfl rfl ?_
      refine g_aload_n C 1 dX7_readPlainOne_50 rfl rfl ?_
      obtain ⟨y_415905, hy_415905⟩ : ∃ z, J a0 10 = z := ⟨_, rfl⟩
      refine g_getJ C K hLa0 hka0 f_7_79 (v := y_415905) hy_415905 dX7_readPlainOne_51 ?_
      refine g_callVI C K (c_X8_dishNamed W9 hLa1 hka1 y_415905  hU) hLa1 hka1 (by decide) rfl v_7_93 rfl ⟨rfl, rfl⟩ ⟨Nat.le_of_ble_eq_true rfl, Nat.le_of_ble_eq_true rfl⟩ (Nat.le_of_ble_eq_true rfl) ⟨Nat.le_of_ble_eq_true rfl, Nat.le_of_ble_eq_true rfl⟩ dX7_readPlainOne_54 rfl (st := [.ref a0]) (fun x_415906 I_415907 J_415908 h_415909 => ?_)
      obtain ⟨rfl, rfl, rx_415906⟩ := h_415909
      refine g_callVI C K (c_X10_takeName W9 hLa0 hka0 x_415906 (rg_w rx_415906 (by decide) (by decide)) hU) hLa0 hka0 (by decide) rfl v_7_89 rfl ⟨rfl, rfl⟩ ⟨Nat.le_of_ble_eq_true rfl, Nat.le_of_ble_eq_true rfl⟩ (Nat.le_of_ble_eq_true rfl) ⟨Nat.le_of_ble_eq_true rfl, Nat.le_of_ble_eq_true rfl⟩ dX7_readPlainOne_57 rfl (st := []) (fun x_415910 I_415911 J_415912 h_415913 => ?_)
      obtain ⟨hUI_415911, hFI_415911, hGJ_415912, rx_415910⟩ := h_415913
      have hF_415914 := fq_tr hF hFI_415911 (by decide)
      have hG_415915 := fq_tr hG hGJ_415912 (by decide)
      refine g_istore C dX7_readPlainOne_60 (by decide) (lo2 := [(4, .int x_415910), (0, .ref x), (1, .ref a0), (2, .ref a1), (3, .int a2)]) rfl ?_
      refine g_iload C 0 dX7_readPlainOne_62 rfl ?_
      refine g_iconst C (v := (-1)) dX7_readPlainOne_64 (by decide) ?_
      refine g_icmp_eq C (tgt := 83) dX7_readPlainOne_65 (by decide) (fun h_415916 => ?_) (fun h_415916 => ?_)
      · skip
        have r_415917 := (⟨(rx_415910).1, (eq_rg (h_415916) rc_m1).2⟩ : Rg (-1) (-1) x_415910)
        refine g_iconst C (v := 0) dX7_readPlainOne_83 (by decide) ?_
        exact g_zret (ty := .boolean) (r := 0) B K rfl (rfl) ⟨hUI_415911, hF_415914, hG_415915, rg_w rc_0 (by decide) (by decide)⟩ dX7_readPlainOne_84
      · skip
        have n_415918 : ¬ x_415910 = (-1) := h_415916
        have r_415919 := ne_lo (lo := 0) n_415918 rx_415910 rc_m1 rfl (by decide)
        refine g_aload_n C 1 dX7_readPlainOne_68 rfl rfl ?_
        refine g_iload_n C 4 dX7_readPlainOne_69 rfl rfl ?_
        refine g_iconst C (v := 0) dX7_readPlainOne_70 (by decide) ?_
        refine g_iload C 0 dX7_readPlainOne_71 rfl ?_
        refine g_callVI C K (c_X7_addStep W9 hLx hkx a2 0 x_415910 (rg_w rc_0 (by decide) (by decide)) hUI_415911) hLx hkx (by decide) rfl v_7_63 rfl ⟨rfl, rfl⟩ ⟨Nat.le_of_ble_eq_true rfl, Nat.le_of_ble_eq_true rfl⟩ (Nat.le_of_ble_eq_true rfl) ⟨Nat.le_of_ble_eq_true rfl, Nat.le_of_ble_eq_true rfl⟩ dX7_readPlainOne_73 rfl (st := []) (fun x_415920 I_415921 J_415922 h_415923 => ?_)
        obtain ⟨hUI_415921, hFI_415921, hGJ_415922, rx_415920⟩ := h_415923
        have hF_415924 := fq_tr hF_415914 hFI_415921 (by decide)
        have hG_415925 := fq_tr hG_415915 hGJ_415922 (by decide)
        refine g_if_eq C (tgt := 83) dX7_readPlainOne_76 (by decide) (fun h_415926 => ?_) (fun h_415926 => ?_)
        · skip
          have r_415927 := (⟨(rx_415920).1, (eq_rg (h_415926) rc_0).2⟩ : Rg 0 0 x_415920)
          refine g_iconst C (v := 0) dX7_readPlainOne_83 (by decide) ?_
          exact g_zret (ty := .boolean) (r := 0) B K rfl (rfl) ⟨hUI_415921, hF_415924, hG_415925, rg_w rc_0 (by decide) (by decide)⟩ dX7_readPlainOne_84
        · skip
          have n_415928 : ¬ x_415920 = 0 := h_415926
          have r_415929 := ne_lo (lo := 1) n_415928 rx_415920 rc_0 rfl (by decide)
          refine g_iconst C (v := 1) dX7_readPlainOne_79 (by decide) ?_
          refine g_goto C (tgt := 84) dX7_readPlainOne_80 (by decide) ?_
          exact g_zret (ty := .boolean) (r := 1) B K rfl (rfl) ⟨hUI_415921, hF_415924, hG_415925, rg_w rc_1 (by decide) (by decide)⟩ dX7_readPlainOne_84
  · skip
    have r_415930 := (⟨(eq_rg (h_415874) rc_5).1, (eq_rg (h_415874) rc_5).2⟩ : Rg 5 5 a2)
    refine g_aload_n C 1 dX7_readPlainOne_5 rfl rfl ?_
    refine g_aload_n C 2 dX7_readPlainOne_6 rfl rfl ?_
    refine g_aload_n C 1 dX7_readPlainOne_7 rfl rfl ?_
    obtain ⟨y_415931, hy_415931⟩ : ∃ z, J a0 10 = z := ⟨_, rfl⟩
    refine g_getJ C K hLa0 hka0 f_7_79 (v := y_415931) hy_415931 dX7_readPlainOne_8 ?_
    refine g_callVI C K (c_X8_personNamed W9 hLa1 hka1 y_415931  hU) hLa1 hka1 (by decide) rfl v_7_83 rfl ⟨rfl, rfl⟩ ⟨Nat.le_of_ble_eq_true rfl, Nat.le_of_ble_eq_true rfl⟩ (Nat.le_of_ble_eq_true rfl) ⟨Nat.le_of_ble_eq_true rfl, Nat.le_of_ble_eq_true rfl⟩ dX7_readPlainOne_11 rfl (st := [.ref a0]) (fun x_415932 I_415933 J_415934 h_415935 => ?_)
    obtain ⟨rfl, rfl, rx_415932⟩ := h_415935
    refine g_callVI C K (c_X10_takeName W9 hLa0 hka0 x_415932 (rx_415932) hU) hLa0 hka0 (by decide) rfl v_7_89 rfl ⟨rfl, rfl⟩ ⟨Nat.le_of_ble_eq_true rfl, Nat.le_of_ble_eq_true rfl⟩ (Nat.le_of_ble_eq_true rfl) ⟨Nat.le_of_ble_eq_true rfl, Nat.le_of_ble_eq_true rfl⟩ dX7_readPlainOne_14 rfl (st := []) (fun x_415936 I_415937 J_415938 h_415939 => ?_)
    obtain ⟨hUI_415937, hFI_415937, hGJ_415938, rx_415936⟩ := h_415939
    have hF_415940 := fq_tr hF hFI_415937 (by decide)
    have hG_415941 := fq_tr hG hGJ_415938 (by decide)
    refine g_istore C dX7_readPlainOne_17 (by decide) (lo2 := [(4, .int x_415936), (0, .ref x), (1, .ref a0), (2, .ref a1), (3, .int a2)]) rfl ?_
    refine g_iload C 0 dX7_readPlainOne_19 rfl ?_
    refine g_iconst C (v := (-1)) dX7_readPlainOne_21 (by decide) ?_
    refine g_icmp_eq C (tgt := 40) dX7_readPlainOne_22 (by decide) (fun h_415942 => ?_) (fun h_415942 => ?_)
    · skip
      have r_415943 := (⟨(rx_415936).1, (eq_rg (h_415942) rc_m1).2⟩ : Rg (-1) (-1) x_415936)
      refine g_iconst C (v := 0) dX7_readPlainOne_40 (by decide) ?_
      exact g_zret (ty := .boolean) (r := 0) B K rfl (rfl) ⟨hUI_415937, hF_415940, hG_415941, rg_w rc_0 (by decide) (by decide)⟩ dX7_readPlainOne_41
    · skip
      have n_415944 : ¬ x_415936 = (-1) := h_415942
      have r_415945 := ne_lo (lo := 0) n_415944 rx_415936 rc_m1 rfl (by decide)
      refine g_aload_n C 1 dX7_readPlainOne_25 rfl rfl ?_
      refine g_iload_n C 4 dX7_readPlainOne_26 rfl rfl ?_
      refine g_iconst C (v := 0) dX7_readPlainOne_27 (by decide) ?_
      refine g_iload C 0 dX7_readPlainOne_28 rfl ?_
      refine g_callVI C K (c_X7_addStep W9 hLx hkx a2 0 x_415936 (rg_w rc_0 (by decide) (by decide)) hUI_415937) hLx hkx (by decide) rfl v_7_63 rfl ⟨rfl, rfl⟩ ⟨Nat.le_of_ble_eq_true rfl, Nat.le_of_ble_eq_true rfl⟩ (Nat.le_of_ble_eq_true rfl) ⟨Nat.le_of_ble_eq_true rfl, Nat.le_of_ble_eq_true rfl⟩ dX7_readPlainOne_30 rfl (st := []) (fun x_415946 I_415947 J_415948 h_415949 => ?_)
      obtain ⟨hUI_415947, hFI_415947, hGJ_415948, rx_415946⟩ := h_415949
      have hF_415950 := fq_tr hF_415940 hFI_415947 (by decide)
      have hG_415951 := fq_tr hG_415941 hGJ_415948 (by decide)
      refine g_if_eq C (tgt := 40) dX7_readPlainOne_33 (by decide) (fun h_415952 => ?_) (fun h_415952 => ?_)
      · skip
        have r_415953 := (⟨(rx_415946).1, (eq_rg (h_415952) rc_0).2⟩ : Rg 0 0 x_415946)
        refine g_iconst C (v := 0) dX7_readPlainOne_40 (by decide) ?_
        exact g_zret (ty := .boolean) (r := 0) B K rfl (rfl) ⟨hUI_415947, hF_415950, hG_415951, rg_w rc_0 (by decide) (by decide)⟩ dX7_readPlainOne_41
      · skip
        have n_415954 : ¬ x_415946 = 0 := h_415952
        have r_415955 := ne_lo (lo := 1) n_415954 rx_415946 rc_0 rfl (by decide)
        refine g_iconst C (v := 1) dX7_readPlainOne_36 (by decide) ?_
        refine g_goto C (tgt := 41) dX7_readPlainOne_37 (by decide) ?_
        exact g_zret (ty := .boolean) (r := 1) B K rfl (rfl) ⟨hUI_415947, hF_415950, hG_415951, rg_w rc_1 (by decide) (by decide)⟩ dX7_readPlainOne_41
