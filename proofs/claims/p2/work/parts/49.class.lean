theorem dJ6_bitCount_0f7a4_0 : decode cJ6_bitCount_0f7a4 0 = .ok (.iload_n 0, 1) := by decide +kernel
theorem dJ6_bitCount_0f7a4_1 : decode cJ6_bitCount_0f7a4 1 = .ok (.iload_n 0, 1) := by decide +kernel
theorem dJ6_bitCount_0f7a4_2 : decode cJ6_bitCount_0f7a4 2 = .ok (.iconst 1, 1) := by decide +kernel
theorem dJ6_bitCount_0f7a4_3 : decode cJ6_bitCount_0f7a4 3 = .ok (.iushr, 1) := by decide +kernel
theorem dJ6_bitCount_0f7a4_4 : decode cJ6_bitCount_0f7a4 4 = .ok (.ldc_w 265, 3) := by decide +kernel
theorem dJ6_bitCount_0f7a4_7 : decode cJ6_bitCount_0f7a4 7 = .ok (.iand, 1) := by decide +kernel
theorem dJ6_bitCount_0f7a4_8 : decode cJ6_bitCount_0f7a4 8 = .ok (.isub, 1) := by decide +kernel
theorem dJ6_bitCount_0f7a4_9 : decode cJ6_bitCount_0f7a4 9 = .ok (.istore_n 0, 1) := by decide +kernel
theorem dJ6_bitCount_0f7a4_10 : decode cJ6_bitCount_0f7a4 10 = .ok (.iload_n 0, 1) := by decide +kernel
theorem dJ6_bitCount_0f7a4_11 : decode cJ6_bitCount_0f7a4 11 = .ok (.ldc_w 266, 3) := by decide +kernel
theorem dJ6_bitCount_0f7a4_14 : decode cJ6_bitCount_0f7a4 14 = .ok (.iand, 1) := by decide +kernel
theorem dJ6_bitCount_0f7a4_15 : decode cJ6_bitCount_0f7a4 15 = .ok (.iload_n 0, 1) := by decide +kernel
theorem dJ6_bitCount_0f7a4_16 : decode cJ6_bitCount_0f7a4 16 = .ok (.iconst 2, 1) := by decide +kernel
theorem dJ6_bitCount_0f7a4_17 : decode cJ6_bitCount_0f7a4 17 = .ok (.iushr, 1) := by decide +kernel
theorem dJ6_bitCount_0f7a4_18 : decode cJ6_bitCount_0f7a4 18 = .ok (.ldc_w 266, 3) := by decide +kernel
theorem dJ6_bitCount_0f7a4_21 : decode cJ6_bitCount_0f7a4 21 = .ok (.iand, 1) := by decide +kernel
theorem dJ6_bitCount_0f7a4_22 : decode cJ6_bitCount_0f7a4 22 = .ok (.iadd, 1) := by decide +kernel
theorem dJ6_bitCount_0f7a4_23 : decode cJ6_bitCount_0f7a4 23 = .ok (.istore_n 0, 1) := by decide +kernel
theorem dJ6_bitCount_0f7a4_24 : decode cJ6_bitCount_0f7a4 24 = .ok (.iload_n 0, 1) := by decide +kernel
theorem dJ6_bitCount_0f7a4_25 : decode cJ6_bitCount_0f7a4 25 = .ok (.iload_n 0, 1) := by decide +kernel
theorem dJ6_bitCount_0f7a4_26 : decode cJ6_bitCount_0f7a4 26 = .ok (.iconst 4, 1) := by decide +kernel
theorem dJ6_bitCount_0f7a4_27 : decode cJ6_bitCount_0f7a4 27 = .ok (.iushr, 1) := by decide +kernel
theorem dJ6_bitCount_0f7a4_28 : decode cJ6_bitCount_0f7a4 28 = .ok (.iadd, 1) := by decide +kernel
theorem dJ6_bitCount_0f7a4_29 : decode cJ6_bitCount_0f7a4 29 = .ok (.ldc_w 267, 3) := by decide +kernel
theorem dJ6_bitCount_0f7a4_32 : decode cJ6_bitCount_0f7a4 32 = .ok (.iand, 1) := by decide +kernel
theorem dJ6_bitCount_0f7a4_33 : decode cJ6_bitCount_0f7a4 33 = .ok (.istore_n 0, 1) := by decide +kernel
theorem dJ6_bitCount_0f7a4_34 : decode cJ6_bitCount_0f7a4 34 = .ok (.iload_n 0, 1) := by decide +kernel
theorem dJ6_bitCount_0f7a4_35 : decode cJ6_bitCount_0f7a4 35 = .ok (.iload_n 0, 1) := by decide +kernel
theorem dJ6_bitCount_0f7a4_36 : decode cJ6_bitCount_0f7a4 36 = .ok (.bipush 8, 2) := by decide +kernel
theorem dJ6_bitCount_0f7a4_38 : decode cJ6_bitCount_0f7a4 38 = .ok (.iushr, 1) := by decide +kernel
theorem dJ6_bitCount_0f7a4_39 : decode cJ6_bitCount_0f7a4 39 = .ok (.iadd, 1) := by decide +kernel
theorem dJ6_bitCount_0f7a4_40 : decode cJ6_bitCount_0f7a4 40 = .ok (.istore_n 0, 1) := by decide +kernel
theorem dJ6_bitCount_0f7a4_41 : decode cJ6_bitCount_0f7a4 41 = .ok (.iload_n 0, 1) := by decide +kernel
theorem dJ6_bitCount_0f7a4_42 : decode cJ6_bitCount_0f7a4 42 = .ok (.iload_n 0, 1) := by decide +kernel
theorem dJ6_bitCount_0f7a4_43 : decode cJ6_bitCount_0f7a4 43 = .ok (.bipush 16, 2) := by decide +kernel
theorem dJ6_bitCount_0f7a4_45 : decode cJ6_bitCount_0f7a4 45 = .ok (.iushr, 1) := by decide +kernel
theorem dJ6_bitCount_0f7a4_46 : decode cJ6_bitCount_0f7a4 46 = .ok (.iadd, 1) := by decide +kernel
theorem dJ6_bitCount_0f7a4_47 : decode cJ6_bitCount_0f7a4 47 = .ok (.istore_n 0, 1) := by decide +kernel
theorem dJ6_bitCount_0f7a4_48 : decode cJ6_bitCount_0f7a4 48 = .ok (.iload_n 0, 1) := by decide +kernel
theorem dJ6_bitCount_0f7a4_49 : decode cJ6_bitCount_0f7a4 49 = .ok (.bipush 63, 2) := by decide +kernel
theorem dJ6_bitCount_0f7a4_51 : decode cJ6_bitCount_0f7a4 51 = .ok (.iand, 1) := by decide +kernel
theorem dJ6_bitCount_0f7a4_52 : decode cJ6_bitCount_0f7a4 52 = .ok (.ireturn, 1) := by decide +kernel
theorem dX11_heir_0 : decode cX11_heir 0 = .ok (.aload_n 0, 1) := by decide +kernel
theorem dX11_heir_1 : decode cX11_heir 1 = .ok (.getfield 19, 3) := by decide +kernel
theorem dX11_heir_4 : decode cX11_heir 4 = .ok (.iload_n 1, 1) := by decide +kernel
theorem dX11_heir_5 : decode cX11_heir 5 = .ok (.invokevirtual 133, 3) := by decide +kernel
theorem dX11_heir_8 : decode cX11_heir 8 = .ok (.ifCond .eq 21, 3) := by decide +kernel
theorem dX11_heir_11 : decode cX11_heir 11 = .ok (.aload_n 0, 1) := by decide +kernel
theorem dX11_heir_12 : decode cX11_heir 12 = .ok (.getfield 28, 3) := by decide +kernel
theorem dX11_heir_15 : decode cX11_heir 15 = .ok (.iload_n 1, 1) := by decide +kernel
theorem dX11_heir_16 : decode cX11_heir 16 = .ok (.aload_n 0, 1) := by decide +kernel
theorem dX11_heir_17 : decode cX11_heir 17 = .ok (.getfield 28, 3) := by decide +kernel
theorem dX11_heir_20 : decode cX11_heir 20 = .ok (.getfield 154, 3) := by decide +kernel
theorem dX11_heir_23 : decode cX11_heir 23 = .ok (.invokevirtual 263, 3) := by decide +kernel
theorem dX11_heir_26 : decode cX11_heir 26 = .ok (.goto 4, 3) := by decide +kernel
theorem dX11_heir_29 : decode cX11_heir 29 = .ok (.iconst (-1), 1) := by decide +kernel
theorem dX11_heir_30 : decode cX11_heir 30 = .ok (.ireturn, 1) := by decide +kernel
theorem dX11_line_0 : decode cX11_line 0 = .ok (.aload_n 0, 1) := by decide +kernel
theorem dX11_line_1 : decode cX11_line 1 = .ok (.getfield 19, 3) := by decide +kernel
theorem dX11_line_4 : decode cX11_line 4 = .ok (.iload_n 1, 1) := by decide +kernel
theorem dX11_line_5 : decode cX11_line 5 = .ok (.invokevirtual 133, 3) := by decide +kernel
theorem dX11_line_8 : decode cX11_line 8 = .ok (.ifCond .eq 13, 3) := by decide +kernel
theorem dX11_line_11 : decode cX11_line 11 = .ok (.iload_n 2, 1) := by decide +kernel
theorem dX11_line_12 : decode cX11_line 12 = .ok (.ifCond .lt 9, 3) := by decide +kernel
theorem dX11_line_15 : decode cX11_line 15 = .ok (.iload_n 2, 1) := by decide +kernel
theorem dX11_line_16 : decode cX11_line 16 = .ok (.bipush 7, 2) := by decide +kernel
theorem dX11_line_18 : decode cX11_line 18 = .ok (.if_icmp .lt 5, 3) := by decide +kernel
theorem dX11_line_21 : decode cX11_line 21 = .ok (.iconst (-1), 1) := by decide +kernel
theorem dX11_line_22 : decode cX11_line 22 = .ok (.ireturn, 1) := by decide +kernel
theorem dX11_line_23 : decode cX11_line 23 = .ok (.aload_n 0, 1) := by decide +kernel
theorem dX11_line_24 : decode cX11_line 24 = .ok (.getfield 28, 3) := by decide +kernel
theorem dX11_line_27 : decode cX11_line 27 = .ok (.getfield 154, 3) := by decide +kernel
theorem dX11_line_30 : decode cX11_line 30 = .ok (.istore_n 3, 1) := by decide +kernel
theorem dX11_line_31 : decode cX11_line 31 = .ok (.aload_n 0, 1) := by decide +kernel
theorem dX11_line_32 : decode cX11_line 32 = .ok (.getfield 28, 3) := by decide +kernel
theorem dX11_line_35 : decode cX11_line 35 = .ok (.iload_n 1, 1) := by decide +kernel
theorem dX11_line_36 : decode cX11_line 36 = .ok (.iload_n 3, 1) := by decide +kernel
theorem dX11_line_37 : decode cX11_line 37 = .ok (.invokevirtual 263, 3) := by decide +kernel
theorem dX11_line_40 : decode cX11_line 40 = .ok (.istore 4, 2) := by decide +kernel
theorem dX11_line_42 : decode cX11_line 42 = .ok (.iconst 0, 1) := by decide +kernel
theorem dX11_line_43 : decode cX11_line 43 = .ok (.istore 5, 2) := by decide +kernel
theorem dX11_line_45 : decode cX11_line 45 = .ok (.iload 5, 2) := by decide +kernel
theorem dX11_line_47 : decode cX11_line 47 = .ok (.iload_n 2, 1) := by decide +kernel
theorem dX11_line_48 : decode cX11_line 48 = .ok (.if_icmp .ge 33, 3) := by decide +kernel
theorem dX11_line_51 : decode cX11_line 51 = .ok (.iload 4, 2) := by decide +kernel
theorem dX11_line_53 : decode cX11_line 53 = .ok (.iconst (-1), 1) := by decide +kernel
theorem dX11_line_54 : decode cX11_line 54 = .ok (.if_icmp .eq 27, 3) := by decide +kernel
theorem dX11_line_57 : decode cX11_line 57 = .ok (.iload_n 3, 1) := by decide +kernel
theorem dX11_line_58 : decode cX11_line 58 = .ok (.iconst 1, 1) := by decide +kernel
theorem dX11_line_59 : decode cX11_line 59 = .ok (.iload 4, 2) := by decide +kernel
theorem dX11_line_61 : decode cX11_line 61 = .ok (.ishl, 1) := by decide +kernel
theorem dX11_line_62 : decode cX11_line 62 = .ok (.ior, 1) := by decide +kernel
theorem dX11_line_63 : decode cX11_line 63 = .ok (.istore_n 3, 1) := by decide +kernel
theorem dX11_line_64 : decode cX11_line 64 = .ok (.aload_n 0, 1) := by decide +kernel
theorem dX11_line_65 : decode cX11_line 65 = .ok (.getfield 28, 3) := by decide +kernel
theorem dX11_line_68 : decode cX11_line 68 = .ok (.iload_n 1, 1) := by decide +kernel
theorem dX11_line_69 : decode cX11_line 69 = .ok (.iload_n 3, 1) := by decide +kernel
theorem dX11_line_70 : decode cX11_line 70 = .ok (.invokevirtual 263, 3) := by decide +kernel
theorem dX11_line_73 : decode cX11_line 73 = .ok (.istore 4, 2) := by decide +kernel
theorem dX11_line_75 : decode cX11_line 75 = .ok (.iinc 5 1, 3) := by decide +kernel
theorem dX11_line_78 : decode cX11_line 78 = .ok (.goto (-33), 3) := by decide +kernel
theorem dX11_line_81 : decode cX11_line 81 = .ok (.iload 4, 2) := by decide +kernel
theorem dX11_line_83 : decode cX11_line 83 = .ok (.ireturn, 1) := by decide +kernel
theorem dX11_meals_0 : decode cX11_meals 0 = .ok (.iload_n 1, 1) := by decide +kernel
theorem dX11_meals_1 : decode cX11_meals 1 = .ok (.iconst 1, 1) := by decide +kernel
theorem dX11_meals_2 : decode cX11_meals 2 = .ok (.if_icmp .lt 9, 3) := by decide +kernel
theorem dX11_meals_5 : decode cX11_meals 5 = .ok (.iload_n 1, 1) := by decide +kernel
theorem dX11_meals_6 : decode cX11_meals 6 = .ok (.bipush 60, 2) := by decide +kernel
theorem dX11_meals_8 : decode cX11_meals 8 = .ok (.if_icmp .le 5, 3) := by decide +kernel
theorem dX11_meals_11 : decode cX11_meals 11 = .ok (.iconst (-1), 1) := by decide +kernel
theorem dX11_meals_12 : decode cX11_meals 12 = .ok (.ireturn, 1) := by decide +kernel
theorem dX11_meals_13 : decode cX11_meals 13 = .ok (.aload_n 0, 1) := by decide +kernel
theorem dX11_meals_14 : decode cX11_meals 14 = .ok (.getfield 38, 3) := by decide +kernel
theorem dX11_meals_17 : decode cX11_meals 17 = .ok (.aload_n 0, 1) := by decide +kernel
theorem dX11_meals_18 : decode cX11_meals 18 = .ok (.getfield 28, 3) := by decide +kernel
theorem dX11_meals_21 : decode cX11_meals 21 = .ok (.invokevirtual 225, 3) := by decide +kernel
theorem dX11_meals_24 : decode cX11_meals 24 = .ok (.aload_n 0, 1) := by decide +kernel
theorem dX11_meals_25 : decode cX11_meals 25 = .ok (.aload_n 0, 1) := by decide +kernel
theorem dX11_meals_26 : decode cX11_meals 26 = .ok (.getfield 28, 3) := by decide +kernel
theorem dX11_meals_29 : decode cX11_meals 29 = .ok (.iload_n 1, 1) := by decide +kernel
theorem dX11_meals_30 : decode cX11_meals 30 = .ok (.invokevirtual 250, 3) := by decide +kernel
theorem dX11_meals_33 : decode cX11_meals 33 = .ok (.invokevirtual 253, 3) := by decide +kernel
theorem dX11_meals_36 : decode cX11_meals 36 = .ok (.ireturn, 1) := by decide +kernel
theorem dX11_undo_0 : decode cX11_undo 0 = .ok (.aload_n 0, 1) := by decide +kernel
theorem dX11_undo_1 : decode cX11_undo 1 = .ok (.getfield 38, 3) := by decide +kernel
theorem dX11_undo_4 : decode cX11_undo 4 = .ok (.aload_n 0, 1) := by decide +kernel
theorem dX11_undo_5 : decode cX11_undo 5 = .ok (.getfield 28, 3) := by decide +kernel
theorem dX11_undo_8 : decode cX11_undo 8 = .ok (.invokevirtual 256, 3) := by decide +kernel
theorem dX11_undo_11 : decode cX11_undo 11 = .ok (.ireturn, 1) := by decide +kernel
theorem dX1_eatAll_0 : decode cX1_eatAll 0 = .ok (.iconst 0, 1) := by decide +kernel
theorem dX1_eatAll_1 : decode cX1_eatAll 1 = .ok (.istore_n 2, 1) := by decide +kernel
theorem dX1_eatAll_2 : decode cX1_eatAll 2 = .ok (.iload_n 2, 1) := by decide +kernel
theorem dX1_eatAll_3 : decode cX1_eatAll 3 = .ok (.aload_n 0, 1) := by decide +kernel
theorem dX1_eatAll_4 : decode cX1_eatAll 4 = .ok (.getfield 52, 3) := by decide +kernel
theorem dX1_eatAll_7 : decode cX1_eatAll 7 = .ok (.getfield 97, 3) := by decide +kernel
theorem dX1_eatAll_10 : decode cX1_eatAll 10 = .ok (.if_icmp .ge 29, 3) := by decide +kernel
theorem dX1_eatAll_13 : decode cX1_eatAll 13 = .ok (.aload_n 0, 1) := by decide +kernel
theorem dX1_eatAll_14 : decode cX1_eatAll 14 = .ok (.iload_n 1, 1) := by decide +kernel
theorem dX1_eatAll_15 : decode cX1_eatAll 15 = .ok (.iload_n 2, 1) := by decide +kernel
theorem dX1_eatAll_16 : decode cX1_eatAll 16 = .ok (.aload_n 0, 1) := by decide +kernel
theorem dX1_eatAll_17 : decode cX1_eatAll 17 = .ok (.iload_n 1, 1) := by decide +kernel
theorem dX1_eatAll_18 : decode cX1_eatAll 18 = .ok (.iload_n 2, 1) := by decide +kernel
theorem dX1_eatAll_19 : decode cX1_eatAll 19 = .ok (.invokevirtual 71, 3) := by decide +kernel
theorem dX1_eatAll_22 : decode cX1_eatAll 22 = .ok (.aload_n 0, 1) := by decide +kernel
theorem dX1_eatAll_23 : decode cX1_eatAll 23 = .ok (.iload_n 1, 1) := by decide +kernel
theorem dX1_eatAll_24 : decode cX1_eatAll 24 = .ok (.invokevirtual 109, 3) := by decide +kernel
theorem dX1_eatAll_27 : decode cX1_eatAll 27 = .ok (.invokestatic 100, 3) := by decide +kernel
theorem dX1_eatAll_30 : decode cX1_eatAll 30 = .ok (.invokevirtual 112, 3) := by decide +kernel
theorem dX1_eatAll_33 : decode cX1_eatAll 33 = .ok (.iinc 2 1, 3) := by decide +kernel
theorem dX1_eatAll_36 : decode cX1_eatAll 36 = .ok (.goto (-34), 3) := by decide +kernel
theorem dX1_eatAll_39 : decode cX1_eatAll 39 = .ok (.return_, 1) := by decide +kernel
theorem dX1_endMeal_0 : decode cX1_endMeal 0 = .ok (.iconst 0, 1) := by decide +kernel
theorem dX1_endMeal_1 : decode cX1_endMeal 1 = .ok (.istore_n 1, 1) := by decide +kernel
theorem dX1_endMeal_2 : decode cX1_endMeal 2 = .ok (.iload_n 1, 1) := by decide +kernel
theorem dX1_endMeal_3 : decode cX1_endMeal 3 = .ok (.aload_n 0, 1) := by decide +kernel
theorem dX1_endMeal_4 : decode cX1_endMeal 4 = .ok (.getfield 52, 3) := by decide +kernel
theorem dX1_endMeal_7 : decode cX1_endMeal 7 = .ok (.getfield 68, 3) := by decide +kernel
theorem dX1_endMeal_10 : decode cX1_endMeal 10 = .ok (.if_icmp .ge 94, 3) := by decide +kernel
theorem dX1_endMeal_13 : decode cX1_endMeal 13 = .ok (.aload_n 0, 1) := by decide +kernel
theorem dX1_endMeal_14 : decode cX1_endMeal 14 = .ok (.iload_n 1, 1) := by decide +kernel
theorem dX1_endMeal_15 : decode cX1_endMeal 15 = .ok (.invokevirtual 115, 3) := by decide +kernel
theorem dX1_endMeal_18 : decode cX1_endMeal 18 = .ok (.ifCond .eq 17, 3) := by decide +kernel
theorem dX1_endMeal_21 : decode cX1_endMeal 21 = .ok (.aload_n 0, 1) := by decide +kernel
theorem dX1_endMeal_22 : decode cX1_endMeal 22 = .ok (.getfield 27, 3) := by decide +kernel
theorem dX1_endMeal_25 : decode cX1_endMeal 25 = .ok (.iload_n 1, 1) := by decide +kernel
theorem dX1_endMeal_26 : decode cX1_endMeal 26 = .ok (.dup2, 1) := by decide +kernel
theorem dX1_endMeal_27 : decode cX1_endMeal 27 = .ok (.iaload, 1) := by decide +kernel
theorem dX1_endMeal_28 : decode cX1_endMeal 28 = .ok (.aload_n 0, 1) := by decide +kernel
theorem dX1_endMeal_29 : decode cX1_endMeal 29 = .ok (.iload_n 1, 1) := by decide +kernel
theorem dX1_endMeal_30 : decode cX1_endMeal 30 = .ok (.invokevirtual 109, 3) := by decide +kernel
theorem dX1_endMeal_33 : decode cX1_endMeal 33 = .ok (.iadd, 1) := by decide +kernel
theorem dX1_endMeal_34 : decode cX1_endMeal 34 = .ok (.iastore, 1) := by decide +kernel
theorem dX1_endMeal_35 : decode cX1_endMeal 35 = .ok (.aload_n 0, 1) := by decide +kernel
theorem dX1_endMeal_36 : decode cX1_endMeal 36 = .ok (.getfield 24, 3) := by decide +kernel
theorem dX1_endMeal_39 : decode cX1_endMeal 39 = .ok (.iload_n 1, 1) := by decide +kernel
theorem dX1_endMeal_40 : decode cX1_endMeal 40 = .ok (.iconst 0, 1) := by decide +kernel
theorem dX1_endMeal_41 : decode cX1_endMeal 41 = .ok (.iastore, 1) := by decide +kernel
theorem dX1_endMeal_42 : decode cX1_endMeal 42 = .ok (.iconst 0, 1) := by decide +kernel
theorem dX1_endMeal_43 : decode cX1_endMeal 43 = .ok (.istore_n 2, 1) := by decide +kernel
theorem dX1_endMeal_44 : decode cX1_endMeal 44 = .ok (.iload_n 2, 1) := by decide +kernel
theorem dX1_endMeal_45 : decode cX1_endMeal 45 = .ok (.aload_n 0, 1) := by decide +kernel
theorem dX1_endMeal_46 : decode cX1_endMeal 46 = .ok (.getfield 52, 3) := by decide +kernel
theorem dX1_endMeal_49 : decode cX1_endMeal 49 = .ok (.getfield 97, 3) := by decide +kernel
theorem dX1_endMeal_52 : decode cX1_endMeal 52 = .ok (.if_icmp .ge 46, 3) := by decide +kernel
theorem dX1_endMeal_55 : decode cX1_endMeal 55 = .ok (.aload_n 0, 1) := by decide +kernel
theorem dX1_endMeal_56 : decode cX1_endMeal 56 = .ok (.iload_n 1, 1) := by decide +kernel
theorem dX1_endMeal_57 : decode cX1_endMeal 57 = .ok (.iload_n 2, 1) := by decide +kernel
theorem dX1_endMeal_58 : decode cX1_endMeal 58 = .ok (.invokevirtual 71, 3) := by decide +kernel
theorem dX1_endMeal_61 : decode cX1_endMeal 61 = .ok (.aload_n 0, 1) := by decide +kernel
theorem dX1_endMeal_62 : decode cX1_endMeal 62 = .ok (.getfield 52, 3) := by decide +kernel
theorem dX1_endMeal_65 : decode cX1_endMeal 65 = .ok (.getfield 123, 3) := by decide +kernel
theorem dX1_endMeal_68 : decode cX1_endMeal 68 = .ok (.iload_n 2, 1) := by decide +kernel
theorem dX1_endMeal_69 : decode cX1_endMeal 69 = .ok (.iaload, 1) := by decide +kernel
theorem dX1_endMeal_70 : decode cX1_endMeal 70 = .ok (.invokestatic 100, 3) := by decide +kernel
theorem dX1_endMeal_73 : decode cX1_endMeal 73 = .ok (.istore_n 3, 1) := by decide +kernel
theorem dX1_endMeal_74 : decode cX1_endMeal 74 = .ok (.aload_n 0, 1) := by decide +kernel
theorem dX1_endMeal_75 : decode cX1_endMeal 75 = .ok (.iload_n 1, 1) := by decide +kernel
theorem dX1_endMeal_76 : decode cX1_endMeal 76 = .ok (.iload_n 2, 1) := by decide +kernel
theorem dX1_endMeal_77 : decode cX1_endMeal 77 = .ok (.iload_n 3, 1) := by decide +kernel
theorem dX1_endMeal_78 : decode cX1_endMeal 78 = .ok (.ineg, 1) := by decide +kernel
theorem dX1_endMeal_79 : decode cX1_endMeal 79 = .ok (.invokevirtual 105, 3) := by decide +kernel
theorem dX1_endMeal_82 : decode cX1_endMeal 82 = .ok (.aload_n 0, 1) := by decide +kernel
theorem dX1_endMeal_83 : decode cX1_endMeal 83 = .ok (.dup, 1) := by decide +kernel
theorem dX1_endMeal_84 : decode cX1_endMeal 84 = .ok (.getfield 43, 3) := by decide +kernel
theorem dX1_endMeal_87 : decode cX1_endMeal 87 = .ok (.iload_n 3, 1) := by decide +kernel
theorem dX1_endMeal_88 : decode cX1_endMeal 88 = .ok (.iadd, 1) := by decide +kernel
theorem dX1_endMeal_89 : decode cX1_endMeal 89 = .ok (.putfield 43, 3) := by decide +kernel
theorem dX1_endMeal_92 : decode cX1_endMeal 92 = .ok (.iinc 2 1, 3) := by decide +kernel
theorem dX1_endMeal_95 : decode cX1_endMeal 95 = .ok (.goto (-51), 3) := by decide +kernel
theorem dX1_endMeal_98 : decode cX1_endMeal 98 = .ok (.iinc 1 1, 3) := by decide +kernel
theorem dX1_endMeal_101 : decode cX1_endMeal 101 = .ok (.goto (-99), 3) := by decide +kernel
theorem dX1_endMeal_104 : decode cX1_endMeal 104 = .ok (.aload_n 0, 1) := by decide +kernel
theorem dX1_endMeal_105 : decode cX1_endMeal 105 = .ok (.dup, 1) := by decide +kernel
theorem dX1_endMeal_106 : decode cX1_endMeal 106 = .ok (.getfield 37, 3) := by decide +kernel
theorem dX1_endMeal_109 : decode cX1_endMeal 109 = .ok (.iconst 1, 1) := by decide +kernel
theorem dX1_endMeal_110 : decode cX1_endMeal 110 = .ok (.iadd, 1) := by decide +kernel
theorem dX1_endMeal_111 : decode cX1_endMeal 111 = .ok (.putfield 37, 3) := by decide +kernel
theorem dX1_endMeal_114 : decode cX1_endMeal 114 = .ok (.return_, 1) := by decide +kernel
theorem dX1_letMealsGo_0 : decode cX1_letMealsGo 0 = .ok (.iconst 0, 1) := by decide +kernel
theorem dX1_letMealsGo_1 : decode cX1_letMealsGo 1 = .ok (.istore_n 2, 1) := by decide +kernel
theorem dX1_letMealsGo_2 : decode cX1_letMealsGo 2 = .ok (.iload_n 2, 1) := by decide +kernel
theorem dX1_letMealsGo_3 : decode cX1_letMealsGo 3 = .ok (.iload_n 1, 1) := by decide +kernel
theorem dX1_letMealsGo_4 : decode cX1_letMealsGo 4 = .ok (.if_icmp .ge 23, 3) := by decide +kernel
theorem dX1_letMealsGo_7 : decode cX1_letMealsGo 7 = .ok (.aload_n 0, 1) := by decide +kernel
theorem dX1_letMealsGo_8 : decode cX1_letMealsGo 8 = .ok (.getfield 37, 3) := by decide +kernel
theorem dX1_letMealsGo_11 : decode cX1_letMealsGo 11 = .ok (.sipush 200, 3) := by decide +kernel
theorem dX1_letMealsGo_14 : decode cX1_letMealsGo 14 = .ok (.if_icmp .ge 13, 3) := by decide +kernel
theorem dX1_letMealsGo_17 : decode cX1_letMealsGo 17 = .ok (.aload_n 0, 1) := by decide +kernel
theorem dX1_letMealsGo_18 : decode cX1_letMealsGo 18 = .ok (.invokevirtual 126, 3) := by decide +kernel
theorem dX1_letMealsGo_21 : decode cX1_letMealsGo 21 = .ok (.iinc 2 1, 3) := by decide +kernel
theorem dX1_letMealsGo_24 : decode cX1_letMealsGo 24 = .ok (.goto (-22), 3) := by decide +kernel
theorem dX1_letMealsGo_27 : decode cX1_letMealsGo 27 = .ok (.iload_n 2, 1) := by decide +kernel
theorem dX1_letMealsGo_28 : decode cX1_letMealsGo 28 = .ok (.ireturn, 1) := by decide +kernel
theorem dX1_living_0 : decode cX1_living 0 = .ok (.aload_n 0, 1) := by decide +kernel
theorem dX1_living_1 : decode cX1_living 1 = .ok (.getfield 52, 3) := by decide +kernel
theorem dX1_living_4 : decode cX1_living 4 = .ok (.invokevirtual 62, 3) := by decide +kernel
theorem dX1_living_7 : decode cX1_living 7 = .ok (.aload_n 0, 1) := by decide +kernel
theorem dX1_living_8 : decode cX1_living 8 = .ok (.getfield 30, 3) := by decide +kernel
theorem dX1_living_11 : decode cX1_living 11 = .ok (.iconst (-1), 1) := by decide +kernel
theorem dX1_living_12 : decode cX1_living 12 = .ok (.ixor, 1) := by decide +kernel
theorem dX1_living_13 : decode cX1_living 13 = .ok (.iand, 1) := by decide +kernel
theorem dX1_living_14 : decode cX1_living 14 = .ok (.ireturn, 1) := by decide +kernel
theorem dX4_atLeastWanted_0 : decode cX4_atLeastWanted 0 = .ok (.iconst 0, 1) := by decide +kernel
theorem dX4_atLeastWanted_1 : decode cX4_atLeastWanted 1 = .ok (.istore_n 2, 1) := by decide +kernel
theorem dX4_atLeastWanted_2 : decode cX4_atLeastWanted 2 = .ok (.iconst 0, 1) := by decide +kernel
theorem dX4_atLeastWanted_3 : decode cX4_atLeastWanted 3 = .ok (.istore_n 3, 1) := by decide +kernel
theorem dX4_atLeastWanted_4 : decode cX4_atLeastWanted 4 = .ok (.iload_n 3, 1) := by decide +kernel
theorem dX4_atLeastWanted_5 : decode cX4_atLeastWanted 5 = .ok (.aload_n 0, 1) := by decide +kernel
theorem dX4_atLeastWanted_6 : decode cX4_atLeastWanted 6 = .ok (.getfield 72, 3) := by decide +kernel
theorem dX4_atLeastWanted_9 : decode cX4_atLeastWanted 9 = .ok (.getfield 76, 3) := by decide +kernel
theorem dX4_atLeastWanted_12 : decode cX4_atLeastWanted 12 = .ok (.if_icmp .ge 32, 3) := by decide +kernel
theorem dX4_atLeastWanted_15 : decode cX4_atLeastWanted 15 = .ok (.iload_n 1, 1) := by decide +kernel
theorem dX4_atLeastWanted_16 : decode cX4_atLeastWanted 16 = .ok (.iload_n 3, 1) := by decide +kernel
theorem dX4_atLeastWanted_17 : decode cX4_atLeastWanted 17 = .ok (.ishr, 1) := by decide +kernel
theorem dX4_atLeastWanted_18 : decode cX4_atLeastWanted 18 = .ok (.iconst 1, 1) := by decide +kernel
theorem dX4_atLeastWanted_19 : decode cX4_atLeastWanted 19 = .ok (.iand, 1) := by decide +kernel
theorem dX4_atLeastWanted_20 : decode cX4_atLeastWanted 20 = .ok (.ifCond .eq 18, 3) := by decide +kernel
theorem dX4_atLeastWanted_23 : decode cX4_atLeastWanted 23 = .ok (.iload_n 2, 1) := by decide +kernel
theorem dX4_atLeastWanted_24 : decode cX4_atLeastWanted 24 = .ok (.aload_n 0, 1) := by decide +kernel
theorem dX4_atLeastWanted_25 : decode cX4_atLeastWanted 25 = .ok (.iload_n 3, 1) := by decide +kernel
theorem dX4_atLeastWanted_26 : decode cX4_atLeastWanted 26 = .ok (.invokevirtual 65, 3) := by decide +kernel
theorem dX4_atLeastWanted_29 : decode cX4_atLeastWanted 29 = .ok (.aload_n 0, 1) := by decide +kernel
theorem dX4_atLeastWanted_30 : decode cX4_atLeastWanted 30 = .ok (.getfield 81, 3) := by decide +kernel
theorem dX4_atLeastWanted_33 : decode cX4_atLeastWanted 33 = .ok (.iload_n 3, 1) := by decide +kernel
theorem dX4_atLeastWanted_34 : decode cX4_atLeastWanted 34 = .ok (.iaload, 1) := by decide +kernel
theorem dX4_atLeastWanted_35 : decode cX4_atLeastWanted 35 = .ok (.isub, 1) := by decide +kernel
theorem dX4_atLeastWanted_36 : decode cX4_atLeastWanted 36 = .ok (.iadd, 1) := by decide +kernel
theorem dX4_atLeastWanted_37 : decode cX4_atLeastWanted 37 = .ok (.istore_n 2, 1) := by decide +kernel
theorem dX4_atLeastWanted_38 : decode cX4_atLeastWanted 38 = .ok (.iinc 3 1, 3) := by decide +kernel
theorem dX4_atLeastWanted_41 : decode cX4_atLeastWanted 41 = .ok (.goto (-37), 3) := by decide +kernel
theorem dX4_atLeastWanted_44 : decode cX4_atLeastWanted 44 = .ok (.iload_n 2, 1) := by decide +kernel
theorem dX4_atLeastWanted_45 : decode cX4_atLeastWanted 45 = .ok (.iconst 0, 1) := by decide +kernel
theorem dX4_atLeastWanted_46 : decode cX4_atLeastWanted 46 = .ok (.invokestatic 84, 3) := by decide +kernel
theorem dX4_atLeastWanted_49 : decode cX4_atLeastWanted 49 = .ok (.ireturn, 1) := by decide +kernel
theorem dX4_goOn_0 : decode cX4_goOn 0 = .ok (.iload_n 2, 1) := by decide +kernel
theorem dX4_goOn_1 : decode cX4_goOn 1 = .ok (.ifCond .eq 9, 3) := by decide +kernel
theorem dX4_goOn_4 : decode cX4_goOn 4 = .ok (.iload_n 1, 1) := by decide +kernel
theorem dX4_goOn_5 : decode cX4_goOn 5 = .ok (.bipush 7, 2) := by decide +kernel
theorem dX4_goOn_7 : decode cX4_goOn 7 = .ok (.if_icmp .lt 24, 3) := by decide +kernel
theorem dX4_goOn_10 : decode cX4_goOn 10 = .ok (.aload_n 0, 1) := by decide +kernel
theorem dX4_goOn_11 : decode cX4_goOn 11 = .ok (.iload_n 3, 1) := by decide +kernel
theorem dX4_goOn_12 : decode cX4_goOn 12 = .ok (.putfield 28, 3) := by decide +kernel
theorem dX4_goOn_15 : decode cX4_goOn 15 = .ok (.aload_n 0, 1) := by decide +kernel
theorem dX4_goOn_16 : decode cX4_goOn 16 = .ok (.getfield 17, 3) := by decide +kernel
theorem dX4_goOn_19 : decode cX4_goOn 19 = .ok (.iconst 0, 1) := by decide +kernel
theorem dX4_goOn_20 : decode cX4_goOn 20 = .ok (.aload_n 0, 1) := by decide +kernel
theorem dX4_goOn_21 : decode cX4_goOn 21 = .ok (.getfield 21, 3) := by decide +kernel
theorem dX4_goOn_24 : decode cX4_goOn 24 = .ok (.iconst 0, 1) := by decide +kernel
theorem dX4_goOn_25 : decode cX4_goOn 25 = .ok (.bipush 7, 2) := by decide +kernel
theorem dX4_goOn_27 : decode cX4_goOn 27 = .ok (.invokestatic 52, 3) := by decide +kernel
theorem dX4_goOn_30 : decode cX4_goOn 30 = .ok (.return_, 1) := by decide +kernel
theorem dX4_goOn_31 : decode cX4_goOn 31 = .ok (.aload_n 0, 1) := by decide +kernel
theorem dX4_goOn_32 : decode cX4_goOn 32 = .ok (.getfield 11, 3) := by decide +kernel
theorem dX4_goOn_35 : decode cX4_goOn 35 = .ok (.iload_n 1, 1) := by decide +kernel
theorem dX4_goOn_36 : decode cX4_goOn 36 = .ok (.aaload, 1) := by decide +kernel
theorem dX4_goOn_37 : decode cX4_goOn 37 = .ok (.astore 4, 2) := by decide +kernel
theorem dX4_goOn_39 : decode cX4_goOn 39 = .ok (.aload_n 0, 1) := by decide +kernel
theorem dX4_goOn_40 : decode cX4_goOn 40 = .ok (.getfield 11, 3) := by decide +kernel
theorem dX4_goOn_43 : decode cX4_goOn 43 = .ok (.iload_n 1, 1) := by decide +kernel
theorem dX4_goOn_44 : decode cX4_goOn 44 = .ok (.iconst 1, 1) := by decide +kernel
theorem dX4_goOn_45 : decode cX4_goOn 45 = .ok (.iadd, 1) := by decide +kernel
theorem dX4_goOn_46 : decode cX4_goOn 46 = .ok (.aaload, 1) := by decide +kernel
theorem dX4_goOn_47 : decode cX4_goOn 47 = .ok (.astore 5, 2) := by decide +kernel
theorem dX4_goOn_49 : decode cX4_goOn 49 = .ok (.iconst 0, 1) := by decide +kernel
theorem dX4_goOn_50 : decode cX4_goOn 50 = .ok (.istore 6, 2) := by decide +kernel
theorem dX4_goOn_52 : decode cX4_goOn 52 = .ok (.iload 6, 2) := by decide +kernel
theorem dX4_goOn_54 : decode cX4_goOn 54 = .ok (.bipush 7, 2) := by decide +kernel
theorem dX4_goOn_56 : decode cX4_goOn 56 = .ok (.if_icmp .ge 97, 3) := by decide +kernel
theorem dX4_goOn_59 : decode cX4_goOn 59 = .ok (.iload_n 2, 1) := by decide +kernel
theorem dX4_goOn_60 : decode cX4_goOn 60 = .ok (.iload 6, 2) := by decide +kernel
theorem dX4_goOn_62 : decode cX4_goOn 62 = .ok (.ishr, 1) := by decide +kernel
theorem dX4_goOn_63 : decode cX4_goOn 63 = .ok (.iconst 1, 1) := by decide +kernel
theorem dX4_goOn_64 : decode cX4_goOn 64 = .ok (.iand, 1) := by decide +kernel
theorem dX4_goOn_65 : decode cX4_goOn 65 = .ok (.ifCond .eq 82, 3) := by decide +kernel
theorem dX4_goOn_68 : decode cX4_goOn 68 = .ok (.aload 5, 2) := by decide +kernel
theorem dX4_goOn_70 : decode cX4_goOn 70 = .ok (.aload 4, 2) := by decide +kernel
theorem dX4_goOn_72 : decode cX4_goOn 72 = .ok (.invokevirtual 44, 3) := by decide +kernel
theorem dX4_goOn_75 : decode cX4_goOn 75 = .ok (.aload 5, 2) := by decide +kernel
theorem dX4_goOn_77 : decode cX4_goOn 77 = .ok (.iload 6, 2) := by decide +kernel
theorem dX4_goOn_79 : decode cX4_goOn 79 = .ok (.invokevirtual 58, 3) := by decide +kernel
theorem dX4_goOn_82 : decode cX4_goOn 82 = .ok (.aload 5, 2) := by decide +kernel
theorem dX4_goOn_84 : decode cX4_goOn 84 = .ok (.iload 6, 2) := by decide +kernel
theorem dX4_goOn_86 : decode cX4_goOn 86 = .ok (.invokevirtual 62, 3) := by decide +kernel
theorem dX4_goOn_89 : decode cX4_goOn 89 = .ok (.pop, 1) := by decide +kernel
theorem dX4_goOn_90 : decode cX4_goOn 90 = .ok (.aload_n 0, 1) := by decide +kernel
theorem dX4_goOn_91 : decode cX4_goOn 91 = .ok (.getfield 17, 3) := by decide +kernel
theorem dX4_goOn_94 : decode cX4_goOn 94 = .ok (.iload_n 1, 1) := by decide +kernel
theorem dX4_goOn_95 : decode cX4_goOn 95 = .ok (.iload 6, 2) := by decide +kernel
theorem dX4_goOn_97 : decode cX4_goOn 97 = .ok (.iastore, 1) := by decide +kernel
theorem dX4_goOn_98 : decode cX4_goOn 98 = .ok (.iload_n 2, 1) := by decide +kernel
theorem dX4_goOn_99 : decode cX4_goOn 99 = .ok (.iconst 1, 1) := by decide +kernel
theorem dX4_goOn_100 : decode cX4_goOn 100 = .ok (.iload 6, 2) := by decide +kernel
theorem dX4_goOn_102 : decode cX4_goOn 102 = .ok (.ishl, 1) := by decide +kernel
theorem dX4_goOn_103 : decode cX4_goOn 103 = .ok (.iconst (-1), 1) := by decide +kernel
theorem dX4_goOn_104 : decode cX4_goOn 104 = .ok (.ixor, 1) := by decide +kernel
theorem dX4_goOn_105 : decode cX4_goOn 105 = .ok (.iand, 1) := by decide +kernel
theorem dX4_goOn_106 : decode cX4_goOn 106 = .ok (.istore 7, 2) := by decide +kernel
theorem dX4_goOn_108 : decode cX4_goOn 108 = .ok (.iload_n 3, 1) := by decide +kernel
theorem dX4_goOn_109 : decode cX4_goOn 109 = .ok (.aload 5, 2) := by decide +kernel
theorem dX4_goOn_111 : decode cX4_goOn 111 = .ok (.iload 6, 2) := by decide +kernel
theorem dX4_goOn_113 : decode cX4_goOn 113 = .ok (.invokevirtual 65, 3) := by decide +kernel
theorem dX4_goOn_116 : decode cX4_goOn 116 = .ok (.iadd, 1) := by decide +kernel
theorem dX4_goOn_117 : decode cX4_goOn 117 = .ok (.istore 8, 2) := by decide +kernel
theorem dX4_goOn_119 : decode cX4_goOn 119 = .ok (.iload 8, 2) := by decide +kernel
theorem dX4_goOn_121 : decode cX4_goOn 121 = .ok (.aload 5, 2) := by decide +kernel
theorem dX4_goOn_123 : decode cX4_goOn 123 = .ok (.iload 7, 2) := by decide +kernel
theorem dX4_goOn_125 : decode cX4_goOn 125 = .ok (.invokestatic 68, 3) := by decide +kernel
theorem dX4_goOn_128 : decode cX4_goOn 128 = .ok (.iadd, 1) := by decide +kernel
theorem dX4_goOn_129 : decode cX4_goOn 129 = .ok (.aload_n 0, 1) := by decide +kernel
theorem dX4_goOn_130 : decode cX4_goOn 130 = .ok (.getfield 28, 3) := by decide +kernel
theorem dX4_goOn_133 : decode cX4_goOn 133 = .ok (.if_icmp .ge 14, 3) := by decide +kernel
theorem dX4_goOn_136 : decode cX4_goOn 136 = .ok (.aload_n 0, 1) := by decide +kernel
theorem dX4_goOn_137 : decode cX4_goOn 137 = .ok (.iload_n 1, 1) := by decide +kernel
theorem dX4_goOn_138 : decode cX4_goOn 138 = .ok (.iconst 1, 1) := by decide +kernel
theorem dX4_goOn_139 : decode cX4_goOn 139 = .ok (.iadd, 1) := by decide +kernel
theorem dX4_goOn_140 : decode cX4_goOn 140 = .ok (.iload 7, 2) := by decide +kernel
theorem dX4_goOn_142 : decode cX4_goOn 142 = .ok (.iload 8, 2) := by decide +kernel
theorem dX4_goOn_144 : decode cX4_goOn 144 = .ok (.invokevirtual 48, 3) := by decide +kernel
theorem dX4_goOn_147 : decode cX4_goOn 147 = .ok (.iinc 6 1, 3) := by decide +kernel
theorem dX4_goOn_150 : decode cX4_goOn 150 = .ok (.goto (-98), 3) := by decide +kernel
theorem dX4_goOn_153 : decode cX4_goOn 153 = .ok (.return_, 1) := by decide +kernel
theorem dX5_takeBack_0 : decode cX5_takeBack 0 = .ok (.aload_n 0, 1) := by decide +kernel
theorem dX5_takeBack_1 : decode cX5_takeBack 1 = .ok (.getfield 17, 3) := by decide +kernel
theorem dX5_takeBack_4 : decode cX5_takeBack 4 = .ok (.ifCond .ne 5, 3) := by decide +kernel
theorem dX5_takeBack_7 : decode cX5_takeBack 7 = .ok (.iconst (-1), 1) := by decide +kernel
theorem dX5_takeBack_8 : decode cX5_takeBack 8 = .ok (.ireturn, 1) := by decide +kernel
theorem dX5_takeBack_9 : decode cX5_takeBack 9 = .ok (.aload_n 0, 1) := by decide +kernel
theorem dX5_takeBack_10 : decode cX5_takeBack 10 = .ok (.dup, 1) := by decide +kernel
theorem dX5_takeBack_11 : decode cX5_takeBack 11 = .ok (.getfield 17, 3) := by decide +kernel
theorem dX5_takeBack_14 : decode cX5_takeBack 14 = .ok (.iconst 1, 1) := by decide +kernel
theorem dX5_takeBack_15 : decode cX5_takeBack 15 = .ok (.isub, 1) := by decide +kernel
theorem dX5_takeBack_16 : decode cX5_takeBack 16 = .ok (.putfield 17, 3) := by decide +kernel
theorem dX5_takeBack_19 : decode cX5_takeBack 19 = .ok (.aload_n 0, 1) := by decide +kernel
theorem dX5_takeBack_20 : decode cX5_takeBack 20 = .ok (.aload_n 0, 1) := by decide +kernel
theorem dX5_takeBack_21 : decode cX5_takeBack 21 = .ok (.getfield 21, 3) := by decide +kernel
theorem dX5_takeBack_24 : decode cX5_takeBack 24 = .ok (.ifCond .le 12, 3) := by decide +kernel
theorem dX5_takeBack_27 : decode cX5_takeBack 27 = .ok (.aload_n 0, 1) := by decide +kernel
theorem dX5_takeBack_28 : decode cX5_takeBack 28 = .ok (.getfield 21, 3) := by decide +kernel
theorem dX5_takeBack_31 : decode cX5_takeBack 31 = .ok (.iconst 1, 1) := by decide +kernel
theorem dX5_takeBack_32 : decode cX5_takeBack 32 = .ok (.isub, 1) := by decide +kernel
theorem dX5_takeBack_33 : decode cX5_takeBack 33 = .ok (.goto 5, 3) := by decide +kernel
theorem dX5_takeBack_36 : decode cX5_takeBack 36 = .ok (.bipush 8, 2) := by decide +kernel
theorem dX5_takeBack_38 : decode cX5_takeBack 38 = .ok (.putfield 21, 3) := by decide +kernel
theorem dX5_takeBack_41 : decode cX5_takeBack 41 = .ok (.aload_n 1, 1) := by decide +kernel
theorem dX5_takeBack_42 : decode cX5_takeBack 42 = .ok (.aload_n 0, 1) := by decide +kernel
theorem dX5_takeBack_43 : decode cX5_takeBack 43 = .ok (.getfield 13, 3) := by decide +kernel
theorem dX5_takeBack_46 : decode cX5_takeBack 46 = .ok (.aload_n 0, 1) := by decide +kernel
theorem dX5_takeBack_47 : decode cX5_takeBack 47 = .ok (.getfield 21, 3) := by decide +kernel
theorem dX5_takeBack_50 : decode cX5_takeBack 50 = .ok (.aaload, 1) := by decide +kernel
theorem dX5_takeBack_51 : decode cX5_takeBack 51 = .ok (.invokevirtual 27, 3) := by decide +kernel
theorem dX5_takeBack_54 : decode cX5_takeBack 54 = .ok (.aload_n 0, 1) := by decide +kernel
theorem dX5_takeBack_55 : decode cX5_takeBack 55 = .ok (.getfield 17, 3) := by decide +kernel
theorem dX5_takeBack_58 : decode cX5_takeBack 58 = .ok (.ireturn, 1) := by decide +kernel
theorem rc_16 : Rg 16 16 16 := ⟨by decide, by decide⟩
theorem rc_60 : Rg 60 60 60 := ⟨by decide, by decide⟩
theorem rc_63 : Rg 63 63 63 := ⟨by decide, by decide⟩
theorem rc_200 : Rg 200 200 200 := ⟨by decide, by decide⟩
theorem rc_252645135 : Rg 252645135 252645135 252645135 := ⟨by decide, by decide⟩
theorem rc_858993459 : Rg 858993459 858993459 858993459 := ⟨by decide, by decide⟩
theorem rc_1431655765 : Rg 1431655765 1431655765 1431655765 := ⟨by decide, by decide⟩
set_option maxRecDepth 100000 in
set_option maxHeartbeats 8000000 in
theorem c_X1_endMeal {l : Launch} {D : va_G} {cy : Nat → ClassId} {L : List Nat} {κ ln : Nat → Nat} {R : Nat → Nat → Option Nat} {I : Nat → Nat → Int32} {J : Nat → Nat → Int64} {ow : Nat → Nat × Nat} (W9 : ∀ a ∈ L, Shp L κ ln R ow a) {x : Nat} (hLx : x ∈ L) (hkx : κ x = 1) (hU : Iv L κ R ow I) : CtV l yX1_endMeal cX1_endMeal 4 none { frames := 1, cells := 0, slots := 0, locals := 60 } D cy L κ ln R I J [.ref x] (fun I2 J2 => Iv L κ R ow I2 ∧ Fq L κ ow [109, 111, 16200, 16300, 16500, 16600] I I2 ∧ Fq L κ ow [] J J2) := by
  refine CtV.of (by decide +kernel) (Nat.le_of_ble_eq_true rfl) ?_
  intro p e s m below meth c B K
  have C := B.1
  have hF : Fq L κ ow [109, 111, 16200, 16300, 16500, 16600] I I := fq_rf
  have hG : Fq L κ ow [] J J := fq_rf
  obtain ⟨b_483912, hb_483912, hb_483912L, hb_483912k⟩ := shp_o (W9 x hLx) hkx 0 8 rfl (by decide)
  obtain ⟨b_483913, hb_483913, hb_483913L, hb_483913k, hb_483913n, hb_483913o⟩ := shp_a (W9 x hLx) hkx 5 14 7 rfl (by decide)
  obtain ⟨b_483914, hb_483914, hb_483914L, hb_483914k, hb_483914n, hb_483914o⟩ := shp_a (W9 x hLx) hkx 6 14 7 rfl (by decide)
  obtain ⟨b_483915, hb_483915, hb_483915L, hb_483915k, hb_483915n, hb_483915o⟩ := shp_a (W9 b_483912 hb_483912L) hb_483912k 4 14 6 rfl (by decide)
  refine g_lo (is := [0]) (lo2 := [(0, .ref x)]) rfl ?_
  have l_2 : ∀ (n_2 : Nat) (I_483916 : Nat → Nat → Int32) (J_483917 : Nat → Nat → Int64) (hU_483918 : Iv L κ R ow I_483916) (hF_483919 : Fq L κ ow [109, 111, 16200, 16300, 16500, 16600] I I_483916) (hG_483920 : Fq L κ ow [] J J_483917) (v_483921 : Int32) (rv_483921 : Rg 0 7 v_483921) (hm_483922 : 7 < (v_483921 : Int32).toInt + (n_2 : Int)), WG p l e { frames := 1, cells := 0, slots := 0, locals := 60 } s m ([.ref x] : List Value).toArray below meth c 4 0 0 (MQ below (Qv_ D cy L κ ln R (fun I2 J2 => Iv L κ R ow I2 ∧ Fq L κ ow [109, 111, 16200, 16300, 16500, 16600] I I2 ∧ Fq L κ ow [] J J2)) ([.ref x] : List Value).toArray s 0 0 (Al_ L)) D cy (Al_ L) s.heap L κ ln R I_483916 J_483917 2 [(0, .ref x), (1, .int v_483921)] [] := by
    intro n_2
    induction n_2 with
    | zero =>
      intro I_483916 J_483917 hU_483918 hF_483919 hG_483920 v_483921 rv_483921 hm_483922
      exact ms_0 rv_483921 hm_483922
    | succ n_2 ih_2 =>
      intro I_483916 J_483917 hU_483918 hF_483919 hG_483920 v_483921 rv_483921 hm_483922
      have l_44 : ∀ (n_44 : Nat) (I_483923 : Nat → Nat → Int32) (J_483924 : Nat → Nat → Int64) (hU_483925 : Iv L κ R ow I_483923) (hF_483926 : Fq L κ ow [109, 111, 16200, 16300, 16500, 16600] I I_483923) (hG_483927 : Fq L κ ow [] J J_483924) (v_483928 : Int32) (rv_483928 : Rg 0 6 v_483928) (v_483929 : Int32) (rv_483929 : Rg 0 6 v_483929) (v_483930 : Int32) (rv_483930 : Rg 1 7 v_483930) (q_483931 : I_483923 b_483912 5 = v_483930) (hm_483932 : 7 < (v_483928 : Int32).toInt + ((n_2 + 1 : Nat) : Int)) (hm_483933 : 6 < (v_483929 : Int32).toInt + (n_44 : Int)), WG p l e { frames := 1, cells := 0, slots := 0, locals := 60 } s m ([.ref x] : List Value).toArray below meth c 4 0 0 (MQ below (Qv_ D cy L κ ln R (fun I2 J2 => Iv L κ R ow I2 ∧ Fq L κ ow [109, 111, 16200, 16300, 16500, 16600] I I2 ∧ Fq L κ ow [] J J2)) ([.ref x] : List Value).toArray s 0 0 (Al_ L)) D cy (Al_ L) s.heap L κ ln R I_483923 J_483924 44 [(0, .ref x), (1, .int v_483928), (2, .int v_483929)] [] := by
        intro n_44
        induction n_44 with
        | zero =>
          intro I_483923 J_483924 hU_483925 hF_483926 hG_483927 v_483928 rv_483928 v_483929 rv_483929 v_483930 rv_483930 q_483931 hm_483932 hm_483933
          exact ms_0 rv_483929 hm_483933
        | succ n_44 ih_44 =>
          intro I_483923 J_483924 hU_483925 hF_483926 hG_483927 v_483928 rv_483928 v_483929 rv_483929 v_483930 rv_483930 q_483931 hm_483932 hm_483933
          refine g_iload_n C 2 dX1_endMeal_44 rfl rfl ?_
          refine g_aload_n C 0 dX1_endMeal_45 rfl rfl ?_
          refine g_getR C K hLx hkx f_1_52 hb_483912 dX1_endMeal_46 ?_
          obtain ⟨x_483934, hx_483934, rx_483934⟩ := ex_get (I := I_483923) (a := b_483912) (j := 6) (lo := 0) (hi := 6) hU_483925.1 hb_483912L (ro_o hb_483912k (by decide)) rfl
          refine g_getI C K hb_483912L hb_483912k f_1_97 (v := x_483934) hx_483934 dX1_endMeal_49 ?_
          refine g_icmp_ge C (tgt := 98) dX1_endMeal_52 (by decide) (fun h_483935 => ?_) (fun h_483935 => ?_)
          · skip
            obtain ⟨x_483936, hx_483936, rx_483936, tx_483936⟩ := ex_add (y := 1) 1 7 rv_483928 rc_1 (by decide) (by decide) (by decide) (by decide)
            refine g_iinc C dX1_endMeal_98 (k := 1) (v := x_483936) rfl hx_483936 (by decide) (lo2 := [(1, .int x_483936), (0, .ref x), (2, .int v_483929)]) rfl ?_
            refine g_goto C (tgt := 2) dX1_endMeal_101 (by decide) ?_
            refine g_lo (is := [1, 0]) (lo2 := [(0, .ref x), (1, .int x_483936)]) rfl ?_
            exact ih_2 I_483923 J_483924 hU_483925 hF_483926 hG_483927 x_483936 (rg_w rx_483936 (by decide) (by decide)) (ms_1 hm_483932 (ti_k tx_483936 rc_1) (by decide))
          · skip
            have r_483937 := lt_l (hi := 5) (nle h_483935) rv_483929 rx_483934 (by decide)
            have r_483938 := lt_r (lo := 1) (nle h_483935) rv_483929 rx_483934 (by decide)
            refine g_aload_n C 0 dX1_endMeal_55 rfl rfl ?_
            refine g_iload_n C 1 dX1_endMeal_56 rfl rfl ?_
            refine g_iload_n C 2 dX1_endMeal_57 rfl rfl ?_
            refine g_callVI C K (c_X1_onPlate W9 hLx hkx v_483928 v_483929 (rv_483928) (r_483937) hU_483925) hLx hkx (by decide) rfl v_1_71 rfl ⟨rfl, rfl⟩ ⟨Nat.le_of_ble_eq_true rfl, Nat.le_of_ble_eq_true rfl⟩ (Nat.le_of_ble_eq_true rfl) ⟨Nat.le_of_ble_eq_true rfl, Nat.le_of_ble_eq_true rfl⟩ dX1_endMeal_58 rfl (st := []) (fun x_483939 I_483940 J_483941 h_483942 => ?_)
            obtain ⟨rfl, rfl, rx_483939⟩ := h_483942
            refine g_aload_n C 0 dX1_endMeal_61 rfl rfl ?_
            refine g_getR C K hLx hkx f_1_52 hb_483912 dX1_endMeal_62 ?_
            refine g_getR C K hb_483912L hb_483912k f_1_123 hb_483915 dX1_endMeal_65 ?_
            refine g_iload_n C 2 dX1_endMeal_68 rfl rfl ?_
            obtain ⟨x_483943, hx_483943, rx_483943⟩ := ex_get (I := I_483923) (a := b_483915) (j := v_483929.toNatClampNeg) (lo := (-2147483648)) (hi := 2147483647) hU_483925.1 hb_483915L (ro_a hb_483915k (by decide) hb_483915o hb_483912k rfl) (rfl)
            refine h_iald C K hb_483915L hb_483915k (v := x_483943) (v_483929.toNatClampNeg) (rfl) (ix_0 r_483937 (by decide)) (ix_lt r_483937 (by decide) hb_483915n (by decide)) hx_483943 dX1_endMeal_69 ?_
            obtain ⟨x_483944, hx_483944, rx_483944⟩ := ex_min (-2147483648) 2147483647 rx_483939 rx_483943 (by decide) (by decide) (by decide)
            refine g_mmin C (v := x_483944) mw_1_100 w_min (Nat.le_of_ble_eq_true rfl) (Nat.le_of_ble_eq_true rfl) ⟨Nat.le_of_ble_eq_true rfl, Nat.le_of_ble_eq_true rfl⟩ (hx_483944) dX1_endMeal_70 ?_
            refine g_istore_n C dX1_endMeal_73 rfl (by decide) (lo2 := [(3, .int x_483944), (0, .ref x), (1, .int v_483928), (2, .int v_483929)]) rfl ?_
            refine g_aload_n C 1 dX1_endMeal_74 rfl rfl ?_
            refine g_iload_n C 2 dX1_endMeal_75 rfl rfl ?_
            refine g_iload_n C 3 dX1_endMeal_76 rfl rfl ?_
            refine g_iload_n C 0 dX1_endMeal_77 rfl rfl ?_
            obtain ⟨x_483945, hx_483945, rx_483945⟩ := ex_any (z0 := -x_483944)
            refine g_ineg C (v := x_483945) dX1_endMeal_78 hx_483945 ?_
            refine g_callVV C K (c_X1_addToPlate W9 hLx hkx v_483928 v_483929 x_483945 (rv_483928) (r_483937) hU_483925) hLx hkx (by decide) rfl v_1_105 rfl ⟨rfl, rfl⟩ ⟨Nat.le_of_ble_eq_true rfl, Nat.le_of_ble_eq_true rfl⟩ (Nat.le_of_ble_eq_true rfl) ⟨Nat.le_of_ble_eq_true rfl, Nat.le_of_ble_eq_true rfl⟩ dX1_endMeal_79 rfl (st := []) (fun I_483947 J_483948 h_483949 => ?_)
            obtain ⟨hUI_483947, hFI_483947, hGJ_483948⟩ := h_483949
            have hF_483950 := fq_tr hF_483926 hFI_483947 (by decide)
            have hG_483951 := fq_tr hG_483927 hGJ_483948 (by decide)
            refine g_aload_n C 1 dX1_endMeal_82 rfl rfl ?_
            refine g_dup C dX1_endMeal_83 rfl ?_
            obtain ⟨x_483952, hx_483952, rx_483952⟩ := ex_get (I := I_483947) (a := x) (j := 11) (lo := (-2147483648)) (hi := 2147483647) hUI_483947.1 hLx (ro_o hkx (by decide)) rfl
            refine g_getI C K hLx hkx f_1_43 (v := x_483952) hx_483952 dX1_endMeal_84 ?_
            refine g_iload_n C 0 dX1_endMeal_87 rfl rfl ?_
            obtain ⟨x_483953, hx_483953, rx_483953⟩ := ex_any (z0 := x_483952 + x_483944)
            refine g_iadd C (v := x_483953) dX1_endMeal_88 hx_483953 ?_
            refine h_putI C K hLx hkx f_1_43 p_1_11 dX1_endMeal_89 (fun I_483954 hI_483954 => ?_)
            have hU_483955 := iv_put W9 hUI_483947 hI_483954 (ro_o hkx (by decide)) (lo := (-2147483648)) (hi := 2147483647) (rfl) (rx_483953) rfl
            have hF_483956 := fq_puto hF_483950 hI_483954 hkx (by decide) (by decide)
            obtain ⟨x_483957, hx_483957, rx_483957, tx_483957⟩ := ex_add (y := 1) 1 6 r_483937 rc_1 (by decide) (by decide) (by decide) (by decide)
            refine g_iinc C dX1_endMeal_92 (k := 3) (v := x_483957) rfl hx_483957 (by decide) (lo2 := [(2, .int x_483957), (3, .int x_483944), (0, .ref x), (1, .int v_483928)]) rfl ?_
            refine g_goto C (tgt := 44) dX1_endMeal_95 (by decide) ?_
            refine g_lo (is := [2, 3, 0]) (lo2 := [(0, .ref x), (1, .int v_483928), (2, .int x_483957)]) rfl ?_
            exact ih_44 I_483954 J_483948 hU_483955 hF_483956 hG_483951 v_483928 (rv_483928) x_483957 (rg_w rx_483957 (by decide) (by decide)) v_483930 (rv_483930) (kp_k (κ := κ) hI_483954 (by rw [hb_483912k, hkx]; decide) (fq_at hFI_483947 hb_483912L hb_483912k (by decide) (by decide) q_483931)) hm_483932 (ms_1 hm_483933 (ti_k tx_483957 rc_1) (by decide))
      have j_35 : ∀ (I_483958 : Nat → Nat → Int32) (J_483959 : Nat → Nat → Int64) (hU_483960 : Iv L κ R ow I_483958) (hF_483961 : Fq L κ ow [109, 111, 16200, 16300, 16500, 16600] I I_483958) (hG_483962 : Fq L κ ow [] J J_483959) (v_483963 : Int32) (rv_483963 : Rg 0 6 v_483963) (v_483964 : Int32) (rv_483964 : Rg 1 7 v_483964) (q_483965 : I_483958 b_483912 5 = v_483964) (hm_483966 : 7 < (v_483963 : Int32).toInt + ((n_2 + 1 : Nat) : Int)), WG p l e { frames := 1, cells := 0, slots := 0, locals := 60 } s m ([.ref x] : List Value).toArray below meth c 4 0 0 (MQ below (Qv_ D cy L κ ln R (fun I2 J2 => Iv L κ R ow I2 ∧ Fq L κ ow [109, 111, 16200, 16300, 16500, 16600] I I2 ∧ Fq L κ ow [] J J2)) ([.ref x] : List Value).toArray s 0 0 (Al_ L)) D cy (Al_ L) s.heap L κ ln R I_483958 J_483959 35 [(0, .ref x), (1, .int v_483963)] [] := by
        intro I_483958 J_483959 hU_483960 hF_483961 hG_483962 v_483963 rv_483963 v_483964 rv_483964 q_483965 hm_483966
        refine g_aload_n C 0 dX1_endMeal_35 rfl rfl ?_
        refine g_getR C K hLx hkx f_1_24 hb_483913 dX1_endMeal_36 ?_
        refine g_iload_n C 1 dX1_endMeal_39 rfl rfl ?_
        refine g_iconst C (v := 0) dX1_endMeal_40 (by decide) ?_
        refine h_iast C K hb_483913L hb_483913k (v_483963.toNatClampNeg) (rfl) (ix_0 rv_483963 (by decide)) (ix_lt rv_483963 (by decide) hb_483913n (by decide)) dX1_endMeal_41 (fun I_483967 hI_483967 => ?_)
        have hU_483968 := iv_put W9 hU_483960 hI_483967 (ro_a hb_483913k (by decide) hb_483913o hkx rfl) (lo := (-2147483648)) (hi := 2147483647) (rfl) (rg_all _) rfl
        have hF_483969 := fq_puta hF_483961 hI_483967 (ro_a hb_483913k (by decide) hb_483913o hkx rfl) (by decide) (by decide)
        refine g_iconst C (v := 0) dX1_endMeal_42 (by decide) ?_
        refine g_istore_n C dX1_endMeal_43 rfl (by decide) (lo2 := [(2, .int 0), (0, .ref x), (1, .int v_483963)]) rfl ?_
        refine g_lo (is := [1, 2, 0]) (lo2 := [(0, .ref x), (1, .int v_483963), (2, .int 0)]) rfl ?_
        exact l_44 7 I_483967 J_483959 hU_483968 hF_483969 hG_483962 v_483963 (rv_483963) 0 (rg_w rc_0 (by decide) (by decide)) v_483964 (rv_483964) (kp_k (κ := κ) hI_483967 (by rw [hb_483912k, hb_483913k]; decide) q_483965) hm_483966 (ms_s (a := 0) (b := 6) (N := 7) (rg_w rc_0 (by decide) (by decide)) (by decide))
      refine g_iload_n C 1 dX1_endMeal_2 rfl rfl ?_
      refine g_aload_n C 0 dX1_endMeal_3 rfl rfl ?_
      refine g_getR C K hLx hkx f_1_52 hb_483912 dX1_endMeal_4 ?_
      obtain ⟨x_483970, hx_483970, rx_483970⟩ := ex_get (I := I_483916) (a := b_483912) (j := 5) (lo := 0) (hi := 7) hU_483918.1 hb_483912L (ro_o hb_483912k (by decide)) rfl
      refine g_getI C K hb_483912L hb_483912k f_1_68 (v := x_483970) hx_483970 dX1_endMeal_7 ?_
      refine g_icmp_ge C (tgt := 104) dX1_endMeal_10 (by decide) (fun h_483971 => ?_) (fun h_483971 => ?_)
      · skip
        refine g_aload_n C 0 dX1_endMeal_104 rfl rfl ?_
        refine g_dup C dX1_endMeal_105 rfl ?_
        obtain ⟨x_483972, hx_483972, rx_483972⟩ := ex_get (I := I_483916) (a := x) (j := 9) (lo := (-2147483648)) (hi := 2147483647) hU_483918.1 hLx (ro_o hkx (by decide)) rfl
        refine g_getI C K hLx hkx f_1_37 (v := x_483972) hx_483972 dX1_endMeal_106 ?_
        refine g_iconst C (v := 1) dX1_endMeal_109 (by decide) ?_
        obtain ⟨x_483973, hx_483973, rx_483973⟩ := ex_any (z0 := x_483972 + 1)
        refine g_iadd C (v := x_483973) dX1_endMeal_110 hx_483973 ?_
        refine h_putI C K hLx hkx f_1_37 p_1_9 dX1_endMeal_111 (fun I_483974 hI_483974 => ?_)
        have hU_483975 := iv_put W9 hU_483918 hI_483974 (ro_o hkx (by decide)) (lo := (-2147483648)) (hi := 2147483647) (rfl) (rx_483973) rfl
        have hF_483976 := fq_puto hF_483919 hI_483974 hkx (by decide) (by decide)
        exact g_vret B K rfl ⟨hU_483975, hF_483976, hG_483920⟩ dX1_endMeal_114
      · skip
        have r_483977 := lt_l (hi := 6) (nle h_483971) rv_483921 rx_483970 (by decide)
        have r_483978 := lt_r (lo := 1) (nle h_483971) rv_483921 rx_483970 (by decide)
        refine g_aload_n C 0 dX1_endMeal_13 rfl rfl ?_
        refine g_iload_n C 1 dX1_endMeal_14 rfl rfl ?_
        refine g_callVI C K (c_X1_lives W9 hLx hkx v_483921 (r_483977) hU_483918) hLx hkx (by decide) rfl v_1_115 rfl ⟨rfl, rfl⟩ ⟨Nat.le_of_ble_eq_true rfl, Nat.le_of_ble_eq_true rfl⟩ (Nat.le_of_ble_eq_true rfl) ⟨Nat.le_of_ble_eq_true rfl, Nat.le_of_ble_eq_true rfl⟩ dX1_endMeal_15 rfl (st := []) (fun x_483979 I_483980 J_483981 h_483982 => ?_)
        obtain ⟨rfl, rfl, rx_483979⟩ := h_483982
        refine g_if_eq C (tgt := 35) dX1_endMeal_18 (by decide) (fun h_483983 => ?_) (fun h_483983 => ?_)
        · skip
          have r_483984 := (⟨(rx_483979).1, (eq_rg (h_483983) rc_0).2⟩ : Rg 0 0 x_483979)
          refine g_lo (is := [0, 1]) (lo2 := [(0, .ref x), (1, .int v_483921)]) rfl ?_
          exact j_35 I_483916 J_483917 hU_483918 hF_483919 hG_483920 v_483921 (r_483977) x_483970 (r_483978) hx_483970 hm_483922
        · skip
          have n_483985 : ¬ x_483979 = 0 := h_483983
          have r_483986 := ne_lo (lo := 1) n_483985 rx_483979 rc_0 rfl (by decide)
          refine g_aload_n C 0 dX1_endMeal_21 rfl rfl ?_
          refine g_getR C K hLx hkx f_1_27 hb_483914 dX1_endMeal_22 ?_
          refine g_iload_n C 1 dX1_endMeal_25 rfl rfl ?_
          refine g_dup2 C dX1_endMeal_26 rfl rfl ?_
          obtain ⟨x_483987, hx_483987, rx_483987⟩ := ex_get (I := I_483916) (a := b_483914) (j := v_483921.toNatClampNeg) (lo := (-2147483648)) (hi := 2147483647) hU_483918.1 hb_483914L (ro_a hb_483914k (by decide) hb_483914o hkx rfl) (rfl)
          refine h_iald C K hb_483914L hb_483914k (v := x_483987) (v_483921.toNatClampNeg) (rfl) (ix_0 r_483977 (by decide)) (ix_lt r_483977 (by decide) hb_483914n (by decide)) hx_483987 dX1_endMeal_27 ?_
          refine g_aload_n C 0 dX1_endMeal_28 rfl rfl ?_
          refine g_iload_n C 1 dX1_endMeal_29 rfl rfl ?_
          refine g_callVI C K (c_X1_wantsYet W9 hLx hkx v_483921 (r_483977) hU_483918) hLx hkx (by decide) rfl v_1_109 rfl ⟨rfl, rfl⟩ ⟨Nat.le_of_ble_eq_true rfl, Nat.le_of_ble_eq_true rfl⟩ (Nat.le_of_ble_eq_true rfl) ⟨Nat.le_of_ble_eq_true rfl, Nat.le_of_ble_eq_true rfl⟩ dX1_endMeal_30 rfl (st := [.int x_483987, .int v_483921, .ref b_483914]) (fun x_483988 I_483989 J_483990 h_483991 => ?_)
          obtain ⟨rfl, rfl, rx_483988⟩ := h_483991
          obtain ⟨x_483992, hx_483992, rx_483992⟩ := ex_any (z0 := x_483987 + x_483988)
          refine g_iadd C (v := x_483992) dX1_endMeal_33 hx_483992 ?_
          refine h_iast C K hb_483914L hb_483914k (v_483921.toNatClampNeg) (rfl) (ix_0 r_483977 (by decide)) (ix_lt r_483977 (by decide) hb_483914n (by decide)) dX1_endMeal_34 (fun I_483993 hI_483993 => ?_)
          have hU_483994 := iv_put W9 hU_483918 hI_483993 (ro_a hb_483914k (by decide) hb_483914o hkx rfl) (lo := (-2147483648)) (hi := 2147483647) (rfl) (rx_483992) rfl
          have hF_483995 := fq_puta hF_483919 hI_483993 (ro_a hb_483914k (by decide) hb_483914o hkx rfl) (by decide) (by decide)
          refine g_lo (is := [0, 1]) (lo2 := [(0, .ref x), (1, .int v_483921)]) rfl ?_
          exact j_35 I_483993 J_483917 hU_483994 hF_483995 hG_483920 v_483921 (r_483977) x_483970 (r_483978) (kp_k (κ := κ) hI_483993 (by rw [hb_483912k, hb_483914k]; decide) hx_483970) hm_483922
  refine g_iconst C (v := 0) dX1_endMeal_0 (by decide) ?_
  refine g_istore_n C dX1_endMeal_1 rfl (by decide) (lo2 := [(1, .int 0), (0, .ref x)]) rfl ?_
  refine g_lo (is := [1, 0]) (lo2 := [(0, .ref x), (1, .int 0)]) rfl ?_
  exact l_2 8 I J hU hF hG 0 (rg_w rc_0 (by decide) (by decide)) (ms_s (a := 0) (b := 7) (N := 8) (rg_w rc_0 (by decide) (by decide)) (by decide))
set_option maxRecDepth 100000 in
set_option maxHeartbeats 8000000 in
theorem c_X1_letMealsGo {l : Launch} {D : va_G} {cy : Nat → ClassId} {L : List Nat} {κ ln : Nat → Nat} {R : Nat → Nat → Option Nat} {I : Nat → Nat → Int32} {J : Nat → Nat → Int64} {ow : Nat → Nat × Nat} (W9 : ∀ a ∈ L, Shp L κ ln R ow a) {x : Nat} (hLx : x ∈ L) (hkx : κ x = 1) (a0 : Int32) (hU : Iv L κ R ow I) : CtI l yX1_letMealsGo cX1_letMealsGo 3 (some .int) { frames := 2, cells := 0, slots := 0, locals := 83 } D cy L κ ln R I J [.ref x, .int a0] (fun r I2 J2 => Iv L κ R ow I2 ∧ Fq L κ ow [109, 111, 16200, 16300, 16500, 16600] I I2 ∧ Fq L κ ow [] J J2 ∧ Rg 0 2147483647 r) := by
  refine CtI.of (by decide +kernel) (Nat.le_of_ble_eq_true rfl) ?_
  intro p e s m below meth c B K
  have C := B.1
  have hF : Fq L κ ow [109, 111, 16200, 16300, 16500, 16600] I I := fq_rf
  have hG : Fq L κ ow [] J J := fq_rf
  refine g_lo (is := [0, 1]) (lo2 := [(0, .ref x), (1, .int a0)]) rfl ?_
  have l_2 : ∀ (n_2 : Nat) (I_484737 : Nat → Nat → Int32) (J_484738 : Nat → Nat → Int64) (hU_484739 : Iv L κ R ow I_484737) (hF_484740 : Fq L κ ow [109, 111, 16200, 16300, 16500, 16600] I I_484737) (hG_484741 : Fq L κ ow [] J J_484738) (v_484742 : Int32) (v_484743 : Int32) (rv_484743 : Rg 0 2147483647 v_484743) (hm_484744 : 2147483647 < (v_484743 : Int32).toInt + (n_2 : Int)), WG p l e { frames := 2, cells := 0, slots := 0, locals := 83 } s m ([.ref x, .int a0] : List Value).toArray below meth c 3 0 0 (MQ below (Qi_ D cy L κ ln R (fun r I2 J2 => Iv L κ R ow I2 ∧ Fq L κ ow [109, 111, 16200, 16300, 16500, 16600] I I2 ∧ Fq L κ ow [] J J2 ∧ Rg 0 2147483647 r)) ([.ref x, .int a0] : List Value).toArray s 0 0 (Al_ L)) D cy (Al_ L) s.heap L κ ln R I_484737 J_484738 2 [(0, .ref x), (1, .int v_484742), (2, .int v_484743)] [] := by
    intro n_2
    induction n_2 with
    | zero =>
      intro I_484737 J_484738 hU_484739 hF_484740 hG_484741 v_484742 v_484743 rv_484743 hm_484744
      exact ms_0 rv_484743 hm_484744
    | succ n_2 ih_2 =>
      intro I_484737 J_484738 hU_484739 hF_484740 hG_484741 v_484742 v_484743 rv_484743 hm_484744
      refine g_iload_n C 2 dX1_letMealsGo_2 rfl rfl ?_
      refine g_iload_n C 1 dX1_letMealsGo_3 rfl rfl ?_
      refine g_icmp_ge C (tgt := 27) dX1_letMealsGo_4 (by decide) (fun h_484745 => ?_) (fun h_484745 => ?_)
      · skip
        refine g_iload_n C 2 dX1_letMealsGo_27 rfl rfl ?_
        exact g_zret (ty := .int) (r := v_484743) B K rfl (rfl) ⟨hU_484739, hF_484740, hG_484741, rv_484743⟩ dX1_letMealsGo_28
      · skip
        have r_484746 := lt_l (hi := 2147483646) (nle h_484745) rv_484743 (rg_all v_484742) (by decide)
        have r_484747 := lt_r (lo := 1) (nle h_484745) rv_484743 (rg_all v_484742) (by decide)
        refine g_aload_n C 0 dX1_letMealsGo_7 rfl rfl ?_
        obtain ⟨x_484748, hx_484748, rx_484748⟩ := ex_get (I := I_484737) (a := x) (j := 9) (lo := (-2147483648)) (hi := 2147483647) hU_484739.1 hLx (ro_o hkx (by decide)) rfl
        refine g_getI C K hLx hkx f_1_37 (v := x_484748) hx_484748 dX1_letMealsGo_8 ?_
        refine g_sipush C (v := 200) dX1_letMealsGo_11 (by decide) ?_
        refine g_icmp_ge C (tgt := 27) dX1_letMealsGo_14 (by decide) (fun h_484749 => ?_) (fun h_484749 => ?_)
        · skip
          have r_484750 := le_r (h_484749) rc_200 rx_484748
          refine g_iload_n C 2 dX1_letMealsGo_27 rfl rfl ?_
          exact g_zret (ty := .int) (r := v_484743) B K rfl (rfl) ⟨hU_484739, hF_484740, hG_484741, rg_w r_484746 (by decide) (by decide)⟩ dX1_letMealsGo_28
        · skip
          have r_484751 := lt_l (hi := 199) (nle h_484749) rx_484748 rc_200 (by decide)
          refine g_aload_n C 0 dX1_letMealsGo_17 rfl rfl ?_
          refine g_callVV C K (c_X1_endMeal W9 hLx hkx   hU_484739) hLx hkx (by decide) rfl v_1_126 rfl ⟨rfl, rfl⟩ ⟨Nat.le_of_ble_eq_true rfl, Nat.le_of_ble_eq_true rfl⟩ (Nat.le_of_ble_eq_true rfl) ⟨Nat.le_of_ble_eq_true rfl, Nat.le_of_ble_eq_true rfl⟩ dX1_letMealsGo_18 rfl (st := []) (fun I_484753 J_484754 h_484755 => ?_)
          obtain ⟨hUI_484753, hFI_484753, hGJ_484754⟩ := h_484755
          have hF_484756 := fq_tr hF_484740 hFI_484753 (by decide)
          have hG_484757 := fq_tr hG_484741 hGJ_484754 (by decide)
          obtain ⟨x_484758, hx_484758, rx_484758, tx_484758⟩ := ex_add (y := 1) 1 2147483647 r_484746 rc_1 (by decide) (by decide) (by decide) (by decide)
          refine g_iinc C dX1_letMealsGo_21 (k := 2) (v := x_484758) rfl hx_484758 (by decide) (lo2 := [(2, .int x_484758), (0, .ref x), (1, .int v_484742)]) rfl ?_
          refine g_goto C (tgt := 2) dX1_letMealsGo_24 (by decide) ?_
          refine g_lo (is := [1, 2, 0]) (lo2 := [(0, .ref x), (1, .int v_484742), (2, .int x_484758)]) rfl ?_
          exact ih_2 I_484753 J_484754 hUI_484753 hF_484756 hG_484757 v_484742 x_484758 (rg_w rx_484758 (by decide) (by decide)) (ms_1 hm_484744 (ti_k tx_484758 rc_1) (by decide))
  refine g_iconst C (v := 0) dX1_letMealsGo_0 (by decide) ?_
  refine g_istore_n C dX1_letMealsGo_1 rfl (by decide) (lo2 := [(2, .int 0), (0, .ref x), (1, .int a0)]) rfl ?_
  refine g_lo (is := [1, 2, 0]) (lo2 := [(0, .ref x), (1, .int a0), (2, .int 0)]) rfl ?_
  exact l_2 2147483648 I J hU hF hG a0 0 (rg_w rc_0 (by decide) (by decide)) (ms_s (a := 0) (b := 2147483647) (N := 2147483648) (rg_w rc_0 (by decide) (by decide)) (by decide))
set_option maxRecDepth 100000 in
set_option maxHeartbeats 8000000 in
theorem c_X11_meals {l : Launch} {D : va_G} {cy : Nat → ClassId} {L : List Nat} {κ ln : Nat → Nat} {R : Nat → Nat → Option Nat} {I : Nat → Nat → Int32} {J : Nat → Nat → Int64} {ow : Nat → Nat × Nat} (W9 : ∀ a ∈ L, Shp L κ ln R ow a) {x : Nat} (hLx : x ∈ L) (hkx : κ x = 11) (a0 : Int32) (hU : Iv L κ R ow I) : CtI l yX11_meals cX11_meals 2 (some .int) { frames := 3, cells := 0, slots := 0, locals := 105 } D cy L κ ln R I J [.ref x, .int a0] (fun r I2 J2 => Iv L κ R ow I2 ∧ Fq L κ ow [107, 108, 109, 110, 111, 112, 501, 502, 16100, 16200, 16300, 16400, 16500, 16600] I I2 ∧ Fq L κ ow [] J J2 ∧ Rg (-1) 2147483647 r) := by
  refine CtI.of (by decide +kernel) (Nat.le_of_ble_eq_true rfl) ?_
  intro p e s m below meth c B K
  have C := B.1
  have hF : Fq L κ ow [107, 108, 109, 110, 111, 112, 501, 502, 16100, 16200, 16300, 16400, 16500, 16600] I I := fq_rf
  have hG : Fq L κ ow [] J J := fq_rf
  obtain ⟨b_484811, hb_484811, hb_484811L, hb_484811k⟩ := shp_o (W9 x hLx) hkx 4 5 rfl (by decide)
  obtain ⟨b_484812, hb_484812, hb_484812L, hb_484812k⟩ := shp_o (W9 x hLx) hkx 2 1 rfl (by decide)
  refine g_lo (is := [0, 1]) (lo2 := [(0, .ref x), (1, .int a0)]) rfl ?_
  refine g_iload_n C 1 dX11_meals_0 rfl rfl ?_
  refine g_iconst C (v := 1) dX11_meals_1 (by decide) ?_
  refine g_icmp_lt C (tgt := 11) dX11_meals_2 (by decide) (fun h_484813 => ?_) (fun h_484813 => ?_)
  · skip
    have r_484814 := lt_l (hi := 0) (h_484813) (rg_all a0) rc_1 (by decide)
    refine g_iconst C (v := (-1)) dX11_meals_11 (by decide) ?_
    exact g_zret (ty := .int) (r := (-1)) B K rfl (rfl) ⟨hU, hF, hG, rg_w rc_m1 (by decide) (by decide)⟩ dX11_meals_12
  · skip
    have r_484815 := le_r (nlt h_484813) rc_1 (rg_all a0)
    refine g_iload_n C 1 dX11_meals_5 rfl rfl ?_
    refine g_bipush C (v := 60) dX11_meals_6 (by decide) ?_
    refine g_icmp_le C (tgt := 13) dX11_meals_8 (by decide) (fun h_484816 => ?_) (fun h_484816 => ?_)
    · skip
      have r_484817 := le_l (h_484816) r_484815 rc_60
      refine g_aload_n C 0 dX11_meals_13 rfl rfl ?_
      refine g_getR C K hLx hkx f_11_38 hb_484811 dX11_meals_14 ?_
      refine g_aload_n C 0 dX11_meals_17 rfl rfl ?_
      refine g_getR C K hLx hkx f_11_28 hb_484812 dX11_meals_18 ?_
      refine g_callVV C K (c_X5_note W9 hb_484811L hb_484811k hb_484812L hb_484812k  hU) hb_484811L hb_484811k (by decide) rfl v_11_225 rfl ⟨rfl, rfl⟩ ⟨Nat.le_of_ble_eq_true rfl, Nat.le_of_ble_eq_true rfl⟩ (Nat.le_of_ble_eq_true rfl) ⟨Nat.le_of_ble_eq_true rfl, Nat.le_of_ble_eq_true rfl⟩ dX11_meals_21 rfl (st := []) (fun I_484819 J_484820 h_484821 => ?_)
      obtain ⟨hUI_484819, hFI_484819, hGJ_484820⟩ := h_484821
      have hF_484822 := fq_tr hF hFI_484819 (by decide)
      have hG_484823 := fq_tr hG hGJ_484820 (by decide)
      refine g_aload_n C 0 dX11_meals_24 rfl rfl ?_
      refine g_aload_n C 0 dX11_meals_25 rfl rfl ?_
      refine g_getR C K hLx hkx f_11_28 hb_484812 dX11_meals_26 ?_
      refine g_iload_n C 1 dX11_meals_29 rfl rfl ?_
      refine g_callVI C K (c_X1_letMealsGo W9 hb_484812L hb_484812k a0  hUI_484819) hb_484812L hb_484812k (by decide) rfl v_11_250 rfl ⟨rfl, rfl⟩ ⟨Nat.le_of_ble_eq_true rfl, Nat.le_of_ble_eq_true rfl⟩ (Nat.le_of_ble_eq_true rfl) ⟨Nat.le_of_ble_eq_true rfl, Nat.le_of_ble_eq_true rfl⟩ dX11_meals_30 rfl (st := [.ref x]) (fun x_484824 I_484825 J_484826 h_484827 => ?_)
      obtain ⟨hUI_484825, hFI_484825, hGJ_484826, rx_484824⟩ := h_484827
      have hF_484828 := fq_tr hF_484822 hFI_484825 (by decide)
      have hG_484829 := fq_tr hG_484823 hGJ_484826 (by decide)
      refine g_callVI C K (c_X11_keptIfAny W9 hLx hkx x_484824 (rx_484824) hUI_484825) hLx hkx (by decide) rfl v_11_253 rfl ⟨rfl, rfl⟩ ⟨Nat.le_of_ble_eq_true rfl, Nat.le_of_ble_eq_true rfl⟩ (Nat.le_of_ble_eq_true rfl) ⟨Nat.le_of_ble_eq_true rfl, Nat.le_of_ble_eq_true rfl⟩ dX11_meals_33 rfl (st := []) (fun x_484830 I_484831 J_484832 h_484833 => ?_)
      obtain ⟨hUI_484831, hFI_484831, hGJ_484832, rx_484830⟩ := h_484833
      have hF_484834 := fq_tr hF_484828 hFI_484831 (by decide)
      have hG_484835 := fq_tr hG_484829 hGJ_484832 (by decide)
      exact g_zret (ty := .int) (r := x_484830) B K rfl (rfl) ⟨hUI_484831, hF_484834, hG_484835, rg_w rx_484830 (by decide) (by decide)⟩ dX11_meals_36
    · skip
      have r_484836 := lt_r (lo := 61) (nle h_484816) rc_60 r_484815 (by decide)
      refine g_iconst C (v := (-1)) dX11_meals_11 (by decide) ?_
      exact g_zret (ty := .int) (r := (-1)) B K rfl (rfl) ⟨hU, hF, hG, rg_w rc_m1 (by decide) (by decide)⟩ dX11_meals_12
set_option maxRecDepth 100000 in
set_option maxHeartbeats 8000000 in
theorem c_X5_takeBack {l : Launch} {D : va_G} {cy : Nat → ClassId} {L : List Nat} {κ ln : Nat → Nat} {R : Nat → Nat → Option Nat} {I : Nat → Nat → Int32} {J : Nat → Nat → Int64} {ow : Nat → Nat × Nat} (W9 : ∀ a ∈ L, Shp L κ ln R ow a) {x : Nat} (hLx : x ∈ L) (hkx : κ x = 5) {a0 : Nat} (hLa0 : a0 ∈ L) (hka0 : κ a0 = 1) (hU : Iv L κ R ow I) : CtI l yX5_takeBack cX5_takeBack 2 (some .int) { frames := 2, cells := 0, slots := 0, locals := 81 } D cy L κ ln R I J [.ref x, .ref a0] (fun r I2 J2 => Iv L κ R ow I2 ∧ Fq L κ ow [107, 108, 109, 110, 111, 112, 501, 502, 16100, 16200, 16300, 16400, 16500, 16600] I I2 ∧ Fq L κ ow [] J J2 ∧ Rg (-1) 7 r) := by
  refine CtI.of (by decide +kernel) (Nat.le_of_ble_eq_true rfl) ?_
  intro p e s m below meth c B K
  have C := B.1
  have hF : Fq L κ ow [107, 108, 109, 110, 111, 112, 501, 502, 16100, 16200, 16300, 16400, 16500, 16600] I I := fq_rf
  have hG : Fq L κ ow [] J J := fq_rf
  obtain ⟨b_484909, hb_484909, hb_484909L, hb_484909k, hb_484909n, hb_484909o⟩ := shp_a (W9 x hLx) hkx 0 17 9 rfl (by decide)
  refine g_lo (is := [0, 1]) (lo2 := [(0, .ref x), (1, .ref a0)]) rfl ?_
  refine g_aload_n C 0 dX5_takeBack_0 rfl rfl ?_
  obtain ⟨x_484910, hx_484910, rx_484910⟩ := ex_get (I := I) (a := x) (j := 1) (lo := 0) (hi := 8) hU.1 hLx (ro_o hkx (by decide)) rfl
  refine g_getI C K hLx hkx f_5_17 (v := x_484910) hx_484910 dX5_takeBack_1 ?_
  refine g_if_ne C (tgt := 9) dX5_takeBack_4 (by decide) (fun h_484911 => ?_) (fun h_484911 => ?_)
  · skip
    have n_484912 : ¬ x_484910 = 0 := h_484911
    have r_484913 := ne_lo (lo := 1) n_484912 rx_484910 rc_0 rfl (by decide)
    refine g_aload_n C 0 dX5_takeBack_9 rfl rfl ?_
    refine g_dup C dX5_takeBack_10 rfl ?_
    refine g_getI C K hLx hkx f_5_17 (v := x_484910) hx_484910 dX5_takeBack_11 ?_
    refine g_iconst C (v := 1) dX5_takeBack_14 (by decide) ?_
    obtain ⟨x_484914, hx_484914, rx_484914, tx_484914⟩ := ex_sub 0 7 r_484913 rc_1 (by decide) (by decide) (by decide) (by decide)
    refine g_isub C (v := x_484914) dX5_takeBack_15 hx_484914 ?_
    refine h_putI C K hLx hkx f_5_17 p_5_1 dX5_takeBack_16 (fun I_484915 hI_484915 => ?_)
    have hU_484916 := iv_put W9 hU hI_484915 (ro_o hkx (by decide)) (lo := 0) (hi := 8) (rfl) (rg_w rx_484914 (by decide) (by decide)) rfl
    have hF_484917 := fq_puto hF hI_484915 hkx (by decide) (by decide)
    refine g_aload_n C 0 dX5_takeBack_19 rfl rfl ?_
    refine g_aload_n C 0 dX5_takeBack_20 rfl rfl ?_
    obtain ⟨x_484918, hx_484918, rx_484918⟩ := ex_get (I := I_484915) (a := x) (j := 2) (lo := 0) (hi := 8) hU_484916.1 hLx (ro_o hkx (by decide)) rfl
    refine g_getI C K hLx hkx f_5_21 (v := x_484918) hx_484918 dX5_takeBack_21 ?_
    refine g_if_le C (tgt := 36) dX5_takeBack_24 (by decide) (fun h_484919 => ?_) (fun h_484919 => ?_)
    · skip
      have r_484920 := le_l (h_484919) rx_484918 rc_0
      refine g_bipush C (v := 8) dX5_takeBack_36 (by decide) ?_
      refine h_putI C K hLx hkx f_5_21 p_5_2 dX5_takeBack_38 (fun I_484921 hI_484921 => ?_)
      have hU_484922 := iv_put W9 hU_484916 hI_484921 (ro_o hkx (by decide)) (lo := 0) (hi := 8) (rfl) (rg_w rc_8 (by decide) (by decide)) rfl
      have hF_484923 := fq_puto hF_484917 hI_484921 hkx (by decide) (by decide)
      refine g_aload_n C 1 dX5_takeBack_41 rfl rfl ?_
      refine g_aload_n C 0 dX5_takeBack_42 rfl rfl ?_
      refine g_getR C K hLx hkx f_5_13 hb_484909 dX5_takeBack_43 ?_
      refine g_aload_n C 0 dX5_takeBack_46 rfl rfl ?_
      refine g_getI C K hLx hkx f_5_21 (v := 8) (kp_s hI_484921) dX5_takeBack_47 ?_
      obtain ⟨b_484924, hb_484924, hb_484924L, hb_484924k⟩ := (W9 b_484909 hb_484909L).2.1 hb_484909k (8) (by rw [hb_484909n]; decide)
      refine h_aaldC C K hb_484909L hb_484909k (8) (by decide) (by decide) (by rw [hb_484909n]; decide) hb_484924 dX5_takeBack_50 ?_
      refine g_callVV C K (c_X1_become W9 hLa0 hka0 hb_484924L hb_484924k  hU_484922) hLa0 hka0 (by decide) rfl v_5_27 rfl ⟨rfl, rfl⟩ ⟨Nat.le_of_ble_eq_true rfl, Nat.le_of_ble_eq_true rfl⟩ (Nat.le_of_ble_eq_true rfl) ⟨Nat.le_of_ble_eq_true rfl, Nat.le_of_ble_eq_true rfl⟩ dX5_takeBack_51 rfl (st := []) (fun I_484926 J_484927 h_484928 => ?_)
      obtain ⟨hUI_484926, hFI_484926, hGJ_484927⟩ := h_484928
      have hF_484929 := fq_tr hF_484923 hFI_484926 (by decide)
      have hG_484930 := fq_tr hG hGJ_484927 (by decide)
      refine g_aload_n C 0 dX5_takeBack_54 rfl rfl ?_
      refine g_getI C K hLx hkx f_5_17 (v := x_484914) (fq_at hFI_484926 hLx hkx (by decide) (by decide) (kp_j hI_484921 (by decide) (kp_s hI_484915))) dX5_takeBack_55 ?_
      exact g_zret (ty := .int) (r := x_484914) B K rfl (rfl) ⟨hUI_484926, hF_484929, hG_484930, rg_w rx_484914 (by decide) (by decide)⟩ dX5_takeBack_58
    · skip
      have r_484931 := lt_r (lo := 1) (nle h_484919) rc_0 rx_484918 (by decide)
      refine g_aload_n C 0 dX5_takeBack_27 rfl rfl ?_
      refine g_getI C K hLx hkx f_5_21 (v := x_484918) hx_484918 dX5_takeBack_28 ?_
      refine g_iconst C (v := 1) dX5_takeBack_31 (by decide) ?_
      obtain ⟨x_484932, hx_484932, rx_484932, tx_484932⟩ := ex_sub 0 7 r_484931 rc_1 (by decide) (by decide) (by decide) (by decide)
      refine g_isub C (v := x_484932) dX5_takeBack_32 hx_484932 ?_
      refine g_goto C (tgt := 38) dX5_takeBack_33 (by decide) ?_
      refine h_putI C K hLx hkx f_5_21 p_5_2 dX5_takeBack_38 (fun I_484933 hI_484933 => ?_)
      have hU_484934 := iv_put W9 hU_484916 hI_484933 (ro_o hkx (by decide)) (lo := 0) (hi := 8) (rfl) (rg_w rx_484932 (by decide) (by decide)) rfl
      have hF_484935 := fq_puto hF_484917 hI_484933 hkx (by decide) (by decide)
      refine g_aload_n C 1 dX5_takeBack_41 rfl rfl ?_
      refine g_aload_n C 0 dX5_takeBack_42 rfl rfl ?_
      refine g_getR C K hLx hkx f_5_13 hb_484909 dX5_takeBack_43 ?_
      refine g_aload_n C 0 dX5_takeBack_46 rfl rfl ?_
      refine g_getI C K hLx hkx f_5_21 (v := x_484932) (kp_s hI_484933) dX5_takeBack_47 ?_
      obtain ⟨b_484936, hb_484936, hb_484936L, hb_484936k⟩ := (W9 b_484909 hb_484909L).2.1 hb_484909k (x_484932.toNatClampNeg) (ix_lt rx_484932 (by decide) hb_484909n (by decide))
      refine h_aaldC C K hb_484909L hb_484909k (x_484932.toNatClampNeg) (rfl) (ix_0 rx_484932 (by decide)) (ix_lt rx_484932 (by decide) hb_484909n (by decide)) hb_484936 dX5_takeBack_50 ?_
      refine g_callVV C K (c_X1_become W9 hLa0 hka0 hb_484936L hb_484936k  hU_484934) hLa0 hka0 (by decide) rfl v_5_27 rfl ⟨rfl, rfl⟩ ⟨Nat.le_of_ble_eq_true rfl, Nat.le_of_ble_eq_true rfl⟩ (Nat.le_of_ble_eq_true rfl) ⟨Nat.le_of_ble_eq_true rfl, Nat.le_of_ble_eq_true rfl⟩ dX5_takeBack_51 rfl (st := []) (fun I_484938 J_484939 h_484940 => ?_)
      obtain ⟨hUI_484938, hFI_484938, hGJ_484939⟩ := h_484940
      have hF_484941 := fq_tr hF_484935 hFI_484938 (by decide)
      have hG_484942 := fq_tr hG hGJ_484939 (by decide)
      refine g_aload_n C 0 dX5_takeBack_54 rfl rfl ?_
      refine g_getI C K hLx hkx f_5_17 (v := x_484914) (fq_at hFI_484938 hLx hkx (by decide) (by decide) (kp_j hI_484933 (by decide) (kp_s hI_484915))) dX5_takeBack_55 ?_
      exact g_zret (ty := .int) (r := x_484914) B K rfl (rfl) ⟨hUI_484938, hF_484941, hG_484942, rg_w rx_484914 (by decide) (by decide)⟩ dX5_takeBack_58
  · skip
    have r_484943 := (⟨(rx_484910).1, (eq_rg (h_484911) rc_0).2⟩ : Rg 0 0 x_484910)
    refine g_iconst C (v := (-1)) dX5_takeBack_7 (by decide) ?_
    exact g_zret (ty := .int) (r := (-1)) B K rfl (rfl) ⟨hU, hF, hG, rg_w rc_m1 (by decide) (by decide)⟩ dX5_takeBack_8
set_option maxRecDepth 100000 in
set_option maxHeartbeats 8000000 in
theorem c_X11_undo {l : Launch} {D : va_G} {cy : Nat → ClassId} {L : List Nat} {κ ln : Nat → Nat} {R : Nat → Nat → Option Nat} {I : Nat → Nat → Int32} {J : Nat → Nat → Int64} {ow : Nat → Nat × Nat} (W9 : ∀ a ∈ L, Shp L κ ln R ow a) {x : Nat} (hLx : x ∈ L) (hkx : κ x = 11) (hU : Iv L κ R ow I) : CtI l yX11_undo cX11_undo 1 (some .int) { frames := 3, cells := 0, slots := 0, locals := 102 } D cy L κ ln R I J [.ref x] (fun r I2 J2 => Iv L κ R ow I2 ∧ Fq L κ ow [107, 108, 109, 110, 111, 112, 501, 502, 16100, 16200, 16300, 16400, 16500, 16600] I I2 ∧ Fq L κ ow [] J J2 ∧ Rg (-1) 7 r) := by
  refine CtI.of (by decide +kernel) (Nat.le_of_ble_eq_true rfl) ?_
  intro p e s m below meth c B K
  have C := B.1
  have hF : Fq L κ ow [107, 108, 109, 110, 111, 112, 501, 502, 16100, 16200, 16300, 16400, 16500, 16600] I I := fq_rf
  have hG : Fq L κ ow [] J J := fq_rf
  obtain ⟨b_484960, hb_484960, hb_484960L, hb_484960k⟩ := shp_o (W9 x hLx) hkx 4 5 rfl (by decide)
  obtain ⟨b_484961, hb_484961, hb_484961L, hb_484961k⟩ := shp_o (W9 x hLx) hkx 2 1 rfl (by decide)
  refine g_lo (is := [0]) (lo2 := [(0, .ref x)]) rfl ?_
  refine g_aload_n C 0 dX11_undo_0 rfl rfl ?_
  refine g_getR C K hLx hkx f_11_38 hb_484960 dX11_undo_1 ?_
  refine g_aload_n C 0 dX11_undo_4 rfl rfl ?_
  refine g_getR C K hLx hkx f_11_28 hb_484961 dX11_undo_5 ?_
  refine g_callVI C K (c_X5_takeBack W9 hb_484960L hb_484960k hb_484961L hb_484961k  hU) hb_484960L hb_484960k (by decide) rfl v_11_256 rfl ⟨rfl, rfl⟩ ⟨Nat.le_of_ble_eq_true rfl, Nat.le_of_ble_eq_true rfl⟩ (Nat.le_of_ble_eq_true rfl) ⟨Nat.le_of_ble_eq_true rfl, Nat.le_of_ble_eq_true rfl⟩ dX11_undo_8 rfl (st := []) (fun x_484962 I_484963 J_484964 h_484965 => ?_)
  obtain ⟨hUI_484963, hFI_484963, hGJ_484964, rx_484962⟩ := h_484965
  have hF_484966 := fq_tr hF hFI_484963 (by decide)
  have hG_484967 := fq_tr hG hGJ_484964 (by decide)
  exact g_zret (ty := .int) (r := x_484962) B K rfl (rfl) ⟨hUI_484963, hF_484966, hG_484967, rx_484962⟩ dX11_undo_11
set_option maxRecDepth 100000 in
set_option maxHeartbeats 8000000 in
theorem c_X11_heir {l : Launch} {D : va_G} {cy : Nat → ClassId} {L : List Nat} {κ ln : Nat → Nat} {R : Nat → Nat → Option Nat} {I : Nat → Nat → Int32} {J : Nat → Nat → Int64} {ow : Nat → Nat × Nat} (W9 : ∀ a ∈ L, Shp L κ ln R ow a) {x : Nat} (hLx : x ∈ L) (hkx : κ x = 11) (a0 : Int32) (hU : Iv L κ R ow I) : CtI l yX11_heir cX11_heir 2 (some .int) { frames := 2, cells := 0, slots := 0, locals := 48 } D cy L κ ln R I J [.ref x, .int a0] (fun r I2 J2 => I = I2 ∧ J = J2 ∧ Rg (-1) 6 r) := by
  refine CtI.of (by decide +kernel) (Nat.le_of_ble_eq_true rfl) ?_
  intro p e s m below meth c B K
  have C := B.1
  obtain ⟨b_485000, hb_485000, hb_485000L, hb_485000k⟩ := shp_o (W9 x hLx) hkx 1 8 rfl (by decide)
  obtain ⟨b_485001, hb_485001, hb_485001L, hb_485001k⟩ := shp_o (W9 x hLx) hkx 2 1 rfl (by decide)
  refine g_lo (is := [0, 1]) (lo2 := [(0, .ref x), (1, .int a0)]) rfl ?_
  refine g_aload_n C 0 dX11_heir_0 rfl rfl ?_
  refine g_getR C K hLx hkx f_11_19 hb_485000 dX11_heir_1 ?_
  refine g_iload_n C 1 dX11_heir_4 rfl rfl ?_
  refine g_callVI C K (c_X8_hasPerson W9 hb_485000L hb_485000k a0  hU) hb_485000L hb_485000k (by decide) rfl v_11_133 rfl ⟨rfl, rfl⟩ ⟨Nat.le_of_ble_eq_true rfl, Nat.le_of_ble_eq_true rfl⟩ (Nat.le_of_ble_eq_true rfl) ⟨Nat.le_of_ble_eq_true rfl, Nat.le_of_ble_eq_true rfl⟩ dX11_heir_5 rfl (st := []) (fun x_485002 I_485003 J_485004 h_485005 => ?_)
  obtain ⟨rfl, rfl, rx_485002, ex_485002⟩ := h_485005
  refine g_if_eq C (tgt := 29) dX11_heir_8 (by decide) (fun h_485006 => ?_) (fun h_485006 => ?_)
  · skip
    have r_485007 := (⟨(rx_485002).1, (eq_rg (h_485006) rc_0).2⟩ : Rg 0 0 x_485002)
    refine g_iconst C (v := (-1)) dX11_heir_29 (by decide) ?_
    exact g_zret (ty := .int) (r := (-1)) B K rfl (rfl) ⟨rfl, rfl, rg_w rc_m1 (by decide) (by decide)⟩ dX11_heir_30
  · skip
    have n_485008 : ¬ x_485002 = 0 := h_485006
    have r_485009 := ne_lo (lo := 1) n_485008 rx_485002 rc_0 rfl (by decide)
    have r_485010 := rg_i (rg_all a0) ((ex_485002) (rg_nz r_485009 (by decide))) (lo := 0) (hi := 6) (by decide) (by decide)
    refine g_aload_n C 0 dX11_heir_11 rfl rfl ?_
    refine g_getR C K hLx hkx f_11_28 hb_485001 dX11_heir_12 ?_
    refine g_iload_n C 1 dX11_heir_15 rfl rfl ?_
    refine g_aload_n C 0 dX11_heir_16 rfl rfl ?_
    refine g_getR C K hLx hkx f_11_28 hb_485001 dX11_heir_17 ?_
    obtain ⟨x_485011, hx_485011, rx_485011⟩ := ex_get (I := I) (a := b_485001) (j := 8) (lo := (-2147483648)) (hi := 2147483647) hU.1 hb_485001L (ro_o hb_485001k (by decide)) rfl
    refine g_getI C K hb_485001L hb_485001k f_11_154 (v := x_485011) hx_485011 dX11_heir_20 ?_
    refine g_callVI C K (c_X1_heirOf W9 hb_485001L hb_485001k a0 x_485011 (r_485010) hU) hb_485001L hb_485001k (by decide) rfl v_11_263 rfl ⟨rfl, rfl⟩ ⟨Nat.le_of_ble_eq_true rfl, Nat.le_of_ble_eq_true rfl⟩ (Nat.le_of_ble_eq_true rfl) ⟨Nat.le_of_ble_eq_true rfl, Nat.le_of_ble_eq_true rfl⟩ dX11_heir_23 rfl (st := []) (fun x_485012 I_485013 J_485014 h_485015 => ?_)
    obtain ⟨rfl, rfl, rx_485012⟩ := h_485015
    refine g_goto C (tgt := 30) dX11_heir_26 (by decide) ?_
    exact g_zret (ty := .int) (r := x_485012) B K rfl (rfl) ⟨rfl, rfl, rx_485012⟩ dX11_heir_30
set_option maxRecDepth 100000 in
set_option maxHeartbeats 8000000 in
theorem c_X11_line {l : Launch} {D : va_G} {cy : Nat → ClassId} {L : List Nat} {κ ln : Nat → Nat} {R : Nat → Nat → Option Nat} {I : Nat → Nat → Int32} {J : Nat → Nat → Int64} {ow : Nat → Nat × Nat} (W9 : ∀ a ∈ L, Shp L κ ln R ow a) {x : Nat} (hLx : x ∈ L) (hkx : κ x = 11) (a0 : Int32) (a1 : Int32) (hU : Iv L κ R ow I) : CtI l yX11_line cX11_line 6 (some .int) { frames := 2, cells := 0, slots := 0, locals := 48 } D cy L κ ln R I J [.ref x, .int a0, .int a1] (fun r I2 J2 => I = I2 ∧ J = J2 ∧ Rg (-1) 6 r) := by
  refine CtI.of (by decide +kernel) (Nat.le_of_ble_eq_true rfl) ?_
  intro p e s m below meth c B K
  have C := B.1
  obtain ⟨b_485171, hb_485171, hb_485171L, hb_485171k⟩ := shp_o (W9 x hLx) hkx 1 8 rfl (by decide)
  obtain ⟨b_485172, hb_485172, hb_485172L, hb_485172k⟩ := shp_o (W9 x hLx) hkx 2 1 rfl (by decide)
  refine g_lo (is := [0, 1, 2]) (lo2 := [(0, .ref x), (1, .int a0), (2, .int a1)]) rfl ?_
  have l_45 : ∀ (n_45 : Nat) (v_485173 : Int32) (rv_485173 : Rg 0 6 v_485173) (v_485174 : Int32) (rv_485174 : Rg 0 6 v_485174) (v_485175 : Int32) (v_485176 : Int32) (rv_485176 : Rg (-1) 6 v_485176) (v_485177 : Int32) (rv_485177 : Rg 0 6 v_485177) (v_485178 : Int32) (q_485179 : I b_485172 8 = v_485178) (hm_485180 : 6 < (v_485177 : Int32).toInt + (n_45 : Int)), WG p l e { frames := 2, cells := 0, slots := 0, locals := 48 } s m ([.ref x, .int a0, .int a1] : List Value).toArray below meth c 6 0 0 (MQ below (Qi_ D cy L κ ln R (fun r I2 J2 => I = I2 ∧ J = J2 ∧ Rg (-1) 6 r)) ([.ref x, .int a0, .int a1] : List Value).toArray s 0 0 (Al_ L)) D cy (Al_ L) s.heap L κ ln R I J 45 [(0, .ref x), (1, .int v_485173), (2, .int v_485174), (3, .int v_485175), (4, .int v_485176), (5, .int v_485177)] [] := by
    intro n_45
    induction n_45 with
    | zero =>
      intro v_485173 rv_485173 v_485174 rv_485174 v_485175 v_485176 rv_485176 v_485177 rv_485177 v_485178 q_485179 hm_485180
      exact ms_0 rv_485177 hm_485180
    | succ n_45 ih_45 =>
      intro v_485173 rv_485173 v_485174 rv_485174 v_485175 v_485176 rv_485176 v_485177 rv_485177 v_485178 q_485179 hm_485180
      refine g_iload C 5 dX11_line_45 rfl ?_
      refine g_iload_n C 2 dX11_line_47 rfl rfl ?_
      refine g_icmp_ge C (tgt := 81) dX11_line_48 (by decide) (fun h_485181 => ?_) (fun h_485181 => ?_)
      · skip
        refine g_iload C 4 dX11_line_81 rfl ?_
        exact g_zret (ty := .int) (r := v_485176) B K rfl (rfl) ⟨rfl, rfl, rv_485176⟩ dX11_line_83
      · skip
        have r_485182 := lt_l (hi := 5) (nle h_485181) rv_485177 rv_485174 (by decide)
        have r_485183 := lt_r (lo := 1) (nle h_485181) rv_485177 rv_485174 (by decide)
        refine g_iload C 4 dX11_line_51 rfl ?_
        refine g_iconst C (v := (-1)) dX11_line_53 (by decide) ?_
        refine g_icmp_eq C (tgt := 81) dX11_line_54 (by decide) (fun h_485184 => ?_) (fun h_485184 => ?_)
        · skip
          have r_485185 := (⟨(rv_485176).1, (eq_rg (h_485184) rc_m1).2⟩ : Rg (-1) (-1) v_485176)
          refine g_iload C 4 dX11_line_81 rfl ?_
          exact g_zret (ty := .int) (r := v_485176) B K rfl (rfl) ⟨rfl, rfl, rg_w r_485185 (by decide) (by decide)⟩ dX11_line_83
        · skip
          have n_485186 : ¬ v_485176 = (-1) := h_485184
          have r_485187 := ne_lo (lo := 0) n_485186 rv_485176 rc_m1 rfl (by decide)
          refine g_iload_n C 3 dX11_line_57 rfl rfl ?_
          refine g_iconst C (v := 1) dX11_line_58 (by decide) ?_
          refine g_iload C 4 dX11_line_59 rfl ?_
          obtain ⟨x_485188, hx_485188, rx_485188⟩ := ex_shl (x := 1) (y := v_485176) 6 64 rfl (r_485187) (by decide)
          refine g_ishl C (v := x_485188) dX11_line_61 hx_485188 ?_
          obtain ⟨x_485189, hx_485189, rx_485189⟩ := ex_any (z0 := v_485175 ||| x_485188)
          refine g_ior C (v := x_485189) dX11_line_62 hx_485189 ?_
          refine g_istore_n C dX11_line_63 rfl (by decide) (lo2 := [(3, .int x_485189), (0, .ref x), (1, .int v_485173), (2, .int v_485174), (4, .int v_485176), (5, .int v_485177)]) rfl ?_
          refine g_aload_n C 1 dX11_line_64 rfl rfl ?_
          refine g_getR C K hLx hkx f_11_28 hb_485172 dX11_line_65 ?_
          refine g_iload_n C 2 dX11_line_68 rfl rfl ?_
          refine g_iload_n C 0 dX11_line_69 rfl rfl ?_
          refine g_callVI C K (c_X1_heirOf W9 hb_485172L hb_485172k v_485173 x_485189 (rv_485173) hU) hb_485172L hb_485172k (by decide) rfl v_11_263 rfl ⟨rfl, rfl⟩ ⟨Nat.le_of_ble_eq_true rfl, Nat.le_of_ble_eq_true rfl⟩ (Nat.le_of_ble_eq_true rfl) ⟨Nat.le_of_ble_eq_true rfl, Nat.le_of_ble_eq_true rfl⟩ dX11_line_70 rfl (st := []) (fun x_485190 I_485191 J_485192 h_485193 => ?_)
          obtain ⟨rfl, rfl, rx_485190⟩ := h_485193
          refine g_istore C dX11_line_73 (by decide) (lo2 := [(4, .int x_485190), (3, .int x_485189), (0, .ref x), (1, .int v_485173), (2, .int v_485174), (5, .int v_485177)]) rfl ?_
          obtain ⟨x_485194, hx_485194, rx_485194, tx_485194⟩ := ex_add (y := 1) 1 6 r_485182 rc_1 (by decide) (by decide) (by decide) (by decide)
          refine g_iinc C dX11_line_75 (k := 5) (v := x_485194) rfl hx_485194 (by decide) (lo2 := [(5, .int x_485194), (4, .int x_485190), (3, .int x_485189), (0, .ref x), (1, .int v_485173), (2, .int v_485174)]) rfl ?_
          refine g_goto C (tgt := 45) dX11_line_78 (by decide) ?_
          refine g_lo (is := [3, 4, 5, 2, 1, 0]) (lo2 := [(0, .ref x), (1, .int v_485173), (2, .int v_485174), (3, .int x_485189), (4, .int x_485190), (5, .int x_485194)]) rfl ?_
          exact ih_45 v_485173 (rv_485173) v_485174 (rg_w r_485183 (by decide) (by decide)) x_485189 x_485190 (rx_485190) x_485194 (rg_w rx_485194 (by decide) (by decide)) v_485178 q_485179 (ms_1 hm_485180 (ti_k tx_485194 rc_1) (by decide))
  refine g_aload_n C 0 dX11_line_0 rfl rfl ?_
  refine g_getR C K hLx hkx f_11_19 hb_485171 dX11_line_1 ?_
  refine g_iload_n C 1 dX11_line_4 rfl rfl ?_
  refine g_callVI C K (c_X8_hasPerson W9 hb_485171L hb_485171k a0  hU) hb_485171L hb_485171k (by decide) rfl v_11_133 rfl ⟨rfl, rfl⟩ ⟨Nat.le_of_ble_eq_true rfl, Nat.le_of_ble_eq_true rfl⟩ (Nat.le_of_ble_eq_true rfl) ⟨Nat.le_of_ble_eq_true rfl, Nat.le_of_ble_eq_true rfl⟩ dX11_line_5 rfl (st := []) (fun x_485195 I_485196 J_485197 h_485198 => ?_)
  obtain ⟨rfl, rfl, rx_485195, ex_485195⟩ := h_485198
  refine g_if_eq C (tgt := 21) dX11_line_8 (by decide) (fun h_485199 => ?_) (fun h_485199 => ?_)
  · skip
    have r_485200 := (⟨(rx_485195).1, (eq_rg (h_485199) rc_0).2⟩ : Rg 0 0 x_485195)
    refine g_iconst C (v := (-1)) dX11_line_21 (by decide) ?_
    exact g_zret (ty := .int) (r := (-1)) B K rfl (rfl) ⟨rfl, rfl, rg_w rc_m1 (by decide) (by decide)⟩ dX11_line_22
  · skip
    have n_485201 : ¬ x_485195 = 0 := h_485199
    have r_485202 := ne_lo (lo := 1) n_485201 rx_485195 rc_0 rfl (by decide)
    have r_485203 := rg_i (rg_all a0) ((ex_485195) (rg_nz r_485202 (by decide))) (lo := 0) (hi := 6) (by decide) (by decide)
    refine g_iload_n C 2 dX11_line_11 rfl rfl ?_
    refine g_if_lt C (tgt := 21) dX11_line_12 (by decide) (fun h_485204 => ?_) (fun h_485204 => ?_)
    · skip
      have r_485205 := lt_l (hi := (-1)) (h_485204) (rg_all a1) rc_0 (by decide)
      refine g_iconst C (v := (-1)) dX11_line_21 (by decide) ?_
      exact g_zret (ty := .int) (r := (-1)) B K rfl (rfl) ⟨rfl, rfl, rg_w rc_m1 (by decide) (by decide)⟩ dX11_line_22
    · skip
      have r_485206 := le_r (nlt h_485204) rc_0 (rg_all a1)
      refine g_iload_n C 2 dX11_line_15 rfl rfl ?_
      refine g_bipush C (v := 7) dX11_line_16 (by decide) ?_
      refine g_icmp_lt C (tgt := 23) dX11_line_18 (by decide) (fun h_485207 => ?_) (fun h_485207 => ?_)
      · skip
        have r_485208 := lt_l (hi := 6) (h_485207) r_485206 rc_7 (by decide)
        refine g_aload_n C 0 dX11_line_23 rfl rfl ?_
        refine g_getR C K hLx hkx f_11_28 hb_485172 dX11_line_24 ?_
        obtain ⟨x_485209, hx_485209, rx_485209⟩ := ex_get (I := I) (a := b_485172) (j := 8) (lo := (-2147483648)) (hi := 2147483647) hU.1 hb_485172L (ro_o hb_485172k (by decide)) rfl
        refine g_getI C K hb_485172L hb_485172k f_11_154 (v := x_485209) hx_485209 dX11_line_27 ?_
        refine g_istore_n C dX11_line_30 rfl (by decide) (lo2 := [(3, .int x_485209), (0, .ref x), (1, .int a0), (2, .int a1)]) rfl ?_
        refine g_aload_n C 1 dX11_line_31 rfl rfl ?_
        refine g_getR C K hLx hkx f_11_28 hb_485172 dX11_line_32 ?_
        refine g_iload_n C 2 dX11_line_35 rfl rfl ?_
        refine g_iload_n C 0 dX11_line_36 rfl rfl ?_
        refine g_callVI C K (c_X1_heirOf W9 hb_485172L hb_485172k a0 x_485209 (r_485203) hU) hb_485172L hb_485172k (by decide) rfl v_11_263 rfl ⟨rfl, rfl⟩ ⟨Nat.le_of_ble_eq_true rfl, Nat.le_of_ble_eq_true rfl⟩ (Nat.le_of_ble_eq_true rfl) ⟨Nat.le_of_ble_eq_true rfl, Nat.le_of_ble_eq_true rfl⟩ dX11_line_37 rfl (st := []) (fun x_485210 I_485211 J_485212 h_485213 => ?_)
        obtain ⟨rfl, rfl, rx_485210⟩ := h_485213
        refine g_istore C dX11_line_40 (by decide) (lo2 := [(4, .int x_485210), (3, .int x_485209), (0, .ref x), (1, .int a0), (2, .int a1)]) rfl ?_
        refine g_iconst C (v := 0) dX11_line_42 (by decide) ?_
        refine g_istore C dX11_line_43 (by decide) (lo2 := [(5, .int 0), (4, .int x_485210), (3, .int x_485209), (0, .ref x), (1, .int a0), (2, .int a1)]) rfl ?_
        refine g_lo (is := [3, 4, 5, 2, 1, 0]) (lo2 := [(0, .ref x), (1, .int a0), (2, .int a1), (3, .int x_485209), (4, .int x_485210), (5, .int 0)]) rfl ?_
        exact l_45 7 a0 (r_485203) a1 (r_485208) x_485209 x_485210 (rx_485210) 0 (rg_w rc_0 (by decide) (by decide)) x_485209 hx_485209 (ms_s (a := 0) (b := 6) (N := 7) (rg_w rc_0 (by decide) (by decide)) (by decide))
      · skip
        have r_485214 := le_r (nlt h_485207) rc_7 r_485206
        refine g_iconst C (v := (-1)) dX11_line_21 (by decide) ?_
        exact g_zret (ty := .int) (r := (-1)) B K rfl (rfl) ⟨rfl, rfl, rg_w rc_m1 (by decide) (by decide)⟩ dX11_line_22
set_option maxRecDepth 100000 in
set_option maxHeartbeats 8000000 in
theorem c_J6_bitCount_0f7a4 {l : Launch} {D : va_G} {cy : Nat → ClassId} {L : List Nat} {κ ln : Nat → Nat} {R : Nat → Nat → Option Nat} {I : Nat → Nat → Int32} {J : Nat → Nat → Int64} {ow : Nat → Nat × Nat} (W9 : ∀ a ∈ L, Shp L κ ln R ow a) (a0 : Int32) (hU : Iv L κ R ow I) : CtI l yJ6_bitCount_0f7a4 cJ6_bitCount_0f7a4 1 (some .int) { frames := 0, cells := 0, slots := 0, locals := 0 } D cy L κ ln R I J [.int a0] (fun r I2 J2 => I = I2 ∧ J = J2 ∧ Rg 0 63 r ∧ r = bc_ a0) := by
  refine CtI.of (by decide +kernel) (Nat.le_of_ble_eq_true rfl) ?_
  intro p e s m below meth c B K
  have C := B.1
  refine g_lo (is := [0]) (lo2 := [(0, .int a0)]) rfl ?_
  refine g_iload_n C 0 dJ6_bitCount_0f7a4_0 rfl rfl ?_
  refine g_iload_n C 0 dJ6_bitCount_0f7a4_1 rfl rfl ?_
  refine g_iconst C (v := 1) dJ6_bitCount_0f7a4_2 (by decide) ?_
  obtain ⟨x_485245, hx_485245, rx_485245⟩ := ex_any (z0 := (Int32.toUInt32 (a0) >>> (Int32.toUInt32 (1) &&& Int32.toUInt32 31)).toInt32)
  refine g_iushr C (v := x_485245) dJ6_bitCount_0f7a4_3 hx_485245 ?_
  refine g_ldcw C k_Integer_265 dJ6_bitCount_0f7a4_4 ?_
  obtain ⟨x_485246, hx_485246, rx_485246⟩ := ex_andr (x := x_485245) (y := 1431655765) (b := 1431655765) (rg_w rc_1431655765 (by decide) (by decide))
  refine g_iand C (v := x_485246) dJ6_bitCount_0f7a4_7 hx_485246 ?_
  obtain ⟨x_485247, hx_485247, rx_485247⟩ := ex_any (z0 := a0 - x_485246)
  refine g_isub C (v := x_485247) dJ6_bitCount_0f7a4_8 hx_485247 ?_
  refine g_istore_n C dJ6_bitCount_0f7a4_9 rfl (by decide) (lo2 := [(0, .int x_485247)]) rfl ?_
  refine g_iload_n C 0 dJ6_bitCount_0f7a4_10 rfl rfl ?_
  refine g_ldcw C k_Integer_266 dJ6_bitCount_0f7a4_11 ?_
  obtain ⟨x_485248, hx_485248, rx_485248⟩ := ex_andr (x := x_485247) (y := 858993459) (b := 858993459) (rg_w rc_858993459 (by decide) (by decide))
  refine g_iand C (v := x_485248) dJ6_bitCount_0f7a4_14 hx_485248 ?_
  refine g_iload_n C 0 dJ6_bitCount_0f7a4_15 rfl rfl ?_
  refine g_iconst C (v := 2) dJ6_bitCount_0f7a4_16 (by decide) ?_
  obtain ⟨x_485249, hx_485249, rx_485249⟩ := ex_any (z0 := (Int32.toUInt32 (x_485247) >>> (Int32.toUInt32 (2) &&& Int32.toUInt32 31)).toInt32)
  refine g_iushr C (v := x_485249) dJ6_bitCount_0f7a4_17 hx_485249 ?_
  refine g_ldcw C k_Integer_266 dJ6_bitCount_0f7a4_18 ?_
  obtain ⟨x_485250, hx_485250, rx_485250⟩ := ex_andr (x := x_485249) (y := 858993459) (b := 858993459) (rg_w rc_858993459 (by decide) (by decide))
  refine g_iand C (v := x_485250) dJ6_bitCount_0f7a4_21 hx_485250 ?_
  obtain ⟨x_485251, hx_485251, rx_485251, tx_485251⟩ := ex_add 0 1717986918 rx_485248 rx_485250 (by decide) (by decide) (by decide) (by decide)
  refine g_iadd C (v := x_485251) dJ6_bitCount_0f7a4_22 hx_485251 ?_
  refine g_istore_n C dJ6_bitCount_0f7a4_23 rfl (by decide) (lo2 := [(0, .int x_485251)]) rfl ?_
  refine g_iload_n C 0 dJ6_bitCount_0f7a4_24 rfl rfl ?_
  refine g_iload_n C 0 dJ6_bitCount_0f7a4_25 rfl rfl ?_
  refine g_iconst C (v := 4) dJ6_bitCount_0f7a4_26 (by decide) ?_
  obtain ⟨x_485252, hx_485252, rx_485252⟩ := ex_any (z0 := (Int32.toUInt32 (x_485251) >>> (Int32.toUInt32 (4) &&& Int32.toUInt32 31)).toInt32)
  refine g_iushr C (v := x_485252) dJ6_bitCount_0f7a4_27 hx_485252 ?_
  obtain ⟨x_485253, hx_485253, rx_485253⟩ := ex_any (z0 := x_485251 + x_485252)
  refine g_iadd C (v := x_485253) dJ6_bitCount_0f7a4_28 hx_485253 ?_
  refine g_ldcw C k_Integer_267 dJ6_bitCount_0f7a4_29 ?_
  obtain ⟨x_485254, hx_485254, rx_485254⟩ := ex_andr (x := x_485253) (y := 252645135) (b := 252645135) (rg_w rc_252645135 (by decide) (by decide))
  refine g_iand C (v := x_485254) dJ6_bitCount_0f7a4_32 hx_485254 ?_
  refine g_istore_n C dJ6_bitCount_0f7a4_33 rfl (by decide) (lo2 := [(0, .int x_485254)]) rfl ?_
  refine g_iload_n C 0 dJ6_bitCount_0f7a4_34 rfl rfl ?_
  refine g_iload_n C 0 dJ6_bitCount_0f7a4_35 rfl rfl ?_
  refine g_bipush C (v := 8) dJ6_bitCount_0f7a4_36 (by decide) ?_
  obtain ⟨x_485255, hx_485255, rx_485255⟩ := ex_ushr8 (x := x_485254)
  refine g_iushr C (v := x_485255) dJ6_bitCount_0f7a4_38 hx_485255 ?_
  obtain ⟨x_485256, hx_485256, rx_485256, tx_485256⟩ := ex_add 0 269422350 rx_485254 rx_485255 (by decide) (by decide) (by decide) (by decide)
  refine g_iadd C (v := x_485256) dJ6_bitCount_0f7a4_39 hx_485256 ?_
  refine g_istore_n C dJ6_bitCount_0f7a4_40 rfl (by decide) (lo2 := [(0, .int x_485256)]) rfl ?_
  refine g_iload_n C 0 dJ6_bitCount_0f7a4_41 rfl rfl ?_
  refine g_iload_n C 0 dJ6_bitCount_0f7a4_42 rfl rfl ?_
  refine g_bipush C (v := 16) dJ6_bitCount_0f7a4_43 (by decide) ?_
  obtain ⟨x_485257, hx_485257, rx_485257⟩ := ex_any (z0 := (Int32.toUInt32 (x_485256) >>> (Int32.toUInt32 (16) &&& Int32.toUInt32 31)).toInt32)
  refine g_iushr C (v := x_485257) dJ6_bitCount_0f7a4_45 hx_485257 ?_
  obtain ⟨x_485258, hx_485258, rx_485258⟩ := ex_any (z0 := x_485256 + x_485257)
  refine g_iadd C (v := x_485258) dJ6_bitCount_0f7a4_46 hx_485258 ?_
  refine g_istore_n C dJ6_bitCount_0f7a4_47 rfl (by decide) (lo2 := [(0, .int x_485258)]) rfl ?_
  refine g_iload_n C 0 dJ6_bitCount_0f7a4_48 rfl rfl ?_
  refine g_bipush C (v := 63) dJ6_bitCount_0f7a4_49 (by decide) ?_
  obtain ⟨x_485259, hx_485259, rx_485259⟩ := ex_andr (x := x_485258) (y := 63) (b := 63) (rg_w rc_63 (by decide) (by decide))
  refine g_iand C (v := x_485259) dJ6_bitCount_0f7a4_51 hx_485259 ?_
  exact g_zret (ty := .int) (r := x_485259) B K rfl (rfl) ⟨rfl, rfl, rx_485259, (by subst_vars; rfl)⟩ dJ6_bitCount_0f7a4_52
set_option maxRecDepth 100000 in
set_option maxHeartbeats 8000000 in
theorem c_X1_living {l : Launch} {D : va_G} {cy : Nat → ClassId} {L : List Nat} {κ ln : Nat → Nat} {R : Nat → Nat → Option Nat} {I : Nat → Nat → Int32} {J : Nat → Nat → Int64} {ow : Nat → Nat × Nat} (W9 : ∀ a ∈ L, Shp L κ ln R ow a) {x : Nat} (hLx : x ∈ L) (hkx : κ x = 1) (hU : Iv L κ R ow I) : CtI l yX1_living cX1_living 1 (some .int) { frames := 1, cells := 0, slots := 0, locals := 20 } D cy L κ ln R I J [.ref x] (fun r I2 J2 => I = I2 ∧ J = J2 ∧ Rg 0 127 r) := by
  refine CtI.of (by decide +kernel) (Nat.le_of_ble_eq_true rfl) ?_
  intro p e s m below meth c B K
  have C := B.1
  obtain ⟨b_485276, hb_485276, hb_485276L, hb_485276k⟩ := shp_o (W9 x hLx) hkx 0 8 rfl (by decide)
  refine g_lo (is := [0]) (lo2 := [(0, .ref x)]) rfl ?_
  refine g_aload_n C 0 dX1_living_0 rfl rfl ?_
  refine g_getR C K hLx hkx f_1_52 hb_485276 dX1_living_1 ?_
  refine g_callVI C K (c_X8_everybody W9 hb_485276L hb_485276k   hU) hb_485276L hb_485276k (by decide) rfl v_1_62 rfl ⟨rfl, rfl⟩ ⟨Nat.le_of_ble_eq_true rfl, Nat.le_of_ble_eq_true rfl⟩ (Nat.le_of_ble_eq_true rfl) ⟨Nat.le_of_ble_eq_true rfl, Nat.le_of_ble_eq_true rfl⟩ dX1_living_4 rfl (st := []) (fun x_485277 I_485278 J_485279 h_485280 => ?_)
  obtain ⟨rfl, rfl, rx_485277⟩ := h_485280
  refine g_aload_n C 0 dX1_living_7 rfl rfl ?_
  obtain ⟨x_485281, hx_485281, rx_485281⟩ := ex_get (I := I) (a := x) (j := 7) (lo := (-2147483648)) (hi := 2147483647) hU.1 hLx (ro_o hkx (by decide)) rfl
  refine g_getI C K hLx hkx f_1_30 (v := x_485281) hx_485281 dX1_living_8 ?_
  refine g_iconst C (v := (-1)) dX1_living_11 (by decide) ?_
  obtain ⟨x_485282, hx_485282, rx_485282⟩ := ex_any (z0 := x_485281 ^^^ (-1))
  refine g_ixor C (v := x_485282) dX1_living_12 hx_485282 ?_
  obtain ⟨x_485283, hx_485283, rx_485283⟩ := ex_andl (x := x_485277) (y := x_485282) (b := 127) (rx_485277)
  refine g_iand C (v := x_485283) dX1_living_13 hx_485283 ?_
  exact g_zret (ty := .int) (r := x_485283) B K rfl (rfl) ⟨rfl, rfl, rx_485283⟩ dX1_living_14
set_option maxRecDepth 100000 in
set_option maxHeartbeats 8000000 in
theorem c_X1_eatAll {l : Launch} {D : va_G} {cy : Nat → ClassId} {L : List Nat} {κ ln : Nat → Nat} {R : Nat → Nat → Option Nat} {I : Nat → Nat → Int32} {J : Nat → Nat → Int64} {ow : Nat → Nat × Nat} (W9 : ∀ a ∈ L, Shp L κ ln R ow a) {x : Nat} (hLx : x ∈ L) (hkx : κ x = 1) (a0 : Int32) (ra0 : Rg 0 6 a0) (hU : Iv L κ R ow I) : CtV l yX1_eatAll cX1_eatAll 3 none { frames := 2, cells := 0, slots := 0, locals := 60 } D cy L κ ln R I J [.ref x, .int a0] (fun I2 J2 => Iv L κ R ow I2 ∧ Fq L κ ow [16200, 16300, 16400, 16500] I I2 ∧ Fq L κ ow [] J J2) := by
  refine CtV.of (by decide +kernel) (Nat.le_of_ble_eq_true rfl) ?_
  intro p e s m below meth c B K
  have C := B.1
  have hF : Fq L κ ow [16200, 16300, 16400, 16500] I I := fq_rf
  have hG : Fq L κ ow [] J J := fq_rf
  obtain ⟨b_485444, hb_485444, hb_485444L, hb_485444k⟩ := shp_o (W9 x hLx) hkx 0 8 rfl (by decide)
  refine g_lo (is := [0, 1]) (lo2 := [(0, .ref x), (1, .int a0)]) rfl ?_
  have l_2 : ∀ (n_2 : Nat) (I_485445 : Nat → Nat → Int32) (J_485446 : Nat → Nat → Int64) (hU_485447 : Iv L κ R ow I_485445) (hF_485448 : Fq L κ ow [16200, 16300, 16400, 16500] I I_485445) (hG_485449 : Fq L κ ow [] J J_485446) (v_485450 : Int32) (rv_485450 : Rg 0 6 v_485450) (v_485451 : Int32) (rv_485451 : Rg 0 6 v_485451) (hm_485452 : 6 < (v_485451 : Int32).toInt + (n_2 : Int)), WG p l e { frames := 2, cells := 0, slots := 0, locals := 60 } s m ([.ref x, .int a0] : List Value).toArray below meth c 3 0 0 (MQ below (Qv_ D cy L κ ln R (fun I2 J2 => Iv L κ R ow I2 ∧ Fq L κ ow [16200, 16300, 16400, 16500] I I2 ∧ Fq L κ ow [] J J2)) ([.ref x, .int a0] : List Value).toArray s 0 0 (Al_ L)) D cy (Al_ L) s.heap L κ ln R I_485445 J_485446 2 [(0, .ref x), (1, .int v_485450), (2, .int v_485451)] [] := by
    intro n_2
    induction n_2 with
    | zero =>
      intro I_485445 J_485446 hU_485447 hF_485448 hG_485449 v_485450 rv_485450 v_485451 rv_485451 hm_485452
      exact ms_0 rv_485451 hm_485452
    | succ n_2 ih_2 =>
      intro I_485445 J_485446 hU_485447 hF_485448 hG_485449 v_485450 rv_485450 v_485451 rv_485451 hm_485452
      refine g_iload_n C 2 dX1_eatAll_2 rfl rfl ?_
      refine g_aload_n C 0 dX1_eatAll_3 rfl rfl ?_
      refine g_getR C K hLx hkx f_1_52 hb_485444 dX1_eatAll_4 ?_
      obtain ⟨x_485453, hx_485453, rx_485453⟩ := ex_get (I := I_485445) (a := b_485444) (j := 6) (lo := 0) (hi := 6) hU_485447.1 hb_485444L (ro_o hb_485444k (by decide)) rfl
      refine g_getI C K hb_485444L hb_485444k f_1_97 (v := x_485453) hx_485453 dX1_eatAll_7 ?_
      refine g_icmp_ge C (tgt := 39) dX1_eatAll_10 (by decide) (fun h_485454 => ?_) (fun h_485454 => ?_)
      · skip
        exact g_vret B K rfl ⟨hU_485447, hF_485448, hG_485449⟩ dX1_eatAll_39
      · skip
        have r_485455 := lt_l (hi := 5) (nle h_485454) rv_485451 rx_485453 (by decide)
        have r_485456 := lt_r (lo := 1) (nle h_485454) rv_485451 rx_485453 (by decide)
        refine g_aload_n C 0 dX1_eatAll_13 rfl rfl ?_
        refine g_iload_n C 1 dX1_eatAll_14 rfl rfl ?_
        refine g_iload_n C 2 dX1_eatAll_15 rfl rfl ?_
        refine g_aload_n C 0 dX1_eatAll_16 rfl rfl ?_
        refine g_iload_n C 1 dX1_eatAll_17 rfl rfl ?_
        refine g_iload_n C 2 dX1_eatAll_18 rfl rfl ?_
        refine g_callVI C K (c_X1_onPlate W9 hLx hkx v_485450 v_485451 (rv_485450) (r_485455) hU_485447) hLx hkx (by decide) rfl v_1_71 rfl ⟨rfl, rfl⟩ ⟨Nat.le_of_ble_eq_true rfl, Nat.le_of_ble_eq_true rfl⟩ (Nat.le_of_ble_eq_true rfl) ⟨Nat.le_of_ble_eq_true rfl, Nat.le_of_ble_eq_true rfl⟩ dX1_eatAll_19 rfl (st := [.int v_485451, .int v_485450, .ref x]) (fun x_485457 I_485458 J_485459 h_485460 => ?_)
        obtain ⟨rfl, rfl, rx_485457⟩ := h_485460
        refine g_aload_n C 0 dX1_eatAll_22 rfl rfl ?_
        refine g_iload_n C 1 dX1_eatAll_23 rfl rfl ?_
        refine g_callVI C K (c_X1_wantsYet W9 hLx hkx v_485450 (rv_485450) hU_485447) hLx hkx (by decide) rfl v_1_109 rfl ⟨rfl, rfl⟩ ⟨Nat.le_of_ble_eq_true rfl, Nat.le_of_ble_eq_true rfl⟩ (Nat.le_of_ble_eq_true rfl) ⟨Nat.le_of_ble_eq_true rfl, Nat.le_of_ble_eq_true rfl⟩ dX1_eatAll_24 rfl (st := [.int x_485457, .int v_485451, .int v_485450, .ref x]) (fun x_485461 I_485462 J_485463 h_485464 => ?_)
        obtain ⟨rfl, rfl, rx_485461⟩ := h_485464
        obtain ⟨x_485465, hx_485465, rx_485465⟩ := ex_min (-2147483648) 2147483647 rx_485457 rx_485461 (by decide) (by decide) (by decide)
        refine g_mmin C (v := x_485465) mw_1_100 w_min (Nat.le_of_ble_eq_true rfl) (Nat.le_of_ble_eq_true rfl) ⟨Nat.le_of_ble_eq_true rfl, Nat.le_of_ble_eq_true rfl⟩ (hx_485465) dX1_eatAll_27 ?_
        refine g_callVV C K (c_X1_eatUp W9 hLx hkx v_485450 v_485451 x_485465 (rv_485450) (r_485455) hU_485447) hLx hkx (by decide) rfl v_1_112 rfl ⟨rfl, rfl⟩ ⟨Nat.le_of_ble_eq_true rfl, Nat.le_of_ble_eq_true rfl⟩ (Nat.le_of_ble_eq_true rfl) ⟨Nat.le_of_ble_eq_true rfl, Nat.le_of_ble_eq_true rfl⟩ dX1_eatAll_30 rfl (st := []) (fun I_485467 J_485468 h_485469 => ?_)
        obtain ⟨hUI_485467, hFI_485467, hGJ_485468⟩ := h_485469
        have hF_485470 := fq_tr hF_485448 hFI_485467 (by decide)
        have hG_485471 := fq_tr hG_485449 hGJ_485468 (by decide)
        obtain ⟨x_485472, hx_485472, rx_485472, tx_485472⟩ := ex_add (y := 1) 1 6 r_485455 rc_1 (by decide) (by decide) (by decide) (by decide)
        refine g_iinc C dX1_eatAll_33 (k := 2) (v := x_485472) rfl hx_485472 (by decide) (lo2 := [(2, .int x_485472), (0, .ref x), (1, .int v_485450)]) rfl ?_
        refine g_goto C (tgt := 2) dX1_eatAll_36 (by decide) ?_
        refine g_lo (is := [1, 2, 0]) (lo2 := [(0, .ref x), (1, .int v_485450), (2, .int x_485472)]) rfl ?_
        exact ih_2 I_485467 J_485468 hUI_485467 hF_485470 hG_485471 v_485450 (rv_485450) x_485472 (rg_w rx_485472 (by decide) (by decide)) (ms_1 hm_485452 (ti_k tx_485472 rc_1) (by decide))
  refine g_iconst C (v := 0) dX1_eatAll_0 (by decide) ?_
  refine g_istore_n C dX1_eatAll_1 rfl (by decide) (lo2 := [(2, .int 0), (0, .ref x), (1, .int a0)]) rfl ?_
  refine g_lo (is := [1, 2, 0]) (lo2 := [(0, .ref x), (1, .int a0), (2, .int 0)]) rfl ?_
  exact l_2 7 I J hU hF hG a0 (ra0) 0 (rg_w rc_0 (by decide) (by decide)) (ms_s (a := 0) (b := 6) (N := 7) (rg_w rc_0 (by decide) (by decide)) (by decide))
set_option maxRecDepth 100000 in
set_option maxHeartbeats 8000000 in
theorem c_X4_atLeastWanted {l : Launch} {D : va_G} {cy : Nat → ClassId} {L : List Nat} {κ ln : Nat → Nat} {R : Nat → Nat → Option Nat} {I : Nat → Nat → Int32} {J : Nat → Nat → Int64} {ow : Nat → Nat × Nat} (W9 : ∀ a ∈ L, Shp L κ ln R ow a) {a0 : Nat} (hLa0 : a0 ∈ L) (hka0 : κ a0 = 1) (a1 : Int32) (ra1 : Rg 0 127 a1) (hU : Iv L κ R ow I) : CtI l yX4_atLeastWanted cX4_atLeastWanted 4 (some .int) { frames := 1, cells := 0, slots := 0, locals := 60 } D cy L κ ln R I J [.ref a0, .int a1] (fun r I2 J2 => I = I2 ∧ J = J2 ∧ Rg 0 2147483647 r) := by
  refine CtI.of (by decide +kernel) (Nat.le_of_ble_eq_true rfl) ?_
  intro p e s m below meth c B K
  have C := B.1
  obtain ⟨b_485643, hb_485643, hb_485643L, hb_485643k⟩ := shp_o (W9 a0 hLa0) hka0 0 8 rfl (by decide)
  obtain ⟨b_485644, hb_485644, hb_485644L, hb_485644k, hb_485644n, hb_485644o⟩ := shp_a (W9 a0 hLa0) hka0 3 14 7 rfl (by decide)
  refine g_lo (is := [0, 1]) (lo2 := [(0, .ref a0), (1, .int a1)]) rfl ?_
  have l_4 : ∀ (n_4 : Nat) (v_485645 : Int32) (rv_485645 : Rg 0 127 v_485645) (v_485646 : Int32) (v_485647 : Int32) (rv_485647 : Rg 0 7 v_485647) (hm_485648 : 7 < (v_485647 : Int32).toInt + (n_4 : Int)), WG p l e { frames := 1, cells := 0, slots := 0, locals := 60 } s m ([.ref a0, .int a1] : List Value).toArray below meth c 4 0 0 (MQ below (Qi_ D cy L κ ln R (fun r I2 J2 => I = I2 ∧ J = J2 ∧ Rg 0 2147483647 r)) ([.ref a0, .int a1] : List Value).toArray s 0 0 (Al_ L)) D cy (Al_ L) s.heap L κ ln R I J 4 [(0, .ref a0), (1, .int v_485645), (2, .int v_485646), (3, .int v_485647)] [] := by
    intro n_4
    induction n_4 with
    | zero =>
      intro v_485645 rv_485645 v_485646 v_485647 rv_485647 hm_485648
      exact ms_0 rv_485647 hm_485648
    | succ n_4 ih_4 =>
      intro v_485645 rv_485645 v_485646 v_485647 rv_485647 hm_485648
      have j_38 : ∀ (v_485649 : Int32) (rv_485649 : Rg 0 127 v_485649) (v_485650 : Int32) (v_485651 : Int32) (rv_485651 : Rg 0 6 v_485651) (v_485652 : Int32) (rv_485652 : Rg 1 7 v_485652) (q_485653 : I b_485643 5 = v_485652) (hm_485654 : 7 < (v_485651 : Int32).toInt + ((n_4 + 1 : Nat) : Int)), WG p l e { frames := 1, cells := 0, slots := 0, locals := 60 } s m ([.ref a0, .int a1] : List Value).toArray below meth c 4 0 0 (MQ below (Qi_ D cy L κ ln R (fun r I2 J2 => I = I2 ∧ J = J2 ∧ Rg 0 2147483647 r)) ([.ref a0, .int a1] : List Value).toArray s 0 0 (Al_ L)) D cy (Al_ L) s.heap L κ ln R I J 38 [(0, .ref a0), (1, .int v_485649), (2, .int v_485650), (3, .int v_485651)] [] := by
        intro v_485649 rv_485649 v_485650 v_485651 rv_485651 v_485652 rv_485652 q_485653 hm_485654
        obtain ⟨x_485655, hx_485655, rx_485655, tx_485655⟩ := ex_add (y := 1) 1 7 rv_485651 rc_1 (by decide) (by decide) (by decide) (by decide)
        refine g_iinc C dX4_atLeastWanted_38 (k := 3) (v := x_485655) rfl hx_485655 (by decide) (lo2 := [(3, .int x_485655), (0, .ref a0), (1, .int v_485649), (2, .int v_485650)]) rfl ?_
        refine g_goto C (tgt := 4) dX4_atLeastWanted_41 (by decide) ?_
        refine g_lo (is := [1, 2, 3, 0]) (lo2 := [(0, .ref a0), (1, .int v_485649), (2, .int v_485650), (3, .int x_485655)]) rfl ?_
        exact ih_4 v_485649 (rv_485649) v_485650 x_485655 (rg_w rx_485655 (by decide) (by decide)) (ms_1 hm_485654 (ti_k tx_485655 rc_1) (by decide))
      refine g_iload_n C 3 dX4_atLeastWanted_4 rfl rfl ?_
      refine g_aload_n C 0 dX4_atLeastWanted_5 rfl rfl ?_
      refine g_getR C K hLa0 hka0 f_4_72 hb_485643 dX4_atLeastWanted_6 ?_
      obtain ⟨x_485656, hx_485656, rx_485656⟩ := ex_get (I := I) (a := b_485643) (j := 5) (lo := 0) (hi := 7) hU.1 hb_485643L (ro_o hb_485643k (by decide)) rfl
      refine g_getI C K hb_485643L hb_485643k f_4_76 (v := x_485656) hx_485656 dX4_atLeastWanted_9 ?_
      refine g_icmp_ge C (tgt := 44) dX4_atLeastWanted_12 (by decide) (fun h_485657 => ?_) (fun h_485657 => ?_)
      · skip
        refine g_iload_n C 2 dX4_atLeastWanted_44 rfl rfl ?_
        refine g_iconst C (v := 0) dX4_atLeastWanted_45 (by decide) ?_
        obtain ⟨x_485658, hx_485658, rx_485658⟩ := ex_max 0 2147483647 (rg_all v_485646) rc_0 (by decide) (by decide) (by decide)
        refine g_mmax C (v := x_485658) mw_4_84 w_max (Nat.le_of_ble_eq_true rfl) (Nat.le_of_ble_eq_true rfl) ⟨Nat.le_of_ble_eq_true rfl, Nat.le_of_ble_eq_true rfl⟩ (hx_485658) dX4_atLeastWanted_46 ?_
        exact g_zret (ty := .int) (r := x_485658) B K rfl (rfl) ⟨rfl, rfl, rx_485658⟩ dX4_atLeastWanted_49
      · skip
        have r_485659 := lt_l (hi := 6) (nle h_485657) rv_485647 rx_485656 (by decide)
        have r_485660 := lt_r (lo := 1) (nle h_485657) rv_485647 rx_485656 (by decide)
        refine g_iload_n C 1 dX4_atLeastWanted_15 rfl rfl ?_
        refine g_iload_n C 3 dX4_atLeastWanted_16 rfl rfl ?_
        obtain ⟨x_485661, hx_485661, rx_485661⟩ := ex_shr (x := v_485645) (y := v_485647) (b := 127) (rv_485645)
        refine g_ishr C (v := x_485661) dX4_atLeastWanted_17 hx_485661 ?_
        refine g_iconst C (v := 1) dX4_atLeastWanted_18 (by decide) ?_
        obtain ⟨x_485662, hx_485662, rx_485662⟩ := ex_andr (x := x_485661) (y := 1) (b := 1) (rg_w rc_1 (by decide) (by decide))
        refine g_iand C (v := x_485662) dX4_atLeastWanted_19 hx_485662 ?_
        refine g_if_eq C (tgt := 38) dX4_atLeastWanted_20 (by decide) (fun h_485663 => ?_) (fun h_485663 => ?_)
        · skip
          have r_485664 := (⟨(rx_485662).1, (eq_rg (h_485663) rc_0).2⟩ : Rg 0 0 x_485662)
          refine g_lo (is := [0, 1, 2, 3]) (lo2 := [(0, .ref a0), (1, .int v_485645), (2, .int v_485646), (3, .int v_485647)]) rfl ?_
          exact j_38 v_485645 (rv_485645) v_485646 v_485647 (r_485659) x_485656 (r_485660) hx_485656 hm_485648
        · skip
          have n_485665 : ¬ x_485662 = 0 := h_485663
          have r_485666 := ne_lo (lo := 1) n_485665 rx_485662 rc_0 rfl (by decide)
          refine g_iload_n C 2 dX4_atLeastWanted_23 rfl rfl ?_
          refine g_aload_n C 0 dX4_atLeastWanted_24 rfl rfl ?_
          refine g_iload_n C 3 dX4_atLeastWanted_25 rfl rfl ?_
          refine g_callVI C K (c_X1_wantsYet W9 hLa0 hka0 v_485647 (r_485659) hU) hLa0 hka0 (by decide) rfl v_4_65 rfl ⟨rfl, rfl⟩ ⟨Nat.le_of_ble_eq_true rfl, Nat.le_of_ble_eq_true rfl⟩ (Nat.le_of_ble_eq_true rfl) ⟨Nat.le_of_ble_eq_true rfl, Nat.le_of_ble_eq_true rfl⟩ dX4_atLeastWanted_26 rfl (st := [.int v_485646]) (fun x_485667 I_485668 J_485669 h_485670 => ?_)
          obtain ⟨rfl, rfl, rx_485667⟩ := h_485670
          refine g_aload_n C 0 dX4_atLeastWanted_29 rfl rfl ?_
          refine g_getR C K hLa0 hka0 f_4_81 hb_485644 dX4_atLeastWanted_30 ?_
          refine g_iload_n C 3 dX4_atLeastWanted_33 rfl rfl ?_
          obtain ⟨x_485671, hx_485671, rx_485671⟩ := ex_get (I := I) (a := b_485644) (j := v_485647.toNatClampNeg) (lo := (-2147483648)) (hi := 2147483647) hU.1 hb_485644L (ro_a hb_485644k (by decide) hb_485644o hka0 rfl) (rfl)
          refine h_iald C K hb_485644L hb_485644k (v := x_485671) (v_485647.toNatClampNeg) (rfl) (ix_0 r_485659 (by decide)) (ix_lt r_485659 (by decide) hb_485644n (by decide)) hx_485671 dX4_atLeastWanted_34 ?_
          obtain ⟨x_485672, hx_485672, rx_485672⟩ := ex_any (z0 := x_485667 - x_485671)
          refine g_isub C (v := x_485672) dX4_atLeastWanted_35 hx_485672 ?_
          obtain ⟨x_485673, hx_485673, rx_485673⟩ := ex_any (z0 := v_485646 + x_485672)
          refine g_iadd C (v := x_485673) dX4_atLeastWanted_36 hx_485673 ?_
          refine g_istore_n C dX4_atLeastWanted_37 rfl (by decide) (lo2 := [(2, .int x_485673), (0, .ref a0), (1, .int v_485645), (3, .int v_485647)]) rfl ?_
          refine g_lo (is := [1, 2, 0, 3]) (lo2 := [(0, .ref a0), (1, .int v_485645), (2, .int x_485673), (3, .int v_485647)]) rfl ?_
          exact j_38 v_485645 (rv_485645) x_485673 v_485647 (r_485659) x_485656 (r_485660) hx_485656 hm_485648
  refine g_iconst C (v := 0) dX4_atLeastWanted_0 (by decide) ?_
  refine g_istore_n C dX4_atLeastWanted_1 rfl (by decide) (lo2 := [(2, .int 0), (0, .ref a0), (1, .int a1)]) rfl ?_
  refine g_iconst C (v := 0) dX4_atLeastWanted_2 (by decide) ?_
  refine g_istore_n C dX4_atLeastWanted_3 rfl (by decide) (lo2 := [(3, .int 0), (2, .int 0), (0, .ref a0), (1, .int a1)]) rfl ?_
  refine g_lo (is := [2, 3, 1, 0]) (lo2 := [(0, .ref a0), (1, .int a1), (2, .int 0), (3, .int 0)]) rfl ?_
  exact l_4 8 a1 (ra1) 0 0 (rg_w rc_0 (by decide) (by decide)) (ms_s (a := 0) (b := 7) (N := 8) (rg_w rc_0 (by decide) (by decide)) (by decide))
set_option maxRecDepth 100000 in
set_option maxHeartbeats 8000000 in
theorem c_X4_goOn_7 {l : Launch} {D : va_G} {cy : Nat → ClassId} {L : List Nat} {κ ln : Nat → Nat} {R : Nat → Nat → Option Nat} {I : Nat → Nat → Int32} {J : Nat → Nat → Int64} {ow : Nat → Nat × Nat} (W9 : ∀ a ∈ L, Shp L κ ln R ow a) {x : Nat} (hLx : x ∈ L) (hkx : κ x = 4) (a0 : Int32) (a1 : Int32) (a2 : Int32) (ra0 : Rg 7 7 a0) (ra1 : Rg 0 127 a1) (hU : Iv L κ R ow I) : CtV l yX4_goOn cX4_goOn 9 none { frames := 1, cells := 0, slots := 0, locals := 60 } D cy L κ ln R I J [.ref x, .int a0, .int a1, .int a2] (fun I2 J2 => Iv L κ R ow I2 ∧ Fq L κ ow [404, 34200] I I2 ∧ Fq L κ ow [] J J2) := by
  refine CtV.of (by decide +kernel) (Nat.le_of_ble_eq_true rfl) ?_
  intro p e s m below meth c B K
  have C := B.1
  have hF : Fq L κ ow [404, 34200] I I := fq_rf
  have hG : Fq L κ ow [] J J := fq_rf
  obtain ⟨b_485702, hb_485702, hb_485702L, hb_485702k, hb_485702n, hb_485702o⟩ := shp_a (W9 x hLx) hkx 1 14 7 rfl (by decide)
  obtain ⟨b_485703, hb_485703, hb_485703L, hb_485703k, hb_485703n, hb_485703o⟩ := shp_a (W9 x hLx) hkx 2 14 7 rfl (by decide)
  refine g_lo (is := [0, 1, 2, 3]) (lo2 := [(0, .ref x), (1, .int a0), (2, .int a1), (3, .int a2)]) rfl ?_
  have j_10 : ∀ (I_485704 : Nat → Nat → Int32) (J_485705 : Nat → Nat → Int64) (hU_485706 : Iv L κ R ow I_485704) (hF_485707 : Fq L κ ow [404, 34200] I I_485704) (hG_485708 : Fq L κ ow [] J J_485705) (v_485709 : Int32) (rv_485709 : Rg 7 7 v_485709) (v_485710 : Int32) (rv_485710 : Rg 0 127 v_485710) (v_485711 : Int32), WG p l e { frames := 1, cells := 0, slots := 0, locals := 60 } s m ([.ref x, .int a0, .int a1, .int a2] : List Value).toArray below meth c 9 0 0 (MQ below (Qv_ D cy L κ ln R (fun I2 J2 => Iv L κ R ow I2 ∧ Fq L κ ow [404, 34200] I I2 ∧ Fq L κ ow [] J J2)) ([.ref x, .int a0, .int a1, .int a2] : List Value).toArray s 0 0 (Al_ L)) D cy (Al_ L) s.heap L κ ln R I_485704 J_485705 10 [(0, .ref x), (1, .int v_485709), (2, .int v_485710), (3, .int v_485711)] [] := by
    intro I_485704 J_485705 hU_485706 hF_485707 hG_485708 v_485709 rv_485709 v_485710 rv_485710 v_485711
    refine g_aload_n C 0 dX4_goOn_10 rfl rfl ?_
    refine g_iload_n C 3 dX4_goOn_11 rfl rfl ?_
    refine h_putI C K hLx hkx f_4_28 p_4_4 dX4_goOn_12 (fun I_485712 hI_485712 => ?_)
    have hU_485713 := iv_put W9 hU_485706 hI_485712 (ro_o hkx (by decide)) (lo := (-2147483648)) (hi := 2147483647) (rfl) ((rg_all v_485711)) rfl
    have hF_485714 := fq_puto hF_485707 hI_485712 hkx (by decide) (by decide)
    refine g_aload_n C 0 dX4_goOn_15 rfl rfl ?_
    refine g_getR C K hLx hkx f_4_17 hb_485702 dX4_goOn_16 ?_
    refine g_iconst C (v := 0) dX4_goOn_19 (by decide) ?_
    refine g_aload_n C 0 dX4_goOn_20 rfl rfl ?_
    refine g_getR C K hLx hkx f_4_21 hb_485703 dX4_goOn_21 ?_
    refine g_iconst C (v := 0) dX4_goOn_24 (by decide) ?_
    refine g_bipush C (v := 7) dX4_goOn_25 (by decide) ?_
    refine h_copyI C K hb_485703L hb_485703k hb_485702L hb_485702k ac_4_52 7 (by decide) (by decide) (by rw [hb_485702n]; decide) (by rw [hb_485703n]; decide) w_cp (Nat.le_of_ble_eq_true rfl) (Nat.le_of_ble_eq_true rfl) dX4_goOn_27 (fun I_485715 hI_485715 => ?_)
    have hU_485716 := iv_cp W9 hU_485713 (uv_cpf hU_485713.1 hI_485715 (ro_a hb_485703k (by decide) hb_485703o hkx rfl) (fun _ => rfl)) hI_485715 (ro_a hb_485703k (by decide) hb_485703o hkx rfl) rfl
    have hF_485717 := fq_cp hF_485714 hI_485715 (ro_a hb_485703k (by decide) hb_485703o hkx rfl) (by decide) (by decide)
    exact g_vret B K rfl ⟨hU_485716, hF_485717, hG_485708⟩ dX4_goOn_30
  refine g_iload_n C 2 dX4_goOn_0 rfl rfl ?_
  refine g_if_eq C (tgt := 10) dX4_goOn_1 (by decide) (fun h_485718 => ?_) (fun h_485718 => ?_)
  · skip
    have r_485719 := (⟨(ra1).1, (eq_rg (h_485718) rc_0).2⟩ : Rg 0 0 a1)
    refine g_lo (is := [0, 1, 2, 3]) (lo2 := [(0, .ref x), (1, .int a0), (2, .int a1), (3, .int a2)]) rfl ?_
    exact j_10 I J hU hF hG a0 (ra0) a1 (rg_w r_485719 (by decide) (by decide)) a2
  · skip
    have n_485720 : ¬ a1 = 0 := h_485718
    have r_485721 := ne_lo (lo := 1) n_485720 ra1 rc_0 rfl (by decide)
    refine g_iload_n C 1 dX4_goOn_4 rfl rfl ?_
    refine g_bipush C (v := 7) dX4_goOn_5 (by decide) ?_
    refine g_icmp_lt C (tgt := 31) dX4_goOn_7 (by decide) (fun h_485722 => ?_) (fun h_485722 => ?_)
    · skip
      have r_485723 := lt_l (hi := 6) (h_485722) ra0 rc_7 (by decide)
      exact rg_no r_485723 (by decide)
    · skip
      refine g_lo (is := [0, 1, 2, 3]) (lo2 := [(0, .ref x), (1, .int a0), (2, .int a1), (3, .int a2)]) rfl ?_
      exact j_10 I J hU hF hG a0 (ra0) a1 (rg_w r_485721 (by decide) (by decide)) a2
set_option maxRecDepth 100000 in
set_option maxHeartbeats 8000000 in
theorem c_X4_goOn_6 {l : Launch} {D : va_G} {cy : Nat → ClassId} {L : List Nat} {κ ln : Nat → Nat} {R : Nat → Nat → Option Nat} {I : Nat → Nat → Int32} {J : Nat → Nat → Int64} {ow : Nat → Nat × Nat} (W9 : ∀ a ∈ L, Shp L κ ln R ow a) {x : Nat} (hLx : x ∈ L) (hkx : κ x = 4) (a0 : Int32) (a1 : Int32) (a2 : Int32) (ra0 : Rg 6 6 a0) (ra1 : Rg 0 127 a1) (hU : Iv L κ R ow I) : CtV l yX4_goOn cX4_goOn 9 none { frames := 4, cells := 0, slots := 0, locals := 107 } D cy L κ ln R I J [.ref x, .int a0, .int a1, .int a2] (fun I2 J2 => Iv L κ R ow I2 ∧ Fq L κ ow [107, 108, 109, 110, 111, 112, 404, 16100, 16200, 16300, 16400, 16500, 16600, 34100, 34200] I I2 ∧ Fq L κ ow [] J J2) := by
  refine CtV.of (by decide +kernel) (Nat.le_of_ble_eq_true rfl) ?_
  intro p e s m below meth c B K
  have C := B.1
  have hF : Fq L κ ow [107, 108, 109, 110, 111, 112, 404, 16100, 16200, 16300, 16400, 16500, 16600, 34100, 34200] I I := fq_rf
  have hG : Fq L κ ow [] J J := fq_rf
  obtain ⟨b_486252, hb_486252, hb_486252L, hb_486252k, hb_486252n, hb_486252o⟩ := shp_a (W9 x hLx) hkx 0 17 8 rfl (by decide)
  obtain ⟨b_486253, hb_486253, hb_486253L, hb_486253k, hb_486253n, hb_486253o⟩ := shp_a (W9 x hLx) hkx 1 14 7 rfl (by decide)
  obtain ⟨b_486254, hb_486254, hb_486254L, hb_486254k, hb_486254n, hb_486254o⟩ := shp_a (W9 x hLx) hkx 2 14 7 rfl (by decide)
  refine g_lo (is := [0, 1, 2, 3]) (lo2 := [(0, .ref x), (1, .int a0), (2, .int a1), (3, .int a2)]) rfl ?_
  have j_10 : ∀ (I_486255 : Nat → Nat → Int32) (J_486256 : Nat → Nat → Int64) (hU_486257 : Iv L κ R ow I_486255) (hF_486258 : Fq L κ ow [107, 108, 109, 110, 111, 112, 404, 16100, 16200, 16300, 16400, 16500, 16600, 34100, 34200] I I_486255) (hG_486259 : Fq L κ ow [] J J_486256) (v_486260 : Int32) (rv_486260 : Rg 6 6 v_486260) (v_486261 : Int32) (rv_486261 : Rg 0 0 v_486261) (v_486262 : Int32), WG p l e { frames := 4, cells := 0, slots := 0, locals := 107 } s m ([.ref x, .int a0, .int a1, .int a2] : List Value).toArray below meth c 9 0 0 (MQ below (Qv_ D cy L κ ln R (fun I2 J2 => Iv L κ R ow I2 ∧ Fq L κ ow [107, 108, 109, 110, 111, 112, 404, 16100, 16200, 16300, 16400, 16500, 16600, 34100, 34200] I I2 ∧ Fq L κ ow [] J J2)) ([.ref x, .int a0, .int a1, .int a2] : List Value).toArray s 0 0 (Al_ L)) D cy (Al_ L) s.heap L κ ln R I_486255 J_486256 10 [(0, .ref x), (1, .int v_486260), (2, .int v_486261), (3, .int v_486262)] [] := by
    intro I_486255 J_486256 hU_486257 hF_486258 hG_486259 v_486260 rv_486260 v_486261 rv_486261 v_486262
    refine g_aload_n C 0 dX4_goOn_10 rfl rfl ?_
    refine g_iload_n C 3 dX4_goOn_11 rfl rfl ?_
    refine h_putI C K hLx hkx f_4_28 p_4_4 dX4_goOn_12 (fun I_486263 hI_486263 => ?_)
    have hU_486264 := iv_put W9 hU_486257 hI_486263 (ro_o hkx (by decide)) (lo := (-2147483648)) (hi := 2147483647) (rfl) ((rg_all v_486262)) rfl
    have hF_486265 := fq_puto hF_486258 hI_486263 hkx (by decide) (by decide)
    refine g_aload_n C 0 dX4_goOn_15 rfl rfl ?_
    refine g_getR C K hLx hkx f_4_17 hb_486253 dX4_goOn_16 ?_
    refine g_iconst C (v := 0) dX4_goOn_19 (by decide) ?_
    refine g_aload_n C 0 dX4_goOn_20 rfl rfl ?_
    refine g_getR C K hLx hkx f_4_21 hb_486254 dX4_goOn_21 ?_
    refine g_iconst C (v := 0) dX4_goOn_24 (by decide) ?_
    refine g_bipush C (v := 7) dX4_goOn_25 (by decide) ?_
    refine h_copyI C K hb_486254L hb_486254k hb_486253L hb_486253k ac_4_52 7 (by decide) (by decide) (by rw [hb_486253n]; decide) (by rw [hb_486254n]; decide) w_cp (Nat.le_of_ble_eq_true rfl) (Nat.le_of_ble_eq_true rfl) dX4_goOn_27 (fun I_486266 hI_486266 => ?_)
    have hU_486267 := iv_cp W9 hU_486264 (uv_cpf hU_486264.1 hI_486266 (ro_a hb_486254k (by decide) hb_486254o hkx rfl) (fun _ => rfl)) hI_486266 (ro_a hb_486254k (by decide) hb_486254o hkx rfl) rfl
    have hF_486268 := fq_cp hF_486265 hI_486266 (ro_a hb_486254k (by decide) hb_486254o hkx rfl) (by decide) (by decide)
    exact g_vret B K rfl ⟨hU_486267, hF_486268, hG_486259⟩ dX4_goOn_30
  have l_52 : ∀ (n_52 : Nat) (I_486269 : Nat → Nat → Int32) (J_486270 : Nat → Nat → Int64) (hU_486271 : Iv L κ R ow I_486269) (hF_486272 : Fq L κ ow [107, 108, 109, 110, 111, 112, 404, 16100, 16200, 16300, 16400, 16500, 16600, 34100, 34200] I I_486269) (hG_486273 : Fq L κ ow [] J J_486270) (v_486274 : Int32) (rv_486274 : Rg 6 6 v_486274) (v_486275 : Int32) (rv_486275 : Rg 1 127 v_486275) (nv_486275_0 : ¬ v_486275 = 0) (v_486276 : Int32) {b_486277 : Nat} (hb_486277L : b_486277 ∈ L) (hb_486277k : κ b_486277 = 1) {b_486278 : Nat} (hb_486278L : b_486278 ∈ L) (hb_486278k : κ b_486278 = 1) (v_486279 : Int32) (rv_486279 : Rg 0 7 v_486279) (hm_486280 : 7 < (v_486279 : Int32).toInt + (n_52 : Int)), WG p l e { frames := 4, cells := 0, slots := 0, locals := 107 } s m ([.ref x, .int a0, .int a1, .int a2] : List Value).toArray below meth c 9 0 0 (MQ below (Qv_ D cy L κ ln R (fun I2 J2 => Iv L κ R ow I2 ∧ Fq L κ ow [107, 108, 109, 110, 111, 112, 404, 16100, 16200, 16300, 16400, 16500, 16600, 34100, 34200] I I2 ∧ Fq L κ ow [] J J2)) ([.ref x, .int a0, .int a1, .int a2] : List Value).toArray s 0 0 (Al_ L)) D cy (Al_ L) s.heap L κ ln R I_486269 J_486270 52 [(0, .ref x), (1, .int v_486274), (2, .int v_486275), (3, .int v_486276), (4, .ref b_486277), (5, .ref b_486278), (6, .int v_486279)] [] := by
    intro n_52
    induction n_52 with
    | zero =>
      intro I_486269 J_486270 hU_486271 hF_486272 hG_486273 v_486274 rv_486274 v_486275 rv_486275 nv_486275_0 v_486276 b_486277 hb_486277L hb_486277k b_486278 hb_486278L hb_486278k v_486279 rv_486279 hm_486280
      exact ms_0 rv_486279 hm_486280
    | succ n_52 ih_52 =>
      intro I_486269 J_486270 hU_486271 hF_486272 hG_486273 v_486274 rv_486274 v_486275 rv_486275 nv_486275_0 v_486276 b_486277 hb_486277L hb_486277k b_486278 hb_486278L hb_486278k v_486279 rv_486279 hm_486280
      have j_147 : ∀ (I_486281 : Nat → Nat → Int32) (J_486282 : Nat → Nat → Int64) (hU_486283 : Iv L κ R ow I_486281) (hF_486284 : Fq L κ ow [107, 108, 109, 110, 111, 112, 404, 16100, 16200, 16300, 16400, 16500, 16600, 34100, 34200] I I_486281) (hG_486285 : Fq L κ ow [] J J_486282) (v_486286 : Int32) (rv_486286 : Rg 6 6 v_486286) (v_486287 : Int32) (rv_486287 : Rg 1 127 v_486287) (nv_486287_0 : ¬ v_486287 = 0) (v_486288 : Int32) {b_486289 : Nat} (hb_486289L : b_486289 ∈ L) (hb_486289k : κ b_486289 = 1) {b_486290 : Nat} (hb_486290L : b_486290 ∈ L) (hb_486290k : κ b_486290 = 1) (v_486291 : Int32) (rv_486291 : Rg 0 6 v_486291) (hm_486292 : 7 < (v_486291 : Int32).toInt + ((n_52 + 1 : Nat) : Int)), WG p l e { frames := 4, cells := 0, slots := 0, locals := 107 } s m ([.ref x, .int a0, .int a1, .int a2] : List Value).toArray below meth c 9 0 0 (MQ below (Qv_ D cy L κ ln R (fun I2 J2 => Iv L κ R ow I2 ∧ Fq L κ ow [107, 108, 109, 110, 111, 112, 404, 16100, 16200, 16300, 16400, 16500, 16600, 34100, 34200] I I2 ∧ Fq L κ ow [] J J2)) ([.ref x, .int a0, .int a1, .int a2] : List Value).toArray s 0 0 (Al_ L)) D cy (Al_ L) s.heap L κ ln R I_486281 J_486282 147 [(0, .ref x), (1, .int v_486286), (2, .int v_486287), (3, .int v_486288), (4, .ref b_486289), (5, .ref b_486290), (6, .int v_486291)] [] := by
        intro I_486281 J_486282 hU_486283 hF_486284 hG_486285 v_486286 rv_486286 v_486287 rv_486287 nv_486287_0 v_486288 b_486289 hb_486289L hb_486289k b_486290 hb_486290L hb_486290k v_486291 rv_486291 hm_486292
        obtain ⟨x_486293, hx_486293, rx_486293, tx_486293⟩ := ex_add (y := 1) 1 7 rv_486291 rc_1 (by decide) (by decide) (by decide) (by decide)
        refine g_iinc C dX4_goOn_147 (k := 6) (v := x_486293) rfl hx_486293 (by decide) (lo2 := [(6, .int x_486293), (0, .ref x), (1, .int v_486286), (2, .int v_486287), (3, .int v_486288), (4, .ref b_486289), (5, .ref b_486290)]) rfl ?_
        refine g_goto C (tgt := 52) dX4_goOn_150 (by decide) ?_
        refine g_lo (is := [1, 2, 3, 4, 5, 6, 0]) (lo2 := [(0, .ref x), (1, .int v_486286), (2, .int v_486287), (3, .int v_486288), (4, .ref b_486289), (5, .ref b_486290), (6, .int x_486293)]) rfl ?_
        exact ih_52 I_486281 J_486282 hU_486283 hF_486284 hG_486285 v_486286 (rv_486286) v_486287 (rv_486287) (nv_486287_0) v_486288 hb_486289L hb_486289k hb_486290L hb_486290k x_486293 (rg_w rx_486293 (by decide) (by decide)) (ms_1 hm_486292 (ti_k tx_486293 rc_1) (by decide))
      refine g_iload C 6 dX4_goOn_52 rfl ?_
      refine g_bipush C (v := 7) dX4_goOn_54 (by decide) ?_
      refine g_icmp_ge C (tgt := 153) dX4_goOn_56 (by decide) (fun h_486294 => ?_) (fun h_486294 => ?_)
      · skip
        have r_486295 := le_r (h_486294) rc_7 rv_486279
        exact g_vret B K rfl ⟨hU_486271, hF_486272, hG_486273⟩ dX4_goOn_153
      · skip
        have r_486296 := lt_l (hi := 6) (nle h_486294) rv_486279 rc_7 (by decide)
        refine g_iload_n C 2 dX4_goOn_59 rfl rfl ?_
        refine g_iload C 6 dX4_goOn_60 rfl ?_
        obtain ⟨x_486297, hx_486297, rx_486297⟩ := ex_shr (x := v_486275) (y := v_486279) (b := 127) (rg_w rv_486275 (by decide) (by decide))
        refine g_ishr C (v := x_486297) dX4_goOn_62 hx_486297 ?_
        refine g_iconst C (v := 1) dX4_goOn_63 (by decide) ?_
        obtain ⟨x_486298, hx_486298, rx_486298⟩ := ex_andr (x := x_486297) (y := 1) (b := 1) (rg_w rc_1 (by decide) (by decide))
        refine g_iand C (v := x_486298) dX4_goOn_64 hx_486298 ?_
        refine g_if_eq C (tgt := 147) dX4_goOn_65 (by decide) (fun h_486299 => ?_) (fun h_486299 => ?_)
        · skip
          have r_486300 := (⟨(rx_486298).1, (eq_rg (h_486299) rc_0).2⟩ : Rg 0 0 x_486298)
          refine g_lo (is := [0, 1, 2, 3, 4, 5, 6]) (lo2 := [(0, .ref x), (1, .int v_486274), (2, .int v_486275), (3, .int v_486276), (4, .ref b_486277), (5, .ref b_486278), (6, .int v_486279)]) rfl ?_
          exact j_147 I_486269 J_486270 hU_486271 hF_486272 hG_486273 v_486274 (rv_486274) v_486275 (rv_486275) (nv_486275_0) v_486276 hb_486277L hb_486277k hb_486278L hb_486278k v_486279 (r_486296) hm_486280
        · skip
          have n_486301 : ¬ x_486298 = 0 := h_486299
          have r_486302 := ne_lo (lo := 1) n_486301 rx_486298 rc_0 rfl (by decide)
          refine g_aload C 5 dX4_goOn_68 rfl ?_
          refine g_aload C 4 dX4_goOn_70 rfl ?_
          refine g_callVV C K (c_X1_become W9 hb_486278L hb_486278k hb_486277L hb_486277k  hU_486271) hb_486278L hb_486278k (by decide) rfl v_4_44 rfl ⟨rfl, rfl⟩ ⟨Nat.le_of_ble_eq_true rfl, Nat.le_of_ble_eq_true rfl⟩ (Nat.le_of_ble_eq_true rfl) ⟨Nat.le_of_ble_eq_true rfl, Nat.le_of_ble_eq_true rfl⟩ dX4_goOn_72 rfl (st := []) (fun I_486304 J_486305 h_486306 => ?_)
          obtain ⟨hUI_486304, hFI_486304, hGJ_486305⟩ := h_486306
          have hF_486307 := fq_tr hF_486272 hFI_486304 (by decide)
          have hG_486308 := fq_tr hG_486273 hGJ_486305 (by decide)
          refine g_aload C 5 dX4_goOn_75 rfl ?_
          refine g_iload C 6 dX4_goOn_77 rfl ?_
          refine g_callVV C K (c_X1_eatAll W9 hb_486278L hb_486278k v_486279 (r_486296) hUI_486304) hb_486278L hb_486278k (by decide) rfl v_4_58 rfl ⟨rfl, rfl⟩ ⟨Nat.le_of_ble_eq_true rfl, Nat.le_of_ble_eq_true rfl⟩ (Nat.le_of_ble_eq_true rfl) ⟨Nat.le_of_ble_eq_true rfl, Nat.le_of_ble_eq_true rfl⟩ dX4_goOn_79 rfl (st := []) (fun I_486310 J_486311 h_486312 => ?_)
          obtain ⟨hUI_486310, hFI_486310, hGJ_486311⟩ := h_486312
          have hF_486313 := fq_tr hF_486307 hFI_486310 (by decide)
          have hG_486314 := fq_tr hG_486308 hGJ_486311 (by decide)
          refine g_aload C 5 dX4_goOn_82 rfl ?_
          refine g_iload C 6 dX4_goOn_84 rfl ?_
          refine g_callVI C K (c_X1_tryToRise W9 hb_486278L hb_486278k v_486279 (r_486296) hUI_486310) hb_486278L hb_486278k (by decide) rfl v_4_62 rfl ⟨rfl, rfl⟩ ⟨Nat.le_of_ble_eq_true rfl, Nat.le_of_ble_eq_true rfl⟩ (Nat.le_of_ble_eq_true rfl) ⟨Nat.le_of_ble_eq_true rfl, Nat.le_of_ble_eq_true rfl⟩ dX4_goOn_86 rfl (st := []) (fun x_486315 I_486316 J_486317 h_486318 => ?_)
          obtain ⟨hUI_486316, hFI_486316, hGJ_486317, rx_486315⟩ := h_486318
          have hF_486319 := fq_tr hF_486313 hFI_486316 (by decide)
          have hG_486320 := fq_tr hG_486314 hGJ_486317 (by decide)
          refine g_pop C dX4_goOn_89 rfl ?_
          refine g_aload_n C 0 dX4_goOn_90 rfl rfl ?_
          refine g_getR C K hLx hkx f_4_17 hb_486253 dX4_goOn_91 ?_
          refine g_iload_n C 1 dX4_goOn_94 rfl rfl ?_
          refine g_iload C 6 dX4_goOn_95 rfl ?_
          refine h_iast C K hb_486253L hb_486253k (v_486274.toNatClampNeg) (rfl) (ix_0 rv_486274 (by decide)) (ix_lt rv_486274 (by decide) hb_486253n (by decide)) dX4_goOn_97 (fun I_486321 hI_486321 => ?_)
          have hU_486322 := iv_put W9 hUI_486316 hI_486321 (ro_a hb_486253k (by decide) hb_486253o hkx rfl) (lo := (-2147483648)) (hi := 2147483647) (rfl) (rg_all _) rfl
          have hF_486323 := fq_puta hF_486319 hI_486321 (ro_a hb_486253k (by decide) hb_486253o hkx rfl) (by decide) (by decide)
          refine g_iload_n C 2 dX4_goOn_98 rfl rfl ?_
          refine g_iconst C (v := 1) dX4_goOn_99 (by decide) ?_
          refine g_iload C 6 dX4_goOn_100 rfl ?_
          obtain ⟨x_486324, hx_486324, rx_486324⟩ := ex_shl (x := 1) (y := v_486279) 6 64 rfl (r_486296) (by decide)
          refine g_ishl C (v := x_486324) dX4_goOn_102 hx_486324 ?_
          refine g_iconst C (v := (-1)) dX4_goOn_103 (by decide) ?_
          obtain ⟨x_486325, hx_486325, rx_486325⟩ := ex_any (z0 := x_486324 ^^^ (-1))
          refine g_ixor C (v := x_486325) dX4_goOn_104 hx_486325 ?_
          obtain ⟨x_486326, hx_486326, rx_486326⟩ := ex_andl (x := v_486275) (y := x_486325) (b := 127) (rg_w rv_486275 (by decide) (by decide))
          refine g_iand C (v := x_486326) dX4_goOn_105 hx_486326 ?_
          refine g_istore C dX4_goOn_106 (by decide) (lo2 := [(7, .int x_486326), (0, .ref x), (1, .int v_486274), (2, .int v_486275), (3, .int v_486276), (4, .ref b_486277), (5, .ref b_486278), (6, .int v_486279)]) rfl ?_
          refine g_iload_n C 4 dX4_goOn_108 rfl rfl ?_
          refine g_aload C 6 dX4_goOn_109 rfl ?_
          refine g_iload C 7 dX4_goOn_111 rfl ?_
          refine g_callVI C K (c_X1_wantsYet W9 hb_486278L hb_486278k v_486279 (r_486296) hU_486322) hb_486278L hb_486278k (by decide) rfl v_4_65 rfl ⟨rfl, rfl⟩ ⟨Nat.le_of_ble_eq_true rfl, Nat.le_of_ble_eq_true rfl⟩ (Nat.le_of_ble_eq_true rfl) ⟨Nat.le_of_ble_eq_true rfl, Nat.le_of_ble_eq_true rfl⟩ dX4_goOn_113 rfl (st := [.int v_486276]) (fun x_486327 I_486328 J_486329 h_486330 => ?_)
          obtain ⟨rfl, rfl, rx_486327⟩ := h_486330
          obtain ⟨x_486331, hx_486331, rx_486331⟩ := ex_any (z0 := v_486276 + x_486327)
          refine g_iadd C (v := x_486331) dX4_goOn_116 hx_486331 ?_
          refine g_istore C dX4_goOn_117 (by decide) (lo2 := [(8, .int x_486331), (7, .int x_486326), (0, .ref x), (1, .int v_486274), (2, .int v_486275), (3, .int v_486276), (4, .ref b_486277), (5, .ref b_486278), (6, .int v_486279)]) rfl ?_
          refine g_iload C 0 dX4_goOn_119 rfl ?_
          refine g_aload C 7 dX4_goOn_121 rfl ?_
          refine g_iload C 1 dX4_goOn_123 rfl ?_
          refine g_callSI C K (c_X4_atLeastWanted W9 hb_486278L hb_486278k x_486326 (rx_486326) hU_486322) s_4_68 rfl ⟨rfl, rfl⟩ ⟨Nat.le_of_ble_eq_true rfl, Nat.le_of_ble_eq_true rfl⟩ (Nat.le_of_ble_eq_true rfl) ⟨Nat.le_of_ble_eq_true rfl, Nat.le_of_ble_eq_true rfl⟩ dX4_goOn_125 rfl (st := [.int x_486331]) (fun x_486332 I_486333 J_486334 h_486335 => ?_)
          obtain ⟨rfl, rfl, rx_486332⟩ := h_486335
          obtain ⟨x_486336, hx_486336, rx_486336⟩ := ex_any (z0 := x_486331 + x_486332)
          refine g_iadd C (v := x_486336) dX4_goOn_128 hx_486336 ?_
          refine g_aload_n C 2 dX4_goOn_129 rfl rfl ?_
          obtain ⟨x_486337, hx_486337, rx_486337⟩ := ex_get (I := I_486321) (a := x) (j := 4) (lo := (-2147483648)) (hi := 2147483647) hU_486322.1 hLx (ro_o hkx (by decide)) rfl
          refine g_getI C K hLx hkx f_4_28 (v := x_486337) hx_486337 dX4_goOn_130 ?_
          refine g_icmp_ge C (tgt := 147) dX4_goOn_133 (by decide) (fun h_486338 => ?_) (fun h_486338 => ?_)
          · skip
            refine g_lo (is := [2, 3, 4, 5, 6, 7, 8]) (lo2 := [(0, .ref x), (1, .int v_486274), (2, .int v_486275), (3, .int v_486276), (4, .ref b_486277), (5, .ref b_486278), (6, .int v_486279)]) rfl ?_
            exact j_147 I_486321 J_486317 hU_486322 hF_486323 hG_486320 v_486274 (rv_486274) v_486275 (rv_486275) (nv_486275_0) v_486276 hb_486277L hb_486277k hb_486278L hb_486278k v_486279 (r_486296) hm_486280
          · skip
            have r_486339 := lt_l (hi := 2147483646) (nle h_486338) rx_486336 rx_486337 (by decide)
            have r_486340 := lt_r (lo := (-2147483647)) (nle h_486338) rx_486336 rx_486337 (by decide)
            refine g_aload_n C 2 dX4_goOn_136 rfl rfl ?_
            refine g_iload_n C 3 dX4_goOn_137 rfl rfl ?_
            refine g_iconst C (v := 1) dX4_goOn_138 (by decide) ?_
            obtain ⟨x_486341, hx_486341, rx_486341, tx_486341⟩ := ex_add 7 7 rv_486274 rc_1 (by decide) (by decide) (by decide) (by decide)
            refine g_iadd C (v := x_486341) dX4_goOn_139 hx_486341 ?_
            refine g_iload C 1 dX4_goOn_140 rfl ?_
            refine g_iload C 0 dX4_goOn_142 rfl ?_
            refine g_callVV C K (c_X4_goOn_7 W9 hLx hkx x_486341 x_486326 x_486331 (rx_486341) (rx_486326) hU_486322) hLx hkx (by decide) rfl v_4_48 rfl ⟨rfl, rfl⟩ ⟨Nat.le_of_ble_eq_true rfl, Nat.le_of_ble_eq_true rfl⟩ (Nat.le_of_ble_eq_true rfl) ⟨Nat.le_of_ble_eq_true rfl, Nat.le_of_ble_eq_true rfl⟩ dX4_goOn_144 rfl (st := []) (fun I_486343 J_486344 h_486345 => ?_)
            obtain ⟨hUI_486343, hFI_486343, hGJ_486344⟩ := h_486345
            have hF_486346 := fq_tr hF_486323 hFI_486343 (by decide)
            have hG_486347 := fq_tr hG_486320 hGJ_486344 (by decide)
            refine g_lo (is := [2, 3, 4, 5, 6, 7, 8]) (lo2 := [(0, .ref x), (1, .int v_486274), (2, .int v_486275), (3, .int v_486276), (4, .ref b_486277), (5, .ref b_486278), (6, .int v_486279)]) rfl ?_
            exact j_147 I_486343 J_486344 hUI_486343 hF_486346 hG_486347 v_486274 (rv_486274) v_486275 (rv_486275) (nv_486275_0) v_486276 hb_486277L hb_486277k hb_486278L hb_486278k v_486279 (r_486296) hm_486280
  refine g_iload_n C 2 dX4_goOn_0 rfl rfl ?_
  refine g_if_eq C (tgt := 10) dX4_goOn_1 (by decide) (fun h_486348 => ?_) (fun h_486348 => ?_)
  · skip
    have r_486349 := (⟨(ra1).1, (eq_rg (h_486348) rc_0).2⟩ : Rg 0 0 a1)
    refine g_lo (is := [0, 1, 2, 3]) (lo2 := [(0, .ref x), (1, .int a0), (2, .int a1), (3, .int a2)]) rfl ?_
    exact j_10 I J hU hF hG a0 (ra0) a1 (r_486349) a2
  · skip
    have n_486350 : ¬ a1 = 0 := h_486348
    have r_486351 := ne_lo (lo := 1) n_486350 ra1 rc_0 rfl (by decide)
    refine g_iload_n C 1 dX4_goOn_4 rfl rfl ?_
    refine g_bipush C (v := 7) dX4_goOn_5 (by decide) ?_
    refine g_icmp_lt C (tgt := 31) dX4_goOn_7 (by decide) (fun h_486352 => ?_) (fun h_486352 => ?_)
    · skip
      refine g_aload_n C 0 dX4_goOn_31 rfl rfl ?_
      refine g_getR C K hLx hkx f_4_11 hb_486252 dX4_goOn_32 ?_
      refine g_iload_n C 1 dX4_goOn_35 rfl rfl ?_
      obtain ⟨b_486353, hb_486353, hb_486353L, hb_486353k⟩ := (W9 b_486252 hb_486252L).2.1 hb_486252k (a0.toNatClampNeg) (ix_lt ra0 (by decide) hb_486252n (by decide))
      refine h_aaldC C K hb_486252L hb_486252k (a0.toNatClampNeg) (rfl) (ix_0 ra0 (by decide)) (ix_lt ra0 (by decide) hb_486252n (by decide)) hb_486353 dX4_goOn_36 ?_
      refine g_astore C dX4_goOn_37 (by decide) (lo2 := [(4, .ref b_486353), (0, .ref x), (1, .int a0), (2, .int a1), (3, .int a2)]) rfl ?_
      refine g_aload_n C 1 dX4_goOn_39 rfl rfl ?_
      refine g_getR C K hLx hkx f_4_11 hb_486252 dX4_goOn_40 ?_
      refine g_iload_n C 2 dX4_goOn_43 rfl rfl ?_
      refine g_iconst C (v := 1) dX4_goOn_44 (by decide) ?_
      obtain ⟨x_486354, hx_486354, rx_486354, tx_486354⟩ := ex_add 7 7 ra0 rc_1 (by decide) (by decide) (by decide) (by decide)
      refine g_iadd C (v := x_486354) dX4_goOn_45 hx_486354 ?_
      obtain ⟨b_486355, hb_486355, hb_486355L, hb_486355k⟩ := (W9 b_486252 hb_486252L).2.1 hb_486252k (x_486354.toNatClampNeg) (ix_lt rx_486354 (by decide) hb_486252n (by decide))
      refine h_aaldC C K hb_486252L hb_486252k (x_486354.toNatClampNeg) (rfl) (ix_0 rx_486354 (by decide)) (ix_lt rx_486354 (by decide) hb_486252n (by decide)) hb_486355 dX4_goOn_46 ?_
      refine g_astore C dX4_goOn_47 (by decide) (lo2 := [(5, .ref b_486355), (4, .ref b_486353), (0, .ref x), (1, .int a0), (2, .int a1), (3, .int a2)]) rfl ?_
      refine g_iconst C (v := 0) dX4_goOn_49 (by decide) ?_
      refine g_istore C dX4_goOn_50 (by decide) (lo2 := [(6, .int 0), (5, .ref b_486355), (4, .ref b_486353), (0, .ref x), (1, .int a0), (2, .int a1), (3, .int a2)]) rfl ?_
      refine g_lo (is := [3, 4, 5, 6, 2, 1, 0]) (lo2 := [(0, .ref x), (1, .int a0), (2, .int a1), (3, .int a2), (4, .ref b_486353), (5, .ref b_486355), (6, .int 0)]) rfl ?_
      exact l_52 8 I J hU hF hG a0 (ra0) a1 (r_486351) (n_486350) a2 hb_486353L hb_486353k hb_486355L hb_486355k 0 (rg_w rc_0 (by decide) (by decide)) (ms_s (a := 0) (b := 7) (N := 8) (rg_w rc_0 (by decide) (by decide)) (by decide))
    · skip
      have r_486356 := le_r (nlt h_486352) rc_7 ra0
      exact rg_no r_486356 (by decide)
set_option maxRecDepth 100000 in
set_option maxHeartbeats 8000000 in
theorem c_X4_goOn_5 {l : Launch} {D : va_G} {cy : Nat → ClassId} {L : List Nat} {κ ln : Nat → Nat} {R : Nat → Nat → Option Nat} {I : Nat → Nat → Int32} {J : Nat → Nat → Int64} {ow : Nat → Nat × Nat} (W9 : ∀ a ∈ L, Shp L κ ln R ow a) {x : Nat} (hLx : x ∈ L) (hkx : κ x = 4) (a0 : Int32) (a1 : Int32) (a2 : Int32) (ra0 : Rg 5 5 a0) (ra1 : Rg 0 127 a1) (hU : Iv L κ R ow I) : CtV l yX4_goOn cX4_goOn 9 none { frames := 5, cells := 0, slots := 0, locals := 135 } D cy L κ ln R I J [.ref x, .int a0, .int a1, .int a2] (fun I2 J2 => Iv L κ R ow I2 ∧ Fq L κ ow [107, 108, 109, 110, 111, 112, 404, 16100, 16200, 16300, 16400, 16500, 16600, 34100, 34200] I I2 ∧ Fq L κ ow [] J J2) := by
  refine CtV.of (by decide +kernel) (Nat.le_of_ble_eq_true rfl) ?_
  intro p e s m below meth c B K
  have C := B.1
  have hF : Fq L κ ow [107, 108, 109, 110, 111, 112, 404, 16100, 16200, 16300, 16400, 16500, 16600, 34100, 34200] I I := fq_rf
  have hG : Fq L κ ow [] J J := fq_rf
  obtain ⟨b_486885, hb_486885, hb_486885L, hb_486885k, hb_486885n, hb_486885o⟩ := shp_a (W9 x hLx) hkx 0 17 8 rfl (by decide)
  obtain ⟨b_486886, hb_486886, hb_486886L, hb_486886k, hb_486886n, hb_486886o⟩ := shp_a (W9 x hLx) hkx 1 14 7 rfl (by decide)
  obtain ⟨b_486887, hb_486887, hb_486887L, hb_486887k, hb_486887n, hb_486887o⟩ := shp_a (W9 x hLx) hkx 2 14 7 rfl (by decide)
  refine g_lo (is := [0, 1, 2, 3]) (lo2 := [(0, .ref x), (1, .int a0), (2, .int a1), (3, .int a2)]) rfl ?_
  have j_10 : ∀ (I_486888 : Nat → Nat → Int32) (J_486889 : Nat → Nat → Int64) (hU_486890 : Iv L κ R ow I_486888) (hF_486891 : Fq L κ ow [107, 108, 109, 110, 111, 112, 404, 16100, 16200, 16300, 16400, 16500, 16600, 34100, 34200] I I_486888) (hG_486892 : Fq L κ ow [] J J_486889) (v_486893 : Int32) (rv_486893 : Rg 5 5 v_486893) (v_486894 : Int32) (rv_486894 : Rg 0 0 v_486894) (v_486895 : Int32), WG p l e { frames := 5, cells := 0, slots := 0, locals := 135 } s m ([.ref x, .int a0, .int a1, .int a2] : List Value).toArray below meth c 9 0 0 (MQ below (Qv_ D cy L κ ln R (fun I2 J2 => Iv L κ R ow I2 ∧ Fq L κ ow [107, 108, 109, 110, 111, 112, 404, 16100, 16200, 16300, 16400, 16500, 16600, 34100, 34200] I I2 ∧ Fq L κ ow [] J J2)) ([.ref x, .int a0, .int a1, .int a2] : List Value).toArray s 0 0 (Al_ L)) D cy (Al_ L) s.heap L κ ln R I_486888 J_486889 10 [(0, .ref x), (1, .int v_486893), (2, .int v_486894), (3, .int v_486895)] [] := by
    intro I_486888 J_486889 hU_486890 hF_486891 hG_486892 v_486893 rv_486893 v_486894 rv_486894 v_486895
    refine g_aload_n C 0 dX4_goOn_10 rfl rfl ?_
    refine g_iload_n C 3 dX4_goOn_11 rfl rfl ?_
    refine h_putI C K hLx hkx f_4_28 p_4_4 dX4_goOn_12 (fun I_486896 hI_486896 => ?_)
    have hU_486897 := iv_put W9 hU_486890 hI_486896 (ro_o hkx (by decide)) (lo := (-2147483648)) (hi := 2147483647) (rfl) ((rg_all v_486895)) rfl
    have hF_486898 := fq_puto hF_486891 hI_486896 hkx (by decide) (by decide)
    refine g_aload_n C 0 dX4_goOn_15 rfl rfl ?_
    refine g_getR C K hLx hkx f_4_17 hb_486886 dX4_goOn_16 ?_
    refine g_iconst C (v := 0) dX4_goOn_19 (by decide) ?_
    refine g_aload_n C 0 dX4_goOn_20 rfl rfl ?_
    refine g_getR C K hLx hkx f_4_21 hb_486887 dX4_goOn_21 ?_
    refine g_iconst C (v := 0) dX4_goOn_24 (by decide) ?_
    refine g_bipush C (v := 7) dX4_goOn_25 (by decide) ?_
    refine h_copyI C K hb_486887L hb_486887k hb_486886L hb_486886k ac_4_52 7 (by decide) (by decide) (by rw [hb_486886n]; decide) (by rw [hb_486887n]; decide) w_cp (Nat.le_of_ble_eq_true rfl) (Nat.le_of_ble_eq_true rfl) dX4_goOn_27 (fun I_486899 hI_486899 => ?_)
    have hU_486900 := iv_cp W9 hU_486897 (uv_cpf hU_486897.1 hI_486899 (ro_a hb_486887k (by decide) hb_486887o hkx rfl) (fun _ => rfl)) hI_486899 (ro_a hb_486887k (by decide) hb_486887o hkx rfl) rfl
    have hF_486901 := fq_cp hF_486898 hI_486899 (ro_a hb_486887k (by decide) hb_486887o hkx rfl) (by decide) (by decide)
    exact g_vret B K rfl ⟨hU_486900, hF_486901, hG_486892⟩ dX4_goOn_30
  have l_52 : ∀ (n_52 : Nat) (I_486902 : Nat → Nat → Int32) (J_486903 : Nat → Nat → Int64) (hU_486904 : Iv L κ R ow I_486902) (hF_486905 : Fq L κ ow [107, 108, 109, 110, 111, 112, 404, 16100, 16200, 16300, 16400, 16500, 16600, 34100, 34200] I I_486902) (hG_486906 : Fq L κ ow [] J J_486903) (v_486907 : Int32) (rv_486907 : Rg 5 5 v_486907) (v_486908 : Int32) (rv_486908 : Rg 1 127 v_486908) (nv_486908_0 : ¬ v_486908 = 0) (v_486909 : Int32) {b_486910 : Nat} (hb_486910L : b_486910 ∈ L) (hb_486910k : κ b_486910 = 1) {b_486911 : Nat} (hb_486911L : b_486911 ∈ L) (hb_486911k : κ b_486911 = 1) (v_486912 : Int32) (rv_486912 : Rg 0 7 v_486912) (hm_486913 : 7 < (v_486912 : Int32).toInt + (n_52 : Int)), WG p l e { frames := 5, cells := 0, slots := 0, locals := 135 } s m ([.ref x, .int a0, .int a1, .int a2] : List Value).toArray below meth c 9 0 0 (MQ below (Qv_ D cy L κ ln R (fun I2 J2 => Iv L κ R ow I2 ∧ Fq L κ ow [107, 108, 109, 110, 111, 112, 404, 16100, 16200, 16300, 16400, 16500, 16600, 34100, 34200] I I2 ∧ Fq L κ ow [] J J2)) ([.ref x, .int a0, .int a1, .int a2] : List Value).toArray s 0 0 (Al_ L)) D cy (Al_ L) s.heap L κ ln R I_486902 J_486903 52 [(0, .ref x), (1, .int v_486907), (2, .int v_486908), (3, .int v_486909), (4, .ref b_486910), (5, .ref b_486911), (6, .int v_486912)] [] := by
    intro n_52
    induction n_52 with
    | zero =>
      intro I_486902 J_486903 hU_486904 hF_486905 hG_486906 v_486907 rv_486907 v_486908 rv_486908 nv_486908_0 v_486909 b_486910 hb_486910L hb_486910k b_486911 hb_486911L hb_486911k v_486912 rv_486912 hm_486913
      exact ms_0 rv_486912 hm_486913
    | succ n_52 ih_52 =>
      intro I_486902 J_486903 hU_486904 hF_486905 hG_486906 v_486907 rv_486907 v_486908 rv_486908 nv_486908_0 v_486909 b_486910 hb_486910L hb_486910k b_486911 hb_486911L hb_486911k v_486912 rv_486912 hm_486913
      have j_147 : ∀ (I_486914 : Nat → Nat → Int32) (J_486915 : Nat → Nat → Int64) (hU_486916 : Iv L κ R ow I_486914) (hF_486917 : Fq L κ ow [107, 108, 109, 110, 111, 112, 404, 16100, 16200, 16300, 16400, 16500, 16600, 34100, 34200] I I_486914) (hG_486918 : Fq L κ ow [] J J_486915) (v_486919 : Int32) (rv_486919 : Rg 5 5 v_486919) (v_486920 : Int32) (rv_486920 : Rg 1 127 v_486920) (nv_486920_0 : ¬ v_486920 = 0) (v_486921 : Int32) {b_486922 : Nat} (hb_486922L : b_486922 ∈ L) (hb_486922k : κ b_486922 = 1) {b_486923 : Nat} (hb_486923L : b_486923 ∈ L) (hb_486923k : κ b_486923 = 1) (v_486924 : Int32) (rv_486924 : Rg 0 6 v_486924) (hm_486925 : 7 < (v_486924 : Int32).toInt + ((n_52 + 1 : Nat) : Int)), WG p l e { frames := 5, cells := 0, slots := 0, locals := 135 } s m ([.ref x, .int a0, .int a1, .int a2] : List Value).toArray below meth c 9 0 0 (MQ below (Qv_ D cy L κ ln R (fun I2 J2 => Iv L κ R ow I2 ∧ Fq L κ ow [107, 108, 109, 110, 111, 112, 404, 16100, 16200, 16300, 16400, 16500, 16600, 34100, 34200] I I2 ∧ Fq L κ ow [] J J2)) ([.ref x, .int a0, .int a1, .int a2] : List Value).toArray s 0 0 (Al_ L)) D cy (Al_ L) s.heap L κ ln R I_486914 J_486915 147 [(0, .ref x), (1, .int v_486919), (2, .int v_486920), (3, .int v_486921), (4, .ref b_486922), (5, .ref b_486923), (6, .int v_486924)] [] := by
        intro I_486914 J_486915 hU_486916 hF_486917 hG_486918 v_486919 rv_486919 v_486920 rv_486920 nv_486920_0 v_486921 b_486922 hb_486922L hb_486922k b_486923 hb_486923L hb_486923k v_486924 rv_486924 hm_486925
        obtain ⟨x_486926, hx_486926, rx_486926, tx_486926⟩ := ex_add (y := 1) 1 7 rv_486924 rc_1 (by decide) (by decide) (by decide) (by decide)
        refine g_iinc C dX4_goOn_147 (k := 6) (v := x_486926) rfl hx_486926 (by decide) (lo2 := [(6, .int x_486926), (0, .ref x), (1, .int v_486919), (2, .int v_486920), (3, .int v_486921), (4, .ref b_486922), (5, .ref b_486923)]) rfl ?_
        refine g_goto C (tgt := 52) dX4_goOn_150 (by decide) ?_
        refine g_lo (is := [1, 2, 3, 4, 5, 6, 0]) (lo2 := [(0, .ref x), (1, .int v_486919), (2, .int v_486920), (3, .int v_486921), (4, .ref b_486922), (5, .ref b_486923), (6, .int x_486926)]) rfl ?_
        exact ih_52 I_486914 J_486915 hU_486916 hF_486917 hG_486918 v_486919 (rv_486919) v_486920 (rv_486920) (nv_486920_0) v_486921 hb_486922L hb_486922k hb_486923L hb_486923k x_486926 (rg_w rx_486926 (by decide) (by decide)) (ms_1 hm_486925 (ti_k tx_486926 rc_1) (by decide))
      refine g_iload C 6 dX4_goOn_52 rfl ?_
      refine g_bipush C (v := 7) dX4_goOn_54 (by decide) ?_
      refine g_icmp_ge C (tgt := 153) dX4_goOn_56 (by decide) (fun h_486927 => ?_) (fun h_486927 => ?_)
      · skip
        have r_486928 := le_r (h_486927) rc_7 rv_486912
        exact g_vret B K rfl ⟨hU_486904, hF_486905, hG_486906⟩ dX4_goOn_153
      · skip
        have r_486929 := lt_l (hi := 6) (nle h_486927) rv_486912 rc_7 (by decide)
        refine g_iload_n C 2 dX4_goOn_59 rfl rfl ?_
        refine g_iload C 6 dX4_goOn_60 rfl ?_
        obtain ⟨x_486930, hx_486930, rx_486930⟩ := ex_shr (x := v_486908) (y := v_486912) (b := 127) (rg_w rv_486908 (by decide) (by decide))
        refine g_ishr C (v := x_486930) dX4_goOn_62 hx_486930 ?_
        refine g_iconst C (v := 1) dX4_goOn_63 (by decide) ?_
        obtain ⟨x_486931, hx_486931, rx_486931⟩ := ex_andr (x := x_486930) (y := 1) (b := 1) (rg_w rc_1 (by decide) (by decide))
        refine g_iand C (v := x_486931) dX4_goOn_64 hx_486931 ?_
        refine g_if_eq C (tgt := 147) dX4_goOn_65 (by decide) (fun h_486932 => ?_) (fun h_486932 => ?_)
        · skip
          have r_486933 := (⟨(rx_486931).1, (eq_rg (h_486932) rc_0).2⟩ : Rg 0 0 x_486931)
          refine g_lo (is := [0, 1, 2, 3, 4, 5, 6]) (lo2 := [(0, .ref x), (1, .int v_486907), (2, .int v_486908), (3, .int v_486909), (4, .ref b_486910), (5, .ref b_486911), (6, .int v_486912)]) rfl ?_
          exact j_147 I_486902 J_486903 hU_486904 hF_486905 hG_486906 v_486907 (rv_486907) v_486908 (rv_486908) (nv_486908_0) v_486909 hb_486910L hb_486910k hb_486911L hb_486911k v_486912 (r_486929) hm_486913
        · skip
          have n_486934 : ¬ x_486931 = 0 := h_486932
          have r_486935 := ne_lo (lo := 1) n_486934 rx_486931 rc_0 rfl (by decide)
          refine g_aload C 5 dX4_goOn_68 rfl ?_
          refine g_aload C 4 dX4_goOn_70 rfl ?_
          refine g_callVV C K (c_X1_become W9 hb_486911L hb_486911k hb_486910L hb_486910k  hU_486904) hb_486911L hb_486911k (by decide) rfl v_4_44 rfl ⟨rfl, rfl⟩ ⟨Nat.le_of_ble_eq_true rfl, Nat.le_of_ble_eq_true rfl⟩ (Nat.le_of_ble_eq_true rfl) ⟨Nat.le_of_ble_eq_true rfl, Nat.le_of_ble_eq_true rfl⟩ dX4_goOn_72 rfl (st := []) (fun I_486937 J_486938 h_486939 => ?_)
          obtain ⟨hUI_486937, hFI_486937, hGJ_486938⟩ := h_486939
          have hF_486940 := fq_tr hF_486905 hFI_486937 (by decide)
          have hG_486941 := fq_tr hG_486906 hGJ_486938 (by decide)
          refine g_aload C 5 dX4_goOn_75 rfl ?_
          refine g_iload C 6 dX4_goOn_77 rfl ?_
          refine g_callVV C K (c_X1_eatAll W9 hb_486911L hb_486911k v_486912 (r_486929) hUI_486937) hb_486911L hb_486911k (by decide) rfl v_4_58 rfl ⟨rfl, rfl⟩ ⟨Nat.le_of_ble_eq_true rfl, Nat.le_of_ble_eq_true rfl⟩ (Nat.le_of_ble_eq_true rfl) ⟨Nat.le_of_ble_eq_true rfl, Nat.le_of_ble_eq_true rfl⟩ dX4_goOn_79 rfl (st := []) (fun I_486943 J_486944 h_486945 => ?_)
          obtain ⟨hUI_486943, hFI_486943, hGJ_486944⟩ := h_486945
          have hF_486946 := fq_tr hF_486940 hFI_486943 (by decide)
          have hG_486947 := fq_tr hG_486941 hGJ_486944 (by decide)
          refine g_aload C 5 dX4_goOn_82 rfl ?_
          refine g_iload C 6 dX4_goOn_84 rfl ?_
          refine g_callVI C K (c_X1_tryToRise W9 hb_486911L hb_486911k v_486912 (r_486929) hUI_486943) hb_486911L hb_486911k (by decide) rfl v_4_62 rfl ⟨rfl, rfl⟩ ⟨Nat.le_of_ble_eq_true rfl, Nat.le_of_ble_eq_true rfl⟩ (Nat.le_of_ble_eq_true rfl) ⟨Nat.le_of_ble_eq_true rfl, Nat.le_of_ble_eq_true rfl⟩ dX4_goOn_86 rfl (st := []) (fun x_486948 I_486949 J_486950 h_486951 => ?_)
          obtain ⟨hUI_486949, hFI_486949, hGJ_486950, rx_486948⟩ := h_486951
          have hF_486952 := fq_tr hF_486946 hFI_486949 (by decide)
          have hG_486953 := fq_tr hG_486947 hGJ_486950 (by decide)
          refine g_pop C dX4_goOn_89 rfl ?_
          refine g_aload_n C 0 dX4_goOn_90 rfl rfl ?_
          refine g_getR C K hLx hkx f_4_17 hb_486886 dX4_goOn_91 ?_
          refine g_iload_n C 1 dX4_goOn_94 rfl rfl ?_
          refine g_iload C 6 dX4_goOn_95 rfl ?_
          refine h_iast C K hb_486886L hb_486886k (v_486907.toNatClampNeg) (rfl) (ix_0 rv_486907 (by decide)) (ix_lt rv_486907 (by decide) hb_486886n (by decide)) dX4_goOn_97 (fun I_486954 hI_486954 => ?_)
          have hU_486955 := iv_put W9 hUI_486949 hI_486954 (ro_a hb_486886k (by decide) hb_486886o hkx rfl) (lo := (-2147483648)) (hi := 2147483647) (rfl) (rg_all _) rfl
          have hF_486956 := fq_puta hF_486952 hI_486954 (ro_a hb_486886k (by decide) hb_486886o hkx rfl) (by decide) (by decide)
          refine g_iload_n C 2 dX4_goOn_98 rfl rfl ?_
          refine g_iconst C (v := 1) dX4_goOn_99 (by decide) ?_
          refine g_iload C 6 dX4_goOn_100 rfl ?_
          obtain ⟨x_486957, hx_486957, rx_486957⟩ := ex_shl (x := 1) (y := v_486912) 6 64 rfl (r_486929) (by decide)
          refine g_ishl C (v := x_486957) dX4_goOn_102 hx_486957 ?_
          refine g_iconst C (v := (-1)) dX4_goOn_103 (by decide) ?_
          obtain ⟨x_486958, hx_486958, rx_486958⟩ := ex_any (z0 := x_486957 ^^^ (-1))
          refine g_ixor C (v := x_486958) dX4_goOn_104 hx_486958 ?_
          obtain ⟨x_486959, hx_486959, rx_486959⟩ := ex_andl (x := v_486908) (y := x_486958) (b := 127) (rg_w rv_486908 (by decide) (by decide))
          refine g_iand C (v := x_486959) dX4_goOn_105 hx_486959 ?_
          refine g_istore C dX4_goOn_106 (by decide) (lo2 := [(7, .int x_486959), (0, .ref x), (1, .int v_486907), (2, .int v_486908), (3, .int v_486909), (4, .ref b_486910), (5, .ref b_486911), (6, .int v_486912)]) rfl ?_
          refine g_iload_n C 4 dX4_goOn_108 rfl rfl ?_
          refine g_aload C 6 dX4_goOn_109 rfl ?_
          refine g_iload C 7 dX4_goOn_111 rfl ?_
          refine g_callVI C K (c_X1_wantsYet W9 hb_486911L hb_486911k v_486912 (r_486929) hU_486955) hb_486911L hb_486911k (by decide) rfl v_4_65 rfl ⟨rfl, rfl⟩ ⟨Nat.le_of_ble_eq_true rfl, Nat.le_of_ble_eq_true rfl⟩ (Nat.le_of_ble_eq_true rfl) ⟨Nat.le_of_ble_eq_true rfl, Nat.le_of_ble_eq_true rfl⟩ dX4_goOn_113 rfl (st := [.int v_486909]) (fun x_486960 I_486961 J_486962 h_486963 => ?_)
          obtain ⟨rfl, rfl, rx_486960⟩ := h_486963
          obtain ⟨x_486964, hx_486964, rx_486964⟩ := ex_any (z0 := v_486909 + x_486960)
          refine g_iadd C (v := x_486964) dX4_goOn_116 hx_486964 ?_
          refine g_istore C dX4_goOn_117 (by decide) (lo2 := [(8, .int x_486964), (7, .int x_486959), (0, .ref x), (1, .int v_486907), (2, .int v_486908), (3, .int v_486909), (4, .ref b_486910), (5, .ref b_486911), (6, .int v_486912)]) rfl ?_
          refine g_iload C 0 dX4_goOn_119 rfl ?_
          refine g_aload C 7 dX4_goOn_121 rfl ?_
          refine g_iload C 1 dX4_goOn_123 rfl ?_
          refine g_callSI C K (c_X4_atLeastWanted W9 hb_486911L hb_486911k x_486959 (rx_486959) hU_486955) s_4_68 rfl ⟨rfl, rfl⟩ ⟨Nat.le_of_ble_eq_true rfl, Nat.le_of_ble_eq_true rfl⟩ (Nat.le_of_ble_eq_true rfl) ⟨Nat.le_of_ble_eq_true rfl, Nat.le_of_ble_eq_true rfl⟩ dX4_goOn_125 rfl (st := [.int x_486964]) (fun x_486965 I_486966 J_486967 h_486968 => ?_)
          obtain ⟨rfl, rfl, rx_486965⟩ := h_486968
          obtain ⟨x_486969, hx_486969, rx_486969⟩ := ex_any (z0 := x_486964 + x_486965)
          refine g_iadd C (v := x_486969) dX4_goOn_128 hx_486969 ?_
          refine g_aload_n C 2 dX4_goOn_129 rfl rfl ?_
          obtain ⟨x_486970, hx_486970, rx_486970⟩ := ex_get (I := I_486954) (a := x) (j := 4) (lo := (-2147483648)) (hi := 2147483647) hU_486955.1 hLx (ro_o hkx (by decide)) rfl
          refine g_getI C K hLx hkx f_4_28 (v := x_486970) hx_486970 dX4_goOn_130 ?_
          refine g_icmp_ge C (tgt := 147) dX4_goOn_133 (by decide) (fun h_486971 => ?_) (fun h_486971 => ?_)
          · skip
            refine g_lo (is := [2, 3, 4, 5, 6, 7, 8]) (lo2 := [(0, .ref x), (1, .int v_486907), (2, .int v_486908), (3, .int v_486909), (4, .ref b_486910), (5, .ref b_486911), (6, .int v_486912)]) rfl ?_
            exact j_147 I_486954 J_486950 hU_486955 hF_486956 hG_486953 v_486907 (rv_486907) v_486908 (rv_486908) (nv_486908_0) v_486909 hb_486910L hb_486910k hb_486911L hb_486911k v_486912 (r_486929) hm_486913
          · skip
            have r_486972 := lt_l (hi := 2147483646) (nle h_486971) rx_486969 rx_486970 (by decide)
            have r_486973 := lt_r (lo := (-2147483647)) (nle h_486971) rx_486969 rx_486970 (by decide)
            refine g_aload_n C 2 dX4_goOn_136 rfl rfl ?_
            refine g_iload_n C 3 dX4_goOn_137 rfl rfl ?_
            refine g_iconst C (v := 1) dX4_goOn_138 (by decide) ?_
            obtain ⟨x_486974, hx_486974, rx_486974, tx_486974⟩ := ex_add 6 6 rv_486907 rc_1 (by decide) (by decide) (by decide) (by decide)
            refine g_iadd C (v := x_486974) dX4_goOn_139 hx_486974 ?_
            refine g_iload C 1 dX4_goOn_140 rfl ?_
            refine g_iload C 0 dX4_goOn_142 rfl ?_
            refine g_callVV C K (c_X4_goOn_6 W9 hLx hkx x_486974 x_486959 x_486964 (rx_486974) (rx_486959) hU_486955) hLx hkx (by decide) rfl v_4_48 rfl ⟨rfl, rfl⟩ ⟨Nat.le_of_ble_eq_true rfl, Nat.le_of_ble_eq_true rfl⟩ (Nat.le_of_ble_eq_true rfl) ⟨Nat.le_of_ble_eq_true rfl, Nat.le_of_ble_eq_true rfl⟩ dX4_goOn_144 rfl (st := []) (fun I_486976 J_486977 h_486978 => ?_)
            obtain ⟨hUI_486976, hFI_486976, hGJ_486977⟩ := h_486978
            have hF_486979 := fq_tr hF_486956 hFI_486976 (by decide)
            have hG_486980 := fq_tr hG_486953 hGJ_486977 (by decide)
            refine g_lo (is := [2, 3, 4, 5, 6, 7, 8]) (lo2 := [(0, .ref x), (1, .int v_486907), (2, .int v_486908), (3, .int v_486909), (4, .ref b_486910), (5, .ref b_486911), (6, .int v_486912)]) rfl ?_
            exact j_147 I_486976 J_486977 hUI_486976 hF_486979 hG_486980 v_486907 (rv_486907) v_486908 (rv_486908) (nv_486908_0) v_486909 hb_486910L hb_486910k hb_486911L hb_486911k v_486912 (r_486929) hm_486913
  refine g_iload_n C 2 dX4_goOn_0 rfl rfl ?_
  refine g_if_eq C (tgt := 10) dX4_goOn_1 (by decide) (fun h_486981 => ?_) (fun h_486981 => ?_)
  · skip
    have r_486982 := (⟨(ra1).1, (eq_rg (h_486981) rc_0).2⟩ : Rg 0 0 a1)
    refine g_lo (is := [0, 1, 2, 3]) (lo2 := [(0, .ref x), (1, .int a0), (2, .int a1), (3, .int a2)]) rfl ?_
    exact j_10 I J hU hF hG a0 (ra0) a1 (r_486982) a2
  · skip
    have n_486983 : ¬ a1 = 0 := h_486981
    have r_486984 := ne_lo (lo := 1) n_486983 ra1 rc_0 rfl (by decide)
    refine g_iload_n C 1 dX4_goOn_4 rfl rfl ?_
    refine g_bipush C (v := 7) dX4_goOn_5 (by decide) ?_
    refine g_icmp_lt C (tgt := 31) dX4_goOn_7 (by decide) (fun h_486985 => ?_) (fun h_486985 => ?_)
    · skip
      refine g_aload_n C 0 dX4_goOn_31 rfl rfl ?_
      refine g_getR C K hLx hkx f_4_11 hb_486885 dX4_goOn_32 ?_
      refine g_iload_n C 1 dX4_goOn_35 rfl rfl ?_
      obtain ⟨b_486986, hb_486986, hb_486986L, hb_486986k⟩ := (W9 b_486885 hb_486885L).2.1 hb_486885k (a0.toNatClampNeg) (ix_lt ra0 (by decide) hb_486885n (by decide))
      refine h_aaldC C K hb_486885L hb_486885k (a0.toNatClampNeg) (rfl) (ix_0 ra0 (by decide)) (ix_lt ra0 (by decide) hb_486885n (by decide)) hb_486986 dX4_goOn_36 ?_
      refine g_astore C dX4_goOn_37 (by decide) (lo2 := [(4, .ref b_486986), (0, .ref x), (1, .int a0), (2, .int a1), (3, .int a2)]) rfl ?_
      refine g_aload_n C 1 dX4_goOn_39 rfl rfl ?_
      refine g_getR C K hLx hkx f_4_11 hb_486885 dX4_goOn_40 ?_
      refine g_iload_n C 2 dX4_goOn_43 rfl rfl ?_
      refine g_iconst C (v := 1) dX4_goOn_44 (by decide) ?_
      obtain ⟨x_486987, hx_486987, rx_486987, tx_486987⟩ := ex_add 6 6 ra0 rc_1 (by decide) (by decide) (by decide) (by decide)
      refine g_iadd C (v := x_486987) dX4_goOn_45 hx_486987 ?_
      obtain ⟨b_486988, hb_486988, hb_486988L, hb_486988k⟩ := (W9 b_486885 hb_486885L).2.1 hb_486885k (x_486987.toNatClampNeg) (ix_lt rx_486987 (by decide) hb_486885n (by decide))
      refine h_aaldC C K hb_486885L hb_486885k (x_486987.toNatClampNeg) (rfl) (ix_0 rx_486987 (by decide)) (ix_lt rx_486987 (by decide) hb_486885n (by decide)) hb_486988 dX4_goOn_46 ?_
      refine g_astore C dX4_goOn_47 (by decide) (lo2 := [(5, .ref b_486988), (4, .ref b_486986), (0, .ref x), (1, .int a0), (2, .int a1), (3, .int a2)]) rfl ?_
      refine g_iconst C (v := 0) dX4_goOn_49 (by decide) ?_
      refine g_istore C dX4_goOn_50 (by decide) (lo2 := [(6, .int 0), (5, .ref b_486988), (4, .ref b_486986), (0, .ref x), (1, .int a0), (2, .int a1), (3, .int a2)]) rfl ?_
      refine g_lo (is := [3, 4, 5, 6, 2, 1, 0]) (lo2 := [(0, .ref x), (1, .int a0), (2, .int a1), (3, .int a2), (4, .ref b_486986), (5, .ref b_486988), (6, .int 0)]) rfl ?_
      exact l_52 8 I J hU hF hG a0 (ra0) a1 (r_486984) (n_486983) a2 hb_486986L hb_486986k hb_486988L hb_486988k 0 (rg_w rc_0 (by decide) (by decide)) (ms_s (a := 0) (b := 7) (N := 8) (rg_w rc_0 (by decide) (by decide)) (by decide))
    · skip
      have r_486989 := le_r (nlt h_486985) rc_7 ra0
      exact rg_no r_486989 (by decide)
