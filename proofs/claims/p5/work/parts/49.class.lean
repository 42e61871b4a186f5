theorem dJ6_bitCount_0f7a4_0 : decode cJ6_bitCount_0f7a4 0 = .ok (.iload_n 0, 1) := by decide +kernel
theorem dJ6_bitCount_0f7a4_1 : decode cJ6_bitCount_0f7a4 1 = .ok (.iload_n 0, 1) := by decide +kernel
theorem dJ6_bitCount_0f7a4_2 : decode cJ6_bitCount_0f7a4 2 = .ok (.iconst 1, 1) := by decide +kernel
theorem dJ6_bitCount_0f7a4_3 : decode cJ6_bitCount_0f7a4 3 = .ok (.iushr, 1) := by decide +kernel
theorem dJ6_bitCount_0f7a4_4 : decode cJ6_bitCount_0f7a4 4 = .ok (.ldc_w 265, 3) := by decide +kernel
theorem dJ6_bitCount_0f7a4_7 : decode cJ6_bitCount_0f7a4 7 = .ok (.iand, 1) := by decide +kernel
theorem dJ6_bitCount_0f7a4_8 : decode cJ6_bitCount_0f7a4 8 = .ok (.isub, 1) := by decide +kernel
theorem dJ6_bitCount_0f7a4_9 : decode cJ6_bitCount_0f7a4 9 = .ok (.istore_n 0, 1) := by decide +kernel
theorem dJ6_bitCount_0f7a4_10 : decode cJ6_bitCount_0f7a4 10 = .ok (.iload_n 0, 1) := by decide +kernel
theorem dJ6_bitCount_0f7a4_11 : decode cJ6_bitCount_0f7a4 11 = .ok (.ldc_w 266, 3) := by decide +kernel
theorem dJ6_bitCount_0f7a4_14 : decode cJ6_bitCount_0f7a4 14 = .ok (.iand, 1) := by decide +kernel
theorem dJ6_bitCount_0f7a4_15 : decode cJ6_bitCount_0f7a4 15 = .ok (.iload_n 0, 1) := by decide +kernel
theorem dJ6_bitCount_0f7a4_16 : decode cJ6_bitCount_0f7a4 16 = .ok (.iconst 2, 1) := by decide +kernel
theorem dJ6_bitCount_0f7a4_17 : decode cJ6_bitCount_0f7a4 17 = .ok (.iushr, 1) := by decide +kernel
theorem dJ6_bitCount_0f7a4_18 : decode cJ6_bitCount_0f7a4 18 = .ok (.ldc_w 266, 3) := by decide +kernel
theorem dJ6_bitCount_0f7a4_21 : decode cJ6_bitCount_0f7a4 21 = .ok (.iand, 1) := by decide +kernel
theorem dJ6_bitCount_0f7a4_22 : decode cJ6_bitCount_0f7a4 22 = .ok (.iadd, 1) := by decide +kernel
theorem dJ6_bitCount_0f7a4_23 : decode cJ6_bitCount_0f7a4 23 = .ok (.istore_n 0, 1) := by decide +kernel
theorem dJ6_bitCount_0f7a4_24 : decode cJ6_bitCount_0f7a4 24 = .ok (.iload_n 0, 1) := by decide +kernel
theorem dJ6_bitCount_0f7a4_25 : decode cJ6_bitCount_0f7a4 25 = .ok (.iload_n 0, 1) := by decide +kernel
theorem dJ6_bitCount_0f7a4_26 : decode cJ6_bitCount_0f7a4 26 = .ok (.iconst 4, 1) := by decide +kernel
theorem dJ6_bitCount_0f7a4_27 : decode cJ6_bitCount_0f7a4 27 = .ok (.iushr, 1) := by decide +kernel
theorem dJ6_bitCount_0f7a4_28 : decode cJ6_bitCount_0f7a4 28 = .ok (.iadd, 1) := by decide +kernel
theorem dJ6_bitCount_0f7a4_29 : decode cJ6_bitCount_0f7a4 29 = .ok (.ldc_w 267, 3) := by decide +kernel
theorem dJ6_bitCount_0f7a4_32 : decode cJ6_bitCount_0f7a4 32 = .ok (.iand, 1) := by decide +kernel
theorem dJ6_bitCount_0f7a4_33 : decode cJ6_bitCount_0f7a4 33 = .ok (.istore_n 0, 1) := by decide +kernel
theorem dJ6_bitCount_0f7a4_34 : decode cJ6_bitCount_0f7a4 34 = .ok (.iload_n 0, 1) := by decide +kernel
theorem dJ6_bitCount_0f7a4_35 : decode cJ6_bitCount_0f7a4 35 = .ok (.iload_n 0, 1) := by decide +kernel
theorem dJ6_bitCount_0f7a4_36 : decode cJ6_bitCount_0f7a4 36 = .ok (.bipush 8, 2) := by decide +kernel
theorem dJ6_bitCount_0f7a4_38 : decode cJ6_bitCount_0f7a4 38 = .ok (.iushr, 1) := by decide +kernel
theorem dJ6_bitCount_0f7a4_39 : decode cJ6_bitCount_0f7a4 39 = .ok (.iadd, 1) := by decide +kernel
theorem dJ6_bitCount_0f7a4_40 : decode cJ6_bitCount_0f7a4 40 = .ok (.istore_n 0, 1) := by decide +kernel
theorem dJ6_bitCount_0f7a4_41 : decode cJ6_bitCount_0f7a4 41 = .ok (.iload_n 0, 1) := by decide +kernel
theorem dJ6_bitCount_0f7a4_42 : decode cJ6_bitCount_0f7a4 42 = .ok (.iload_n 0, 1) := by decide +kernel
theorem dJ6_bitCount_0f7a4_43 : decode cJ6_bitCount_0f7a4 43 = .ok (.bipush 16, 2) := by decide +kernel
theorem dJ6_bitCount_0f7a4_45 : decode cJ6_bitCount_0f7a4 45 = .ok (.iushr, 1) := by decide +kernel
theorem dJ6_bitCount_0f7a4_46 : decode cJ6_bitCount_0f7a4 46 = .ok (.iadd, 1) := by decide +kernel
theorem dJ6_bitCount_0f7a4_47 : decode cJ6_bitCount_0f7a4 47 = .ok (.istore_n 0, 1) := by decide +kernel
theorem dJ6_bitCount_0f7a4_48 : decode cJ6_bitCount_0f7a4 48 = .ok (.iload_n 0, 1) := by decide +kernel
theorem dJ6_bitCount_0f7a4_49 : decode cJ6_bitCount_0f7a4 49 = .ok (.bipush 63, 2) := by decide +kernel
theorem dJ6_bitCount_0f7a4_51 : decode cJ6_bitCount_0f7a4 51 = .ok (.iand, 1) := by decide +kernel
theorem dJ6_bitCount_0f7a4_52 : decode cJ6_bitCount_0f7a4 52 = .ok (.ireturn, 1) := by decide +kernel
theorem dX11_heir_0 : decode cX11_heir 0 = .ok (.aload_n 0, 1) := by decide +kernel
theorem dX11_heir_1 : decode cX11_heir 1 = .ok (.getfield 19, 3) := by decide +kernel
theorem dX11_heir_4 : decode cX11_heir 4 = .ok (.iload_n 1, 1) := by decide +kernel
theorem dX11_heir_5 : decode cX11_heir 5 = .ok (.invokevirtual 133, 3) := by decide +kernel
theorem dX11_heir_8 : decode cX11_heir 8 = .ok (.ifCond .eq 21, 3) := by decide +kernel
theorem dX11_heir_11 : decode cX11_heir 11 = .ok (.aload_n 0, 1) := by decide +kernel
theorem dX11_heir_12 : decode cX11_heir 12 = .ok (.getfield 28, 3) := by decide +kernel
theorem dX11_heir_15 : decode cX11_heir 15 = .ok (.iload_n 1, 1) := by decide +kernel
theorem dX11_heir_16 : decode cX11_heir 16 = .ok (.aload_n 0, 1) := by decide +kernel
theorem dX11_heir_17 : decode cX11_heir 17 = .ok (.getfield 28, 3) := by decide +kernel
theorem dX11_heir_20 : decode cX11_heir 20 = .ok (.getfield 154, 3) := by decide +kernel
theorem dX11_heir_23 : decode cX11_heir 23 = .ok (.invokevirtual 263, 3) := by decide +kernel
theorem dX11_heir_26 : decode cX11_heir 26 = .ok (.goto 4, 3) := by decide +kernel
theorem dX11_heir_29 : decode cX11_heir 29 = .ok (.iconst (-1), 1) := by decide +kernel
theorem dX11_heir_30 : decode cX11_heir 30 = .ok (.ireturn, 1) := by decide +kernel
theorem dX11_line_0 : decode cX11_line 0 = .ok (.aload_n 0, 1) := by decide +kernel
theorem dX11_line_1 : decode cX11_line 1 = .ok (.getfield 19, 3) := by decide +kernel
theorem dX11_line_4 : decode cX11_line 4 = .ok (.iload_n 1, 1) := by decide +kernel
theorem dX11_line_5 : decode cX11_line 5 = .ok (.invokevirtual 133, 3) := by decide +kernel
theorem dX11_line_8 : decode cX11_line 8 = .ok (.ifCond .eq 13, 3) := by decide +kernel
theorem dX11_line_11 : decode cX11_line 11 = .ok (.iload_n 2, 1) := by decide +kernel
theorem dX11_line_12 : decode cX11_line 12 = .ok (.ifCond .lt 9, 3) := by decide +kernel
theorem dX11_line_15 : decode cX11_line 15 = .ok (.iload_n 2, 1) := by decide +kernel
theorem dX11_line_16 : decode cX11_line 16 = .ok (.bipush 7, 2) := by decide +kernel
theorem dX11_line_18 : decode cX11_line 18 = .ok (.if_icmp .lt 5, 3) := by decide +kernel
theorem dX11_line_21 : decode cX11_line 21 = .ok (.iconst (-1), 1) := by decide +kernel
theorem dX11_line_22 : decode cX11_line 22 = .ok (.ireturn, 1) := by decide +kernel
theorem dX11_line_23 : decode cX11_line 23 = .ok (.aload_n 0, 1) := by decide +kernel
theorem dX11_line_24 : decode cX11_line 24 = .ok (.getfield 28, 3) := by decide +kernel
theorem dX11_line_27 : decode cX11_line 27 = .ok (.getfield 154, 3) := by decide +kernel
theorem dX11_line_30 : decode cX11_line 30 = .ok (.istore_n 3, 1) := by decide +kernel
theorem dX11_line_31 : decode cX11_line 31 = .ok (.aload_n 0, 1) := by decide +kernel
theorem dX11_line_32 : decode cX11_line 32 = .ok (.getfield 28, 3) := by decide +kernel
theorem dX11_line_35 : decode cX11_line 35 = .ok (.iload_n 1, 1) := by decide +kernel
theorem dX11_line_36 : decode cX11_line 36 = .ok (.iload_n 3, 1) := by decide +kernel
theorem dX11_line_37 : decode cX11_line 37 = .ok (.invokevirtual 263, 3) := by decide +kernel
theorem dX11_line_40 : decode cX11_line 40 = .ok (.istore 4, 2) := by decide +kernel
theorem dX11_line_42 : decode cX11_line 42 = .ok (.iconst 0, 1) := by decide +kernel
theorem dX11_line_43 : decode cX11_line 43 = .ok (.istore 5, 2) := by decide +kernel
theorem dX11_line_45 : decode cX11_line 45 = .ok (.iload 5, 2) := by decide +kernel
theorem dX11_line_47 : decode cX11_line 47 = .ok (.iload_n 2, 1) := by decide +kernel
theorem dX11_line_48 : decode cX11_line 48 = .ok (.if_icmp .ge 33, 3) := by decide +kernel
theorem dX11_line_51 : decode cX11_line 51 = .ok (.iload 4, 2) := by decide +kernel
theorem dX11_line_53 : decode cX11_line 53 = .ok (.iconst (-1), 1) := by decide +kernel
theorem dX11_line_54 : decode cX11_line 54 = .ok (.if_icmp .eq 27, 3) := by decide +kernel
theorem dX11_line_57 : decode cX11_line 57 = .ok (.iload_n 3, 1) := by decide +kernel
theorem dX11_line_58 : decode cX11_line 58 = .ok (.iconst 1, 1) := by decide +kernel
theorem dX11_line_59 : decode cX11_line 59 = .ok (.iload 4, 2) := by decide +kernel
theorem dX11_line_61 : decode cX11_line 61 = .ok (.ishl, 1) := by decide +kernel
theorem dX11_line_62 : decode cX11_line 62 = .ok (.ior, 1) := by decide +kernel
theorem dX11_line_63 : decode cX11_line 63 = .ok (.istore_n 3, 1) := by decide +kernel
theorem dX11_line_64 : decode cX11_line 64 = .ok (.aload_n 0, 1) := by decide +kernel
theorem dX11_line_65 : decode cX11_line 65 = .ok (.getfield 28, 3) := by decide +kernel
theorem dX11_line_68 : decode cX11_line 68 = .ok (.iload_n 1, 1) := by decide +kernel
theorem dX11_line_69 : decode cX11_line 69 = .ok (.iload_n 3, 1) := by decide +kernel
theorem dX11_line_70 : decode cX11_line 70 = .ok (.invokevirtual 263, 3) := by decide +kernel
theorem dX11_line_73 : decode cX11_line 73 = .ok (.istore 4, 2) := by decide +kernel
theorem dX11_line_75 : decode cX11_line 75 = .ok (.iinc 5 1, 3) := by decide +kernel
theorem dX11_line_78 : decode cX11_line 78 = .ok (.goto (-33), 3) := by decide +kernel
theorem dX11_line_81 : decode cX11_line 81 = .ok (.iload 4, 2) := by decide +kernel
theorem dX11_line_83 : decode cX11_line 83 = .ok (.ireturn, 1) := by decide +kernel
theorem dX11_meals_0 : decode cX11_meals 0 = .ok (.iload_n 1, 1) := by decide +kernel
theorem dX11_meals_1 : decode cX11_meals 1 = .ok (.iconst 1, 1) := by decide +kernel
theorem dX11_meals_2 : decode cX11_meals 2 = .ok (.if_icmp .lt 9, 3) := by decide +kernel
theorem dX11_meals_5 : decode cX11_meals 5 = .ok (.iload_n 1, 1) := by decide +kernel
theorem dX11_meals_6 : decode cX11_meals 6 = .ok (.bipush 60, 2) := by decide +kernel
theorem dX11_meals_8 : decode cX11_meals 8 = .ok (.if_icmp .le 5, 3) := by decide +kernel
theorem dX11_meals_11 : decode cX11_meals 11 = .ok (.iconst (-1), 1) := by decide +kernel
theorem dX11_meals_12 : decode cX11_meals 12 = .ok (.ireturn, 1) := by decide +kernel
theorem dX11_meals_13 : decode cX11_meals 13 = .ok (.aload_n 0, 1) := by decide +kernel
theorem dX11_meals_14 : decode cX11_meals 14 = .ok (.getfield 38, 3) := by decide +kernel
theorem dX11_meals_17 : decode cX11_meals 17 = .ok (.aload_n 0, 1) := by decide +kernel
theorem dX11_meals_18 : decode cX11_meals 18 = .ok (.getfield 28, 3) := by decide +kernel
theorem dX11_meals_21 : decode cX11_meals 21 = .ok (.invokevirtual 225, 3) := by decide +kernel
theorem dX11_meals_24 : decode cX11_meals 24 = .ok (.aload_n 0, 1) := by decide +kernel
theorem dX11_meals_25 : decode cX11_meals 25 = .ok (.aload_n 0, 1) := by decide +kernel
theorem dX11_meals_26 : decode cX11_meals 26 = .ok (.getfield 28, 3) := by decide +kernel
theorem dX11_meals_29 : decode cX11_meals 29 = .ok (.iload_n 1, 1) := by decide +kernel
theorem dX11_meals_30 : decode cX11_meals 30 = .ok (.invokevirtual 250, 3) := by decide +kernel
theorem dX11_meals_33 : decode cX11_meals 33 = .ok (.invokevirtual 253, 3) := by decide +kernel
theorem dX11_meals_36 : decode cX11_meals 36 = .ok (.ireturn, 1) := by decide +kernel
theorem dX11_undo_0 : decode cX11_undo 0 = .ok (.aload_n 0, 1) := by decide +kernel
theorem dX11_undo_1 : decode cX11_undo 1 = .ok (.getfield 38, 3) := by decide +kernel
theorem dX11_undo_4 : decode cX11_undo 4 = .ok (.aload_n 0, 1) := by decide +kernel
theorem dX11_undo_5 : decode cX11_undo 5 = .ok (.getfield 28, 3) := by decide +kernel
theorem dX11_undo_8 : decode cX11_undo 8 = .ok (.invokevirtual 256, 3) := by decide +kernel
theorem dX11_undo_11 : decode cX11_undo 11 = .ok (.ireturn, 1) := by decide +kernel
theorem dX1_eatAll_0 : decode cX1_eatAll 0 = .ok (.iconst 0, 1) := by decide +kernel
theorem dX1_eatAll_1 : decode cX1_eatAll 1 = .ok (.istore_n 2, 1) := by decide +kernel
theorem dX1_eatAll_2 : decode cX1_eatAll 2 = .ok (.iload_n 2, 1) := by decide +kernel
theorem dX1_eatAll_3 : decode cX1_eatAll 3 = .ok (.aload_n 0, 1) := by decide +kernel
theorem dX1_eatAll_4 : decode cX1_eatAll 4 = .ok (.getfield 52, 3) := by decide +kernel
theorem dX1_eatAll_7 : decode cX1_eatAll 7 = .ok (.getfield 97, 3) := by decide +kernel
theorem dX1_eatAll_10 : decode cX1_eatAll 10 = .ok (.if_icmp .ge 29, 3) := by decide +kernel
theorem dX1_eatAll_13 : decode cX1_eatAll 13 = .ok (.aload_n 0, 1) := by decide +kernel
theorem dX1_eatAll_14 : decode cX1_eatAll 14 = .ok (.iload_n 1, 1) := by decide +kernel
theorem dX1_eatAll_15 : decode cX1_eatAll 15 = .ok (.iload_n 2, 1) := by decide +kernel
theorem dX1_eatAll_16 : decode cX1_eatAll 16 = .ok (.aload_n 0, 1) := by decide +kernel
theorem dX1_eatAll_17 : decode cX1_eatAll 17 = .ok (.iload_n 1, 1) := by decide +kernel
theorem dX1_eatAll_18 : decode cX1_eatAll 18 = .ok (.iload_n 2, 1) := by decide +kernel
theorem dX1_eatAll_19 : decode cX1_eatAll 19 = .ok (.invokevirtual 71, 3) := by decide +kernel
theorem dX1_eatAll_22 : decode cX1_eatAll 22 = .ok (.aload_n 0, 1) := by decide +kernel
theorem dX1_eatAll_23 : decode cX1_eatAll 23 = .ok (.iload_n 1, 1) := by decide +kernel
theorem dX1_eatAll_24 : decode cX1_eatAll 24 = .ok (.invokevirtual 109, 3) := by decide +kernel
theorem dX1_eatAll_27 : decode cX1_eatAll 27 = .ok (.invokestatic 100, 3) := by decide +kernel
theorem dX1_eatAll_30 : decode cX1_eatAll 30 = .ok (.invokevirtual 112, 3) := by decide +kernel
theorem dX1_eatAll_33 : decode cX1_eatAll 33 = .ok (.iinc 2 1, 3) := by decide +kernel
theorem dX1_eatAll_36 : decode cX1_eatAll 36 = .ok (.goto (-34), 3) := by decide +kernel
theorem dX1_eatAll_39 : decode cX1_eatAll 39 = .ok (.return_, 1) := by decide +kernel
theorem dX1_endMeal_0 : decode cX1_endMeal 0 = .ok (.iconst 0, 1) := by decide +kernel
theorem dX1_endMeal_1 : decode cX1_endMeal 1 = .ok (.istore_n 1, 1) := by decide +kernel
theorem dX1_endMeal_2 : decode cX1_endMeal 2 = .ok (.iload_n 1, 1) := by decide +kernel
theorem dX1_endMeal_3 : decode cX1_endMeal 3 = .ok (.aload_n 0, 1) := by decide +kernel
theorem dX1_endMeal_4 : decode cX1_endMeal 4 = .ok (.getfield 52, 3) := by decide +kernel
theorem dX1_endMeal_7 : decode cX1_endMeal 7 = .ok (.getfield 68, 3) := by decide +kernel
theorem dX1_endMeal_10 : decode cX1_endMeal 10 = .ok (.if_icmp .ge 94, 3) := by decide +kernel
theorem dX1_endMeal_13 : decode cX1_endMeal 13 = .ok (.aload_n 0, 1) := by decide +kernel
theorem dX1_endMeal_14 : decode cX1_endMeal 14 = .ok (.iload_n 1, 1) := by decide +kernel
theorem dX1_endMeal_15 : decode cX1_endMeal 15 = .ok (.invokevirtual 115, 3) := by decide +kernel
theorem dX1_endMeal_18 : decode cX1_endMeal 18 = .ok (.ifCond .eq 17, 3) := by decide +kernel
theorem dX1_endMeal_21 : decode cX1_endMeal 21 = .ok (.aload_n 0, 1) := by decide +kernel
theorem dX1_endMeal_22 : decode cX1_endMeal 22 = .ok (.getfield 27, 3) := by decide +kernel
theorem dX1_endMeal_25 : decode cX1_endMeal 25 = .ok (.iload_n 1, 1) := by decide +kernel
theorem dX1_endMeal_26 : decode cX1_endMeal 26 = .ok (.dup2, 1) := by decide +kernel
theorem dX1_endMeal_27 : decode cX1_endMeal 27 = .ok (.iaload, 1) := by decide +kernel
theorem dX1_endMeal_28 : decode cX1_endMeal 28 = .ok (.aload_n 0, 1) := by decide +kernel
theorem dX1_endMeal_29 : decode cX1_endMeal 29 = .ok (.iload_n 1, 1) := by decide +kernel
theorem dX1_endMeal_30 : decode cX1_endMeal 30 = .ok (.invokevirtual 109, 3) := by decide +kernel
theorem dX1_endMeal_33 : decode cX1_endMeal 33 = .ok (.iadd, 1) := by decide +kernel
theorem dX1_endMeal_34 : decode cX1_endMeal 34 = .ok (.iastore, 1) := by decide +kernel
theorem dX1_endMeal_35 : decode cX1_endMeal 35 = .ok (.aload_n 0, 1) := by decide +kernel
theorem dX1_endMeal_36 : decode cX1_endMeal 36 = .ok (.getfield 24, 3) := by decide +kernel
theorem dX1_endMeal_39 : decode cX1_endMeal 39 = .ok (.iload_n 1, 1) := by decide +kernel
theorem dX1_endMeal_40 : decode cX1_endMeal 40 = .ok (.iconst 0, 1) := by decide +kernel
theorem dX1_endMeal_41 : decode cX1_endMeal 41 = .ok (.iastore, 1) := by decide +kernel
theorem dX1_endMeal_42 : decode cX1_endMeal 42 = .ok (.iconst 0, 1) := by decide +kernel
theorem dX1_endMeal_43 : decode cX1_endMeal 43 = .ok (.istore_n 2, 1) := by decide +kernel
theorem dX1_endMeal_44 : decode cX1_endMeal 44 = .ok (.iload_n 2, 1) := by decide +kernel
theorem dX1_endMeal_45 : decode cX1_endMeal 45 = .ok (.aload_n 0, 1) := by decide +kernel
theorem dX1_endMeal_46 : decode cX1_endMeal 46 = .ok (.getfield 52, 3) := by decide +kernel
theorem dX1_endMeal_49 : decode cX1_endMeal 49 = .ok (.getfield 97, 3) := by decide +kernel
theorem dX1_endMeal_52 : decode cX1_endMeal 52 = .ok (.if_icmp .ge 46, 3) := by decide +kernel
theorem dX1_endMeal_55 : decode cX1_endMeal 55 = .ok (.aload_n 0, 1) := by decide +kernel
theorem dX1_endMeal_56 : decode cX1_endMeal 56 = .ok (.iload_n 1, 1) := by decide +kernel
theorem dX1_endMeal_57 : decode cX1_endMeal 57 = .ok (.iload_n 2, 1) := by decide +kernel
theorem dX1_endMeal_58 : decode cX1_endMeal 58 = .ok (.invokevirtual 71, 3) := by decide +kernel
theorem dX1_endMeal_61 : decode cX1_endMeal 61 = .ok (.aload_n 0, 1) := by decide +kernel
theorem dX1_endMeal_62 : decode cX1_endMeal 62 = .ok (.getfield 52, 3) := by decide +kernel
theorem dX1_endMeal_65 : decode cX1_endMeal 65 = .ok (.getfield 123, 3) := by decide +kernel
theorem dX1_endMeal_68 : decode cX1_endMeal 68 = .ok (.iload_n 2, 1) := by decide +kernel
theorem dX1_endMeal_69 : decode cX1_endMeal 69 = .ok (.iaload, 1) := by decide +kernel
theorem dX1_endMeal_70 : decode cX1_endMeal 70 = .ok (.invokestatic 100, 3) := by decide +kernel
theorem dX1_endMeal_73 : decode cX1_endMeal 73 = .ok (.istore_n 3, 1) := by decide +kernel
theorem dX1_endMeal_74 : decode cX1_endMeal 74 = .ok (.aload_n 0, 1) := by decide +kernel
theorem dX1_endMeal_75 : decode cX1_endMeal 75 = .ok (.iload_n 1, 1) := by decide +kernel
theorem dX1_endMeal_76 : decode cX1_endMeal 76 = .ok (.iload_n 2, 1) := by decide +kernel
theorem dX1_endMeal_77 : decode cX1_endMeal 77 = .ok (.iload_n 3, 1) := by decide +kernel
theorem dX1_endMeal_78 : decode cX1_endMeal 78 = .ok (.ineg, 1) := by decide +kernel
theorem dX1_endMeal_79 : decode cX1_endMeal 79 = .ok (.invokevirtual 105, 3) := by decide +kernel
theorem dX1_endMeal_82 : decode cX1_endMeal 82 = .ok (.aload_n 0, 1) := by decide +kernel
theorem dX1_endMeal_83 : decode cX1_endMeal 83 = .ok (.dup, 1) := by decide +kernel
theorem dX1_endMeal_84 : decode cX1_endMeal 84 = .ok (.getfield 43, 3) := by decide +kernel
theorem dX1_endMeal_87 : decode cX1_endMeal 87 = .ok (.iload_n 3, 1) := by decide +kernel
theorem dX1_endMeal_88 : decode cX1_endMeal 88 = .ok (.iadd, 1) := by decide +kernel
theorem dX1_endMeal_89 : decode cX1_endMeal 89 = .ok (.putfield 43, 3) := by decide +kernel
theorem dX1_endMeal_92 : decode cX1_endMeal 92 = .ok (.iinc 2 1, 3) := by decide +kernel
theorem dX1_endMeal_95 : decode cX1_endMeal 95 = .ok (.goto (-51), 3) := by decide +kernel
theorem dX1_endMeal_98 : decode cX1_endMeal 98 = .ok (.iinc 1 1, 3) := by decide +kernel
theorem dX1_endMeal_101 : decode cX1_endMeal 101 = .ok (.goto (-99), 3) := by decide +kernel
theorem dX1_endMeal_104 : decode cX1_endMeal 104 = .ok (.aload_n 0, 1) := by decide +kernel
theorem dX1_endMeal_105 : decode cX1_endMeal 105 = .ok (.dup, 1) := by decide +kernel
theorem dX1_endMeal_106 : decode cX1_endMeal 106 = .ok (.getfield 37, 3) := by decide +kernel
theorem dX1_endMeal_109 : decode cX1_endMeal 109 = .ok (.iconst 1, 1) := by decide +kernel
theorem dX1_endMeal_110 : decode cX1_endMeal 110 = .ok (.iadd, 1) := by decide +kernel
theorem dX1_endMeal_111 : decode cX1_endMeal 111 = .ok (.putfield 37, 3) := by decide +kernel
theorem dX1_endMeal_114 : decode cX1_endMeal 114 = .ok (.return_, 1) := by decide +kernel
theorem dX1_letMealsGo_0 : decode cX1_letMealsGo 0 = .ok (.iconst 0, 1) := by decide +kernel
theorem dX1_letMealsGo_1 : decode cX1_letMealsGo 1 = .ok (.istore_n 2, 1) := by decide +kernel
theorem dX1_letMealsGo_2 : decode cX1_letMealsGo 2 = .ok (.iload_n 2, 1) := by decide +kernel
theorem dX1_letMealsGo_3 : decode cX1_letMealsGo 3 = .ok (.iload_n 1, 1) := by decide +kernel
theorem dX1_letMealsGo_4 : decode cX1_letMealsGo 4 = .ok (.if_icmp .ge 23, 3) := by decide +kernel
theorem dX1_letMealsGo_7 : decode cX1_letMealsGo 7 = .ok (.aload_n 0, 1) := by decide +kernel
theorem dX1_letMealsGo_8 : decode cX1_letMealsGo 8 = .ok (.getfield 37, 3) := by decide +kernel
theorem dX1_letMealsGo_11 : decode cX1_letMealsGo 11 = .ok (.sipush 200, 3) := by decide +kernel
theorem dX1_letMealsGo_14 : decode cX1_letMealsGo 14 = .ok (.if_icmp .ge 13, 3) := by decide +kernel
theorem dX1_letMealsGo_17 : decode cX1_letMealsGo 17 = .ok (.aload_n 0, 1) := by decide +kernel
theorem dX1_letMealsGo_18 : decode cX1_letMealsGo 18 = .ok (.invokevirtual 126, 3) := by decide +kernel
theorem dX1_letMealsGo_21 : decode cX1_letMealsGo 21 = .ok (.iinc 2 1, 3) := by decide +kernel
theorem dX1_letMealsGo_24 : decode cX1_letMealsGo 24 = .ok (.goto (-22), 3) := by decide +kernel
theorem dX1_letMealsGo_27 : decode cX1_letMealsGo 27 = .ok (.iload_n 2, 1) := by decide +kernel
theorem dX1_letMealsGo_28 : decode cX1_letMealsGo 28 = .ok (.ireturn, 1) := by decide +kernel
theorem dX1_living_0 : decode cX1_living 0 = .ok (.aload_n 0, 1) := by decide +kernel
theorem dX1_living_1 : decode cX1_living 1 = .ok (.getfield 52, 3) := by decide +kernel
theorem dX1_living_4 : decode cX1_living 4 = .ok (.invokevirtual 62, 3) := by decide +kernel
theorem dX1_living_7 : decode cX1_living 7 = .ok (.aload_n 0, 1) := by decide +kernel
theorem dX1_living_8 : decode cX1_living 8 = .ok (.getfield 30, 3) := by decide +kernel
theorem dX1_living_11 : decode cX1_living 11 = .ok (.iconst (-1), 1) := by decide +kernel
theorem dX1_living_12 : decode cX1_living 12 = .ok (.ixor, 1) := by decide +kernel
theorem dX1_living_13 : decode cX1_living 13 = .ok (.iand, 1) := by decide +kernel
theorem dX1_living_14 : decode cX1_living 14 = .ok (.ireturn, 1) := by decide +kernel
theorem dX4_atLeastWanted_0 : decode cX4_atLeastWanted 0 = .ok (.iconst 0, 1) := by decide +kernel
theorem dX4_atLeastWanted_1 : decode cX4_atLeastWanted 1 = .ok (.istore_n 2, 1) := by decide +kernel
theorem dX4_atLeastWanted_2 : decode cX4_atLeastWanted 2 = .ok (.iconst 0, 1) := by decide +kernel
theorem dX4_atLeastWanted_3 : decode cX4_atLeastWanted 3 = .ok (.istore_n 3, 1) := by decide +kernel
theorem dX4_atLeastWanted_4 : decode cX4_atLeastWanted 4 = .ok (.iload_n 3, 1) := by decide +kernel
theorem dX4_atLeastWanted_5 : decode cX4_atLeastWanted 5 = .ok (.aload_n 0, 1) := by decide +kernel
theorem dX4_atLeastWanted_6 : decode cX4_atLeastWanted 6 = .ok (.getfield 72, 3) := by decide +kernel
theorem dX4_atLeastWanted_9 : decode cX4_atLeastWanted 9 = .ok (.getfield 76, 3) := by decide +kernel
theorem dX4_atLeastWanted_12 : decode cX4_atLeastWanted 12 = .ok (.if_icmp .ge 32, 3) := by decide +kernel
theorem dX4_atLeastWanted_15 : decode cX4_atLeastWanted 15 = .ok (.iload_n 1, 1) := by decide +kernel
theorem dX4_atLeastWanted_16 : decode cX4_atLeastWanted 16 = .ok (.iload_n 3, 1) := by decide +kernel
theorem dX4_atLeastWanted_17 : decode cX4_atLeastWanted 17 = .ok (.ishr, 1) := by decide +kernel
theorem dX4_atLeastWanted_18 : decode cX4_atLeastWanted 18 = .ok (.iconst 1, 1) := by decide +kernel
theorem dX4_atLeastWanted_19 : decode cX4_atLeastWanted 19 = .ok (.iand, 1) := by decide +kernel
theorem dX4_atLeastWanted_20 : decode cX4_atLeastWanted 20 = .ok (.ifCond .eq 18, 3) := by decide +kernel
theorem dX4_atLeastWanted_23 : decode cX4_atLeastWanted 23 = .ok (.iload_n 2, 1) := by decide +kernel
theorem dX4_atLeastWanted_24 : decode cX4_atLeastWanted 24 = .ok (.aload_n 0, 1) := by decide +kernel
theorem dX4_atLeastWanted_25 : decode cX4_atLeastWanted 25 = .ok (.iload_n 3, 1) := by decide +kernel
theorem dX4_atLeastWanted_26 : decode cX4_atLeastWanted 26 = .ok (.invokevirtual 65, 3) := by decide +kernel
theorem dX4_atLeastWanted_29 : decode cX4_atLeastWanted 29 = .ok (.aload_n 0, 1) := by decide +kernel
theorem dX4_atLeastWanted_30 : decode cX4_atLeastWanted 30 = .ok (.getfield 81, 3) := by decide +kernel
theorem dX4_atLeastWanted_33 : decode cX4_atLeastWanted 33 = .ok (.iload_n 3, 1) := by decide +kernel
theorem dX4_atLeastWanted_34 : decode cX4_atLeastWanted 34 = .ok (.iaload, 1) := by decide +kernel
theorem dX4_atLeastWanted_35 : decode cX4_atLeastWanted 35 = .ok (.isub, 1) := by decide +kernel
theorem dX4_atLeastWanted_36 : decode cX4_atLeastWanted 36 = .ok (.iadd, 1) := by decide +kernel
theorem dX4_atLeastWanted_37 : decode cX4_atLeastWanted 37 = .ok (.istore_n 2, 1) := by decide +kernel
theorem dX4_atLeastWanted_38 : decode cX4_atLeastWanted 38 = .ok (.iinc 3 1, 3) := by decide +kernel
theorem dX4_atLeastWanted_41 : decode cX4_atLeastWanted 41 = .ok (.goto (-37), 3) := by decide +kernel
theorem dX4_atLeastWanted_44 : decode cX4_atLeastWanted 44 = .ok (.iload_n 2, 1) := by decide +kernel
theorem dX4_atLeastWanted_45 : decode cX4_atLeastWanted 45 = .ok (.iconst 0, 1) := by decide +kernel
theorem dX4_atLeastWanted_46 : decode cX4_atLeastWanted 46 = .ok (.invokestatic 84, 3) := by decide +kernel
theorem dX4_atLeastWanted_49 : decode cX4_atLeastWanted 49 = .ok (.ireturn, 1) := by decide +kernel
theorem dX4_goOn_0 : decode cX4_goOn 0 = .ok (.iload_n 2, 1) := by decide +kernel
theorem dX4_goOn_1 : decode cX4_goOn 1 = .ok (.ifCond .eq 9, 3) := by decide +kernel
theorem dX4_goOn_4 : decode cX4_goOn 4 = .ok (.iload_n 1, 1) := by decide +kernel
theorem dX4_goOn_5 : decode cX4_goOn 5 = .ok (.bipush 7, 2) := by decide +kernel
theorem dX4_goOn_7 : decode cX4_goOn 7 = .ok (.if_icmp .lt 24, 3) := by decide +kernel
theorem dX4_goOn_10 : decode cX4_goOn 10 = .ok (.aload_n 0, 1) := by decide +kernel
theorem dX4_goOn_11 : decode cX4_goOn 11 = .ok (.iload_n 3, 1) := by decide +kernel
theorem dX4_goOn_12 : decode cX4_goOn 12 = .ok (.putfield 28, 3) := by decide +kernel
theorem dX4_goOn_15 : decode cX4_goOn 15 = .ok (.aload_n 0, 1) := by decide +kernel
theorem dX4_goOn_16 : decode cX4_goOn 16 = .ok (.getfield 17, 3) := by decide +kernel
theorem dX4_goOn_19 : decode cX4_goOn 19 = .ok (.iconst 0, 1) := by decide +kernel
theorem dX4_goOn_20 : decode cX4_goOn 20 = .ok (.aload_n 0, 1) := by decide +kernel
theorem dX4_goOn_21 : decode cX4_goOn 21 = .ok (.getfield 21, 3) := by decide +kernel
theorem dX4_goOn_24 : decode cX4_goOn 24 = .ok (.iconst 0, 1) := by decide +kernel
theorem dX4_goOn_25 : decode cX4_goOn 25 = .ok (.bipush 7, 2) := by decide +kernel
theorem dX4_goOn_27 : decode cX4_goOn 27 = .ok (.invokestatic 52, 3) := by decide +kernel
theorem dX4_goOn_30 : decode cX4_goOn 30 = .ok (.return_, 1) := by decide +kernel
theorem dX4_goOn_31 : decode cX4_goOn 31 = .ok (.aload_n 0, 1) := by decide +kernel
theorem dX4_goOn_32 : decode cX4_goOn 32 = .ok (.getfield 11, 3) := by decide +kernel
theorem dX4_goOn_35 : decode cX4_goOn 35 = .ok (.iload_n 1, 1) := by decide +kernel
theorem dX4_goOn_36 : decode cX4_goOn 36 = .ok (.aaload, 1) := by decide +kernel
theorem dX4_goOn_37 : decode cX4_goOn 37 = .ok (.astore 4, 2) := by decide +kernel
theorem dX4_goOn_39 : decode cX4_goOn 39 = .ok (.aload_n 0, 1) := by decide +kernel
theorem dX4_goOn_40 : decode cX4_goOn 40 = .ok (.getfield 11, 3) := by decide +kernel
theorem dX4_goOn_43 : decode cX4_goOn 43 = .ok (.iload_n 1, 1) := by decide +kernel
theorem dX4_goOn_44 : decode cX4_goOn 44 = .ok (.iconst 1, 1) := by decide +kernel
theorem dX4_goOn_45 : decode cX4_goOn 45 = .ok (.iadd, 1) := by decide +kernel
theorem dX4_goOn_46 : decode cX4_goOn 46 = .ok (.aaload, 1) := by decide +kernel
theorem dX4_goOn_47 : decode cX4_goOn 47 = .ok (.astore 5, 2) := by decide +kernel
theorem dX4_goOn_49 : decode cX4_goOn 49 = .ok (.iconst 0, 1) := by decide +kernel
theorem dX4_goOn_50 : decode cX4_goOn 50 = .ok (.istore 6, 2) := by decide +kernel
theorem dX4_goOn_52 : decode cX4_goOn 52 = .ok (.iload 6, 2) := by decide +kernel
theorem dX4_goOn_54 : decode cX4_goOn 54 = .ok (.bipush 7, 2) := by decide +kernel
theorem dX4_goOn_56 : decode cX4_goOn 56 = .ok (.if_icmp .ge 97, 3) := by decide +kernel
theorem dX4_goOn_59 : decode cX4_goOn 59 = .ok (.iload_n 2, 1) := by decide +kernel
theorem dX4_goOn_60 : decode cX4_goOn 60 = .ok (.iload 6, 2) := by decide +kernel
theorem dX4_goOn_62 : decode cX4_goOn 62 = .ok (.ishr, 1) := by decide +kernel
theorem dX4_goOn_63 : decode cX4_goOn 63 = .ok (.iconst 1, 1) := by decide +kernel
theorem dX4_goOn_64 : decode cX4_goOn 64 = .ok (.iand, 1) := by decide +kernel
theorem dX4_goOn_65 : decode cX4_goOn 65 = .ok (.ifCond .eq 82, 3) := by decide +kernel
theorem dX4_goOn_68 : decode cX4_goOn 68 = .ok (.aload 5, 2) := by decide +kernel
theorem dX4_goOn_70 : decode cX4_goOn 70 = .ok (.aload 4, 2) := by decide +kernel
theorem dX4_goOn_72 : decode cX4_goOn 72 = .ok (.invokevirtual 44, 3) := by decide +kernel
theorem dX4_goOn_75 : decode cX4_goOn 75 = .ok (.aload 5, 2) := by decide +kernel
theorem dX4_goOn_77 : decode cX4_goOn 77 = .ok (.iload 6, 2) := by decide +kernel
theorem dX4_goOn_79 : decode cX4_goOn 79 = .ok (.invokevirtual 58, 3) := by decide +kernel
theorem dX4_goOn_82 : decode cX4_goOn 82 = .ok (.aload 5, 2) := by decide +kernel
theorem dX4_goOn_84 : decode cX4_goOn 84 = .ok (.iload 6, 2) := by decide +kernel
theorem dX4_goOn_86 : decode cX4_goOn 86 = .ok (.invokevirtual 62, 3) := by decide +kernel
theorem dX4_goOn_89 : decode cX4_goOn 89 = .ok (.pop, 1) := by decide +kernel
theorem dX4_goOn_90 : decode cX4_goOn 90 = .ok (.aload_n 0, 1) := by decide +kernel
theorem dX4_goOn_91 : decode cX4_goOn 91 = .ok (.getfield 17, 3) := by decide +kernel
theorem dX4_goOn_94 : decode cX4_goOn 94 = .ok (.iload_n 1, 1) := by decide +kernel
theorem dX4_goOn_95 : decode cX4_goOn 95 = .ok (.iload 6, 2) := by decide +kernel
theorem dX4_goOn_97 : decode cX4_goOn 97 = .ok (.iastore, 1) := by decide +kernel
theorem dX4_goOn_98 : decode cX4_goOn 98 = .ok (.iload_n 2, 1) := by decide +kernel
theorem dX4_goOn_99 : decode cX4_goOn 99 = .ok (.iconst 1, 1) := by decide +kernel
theorem dX4_goOn_100 : decode cX4_goOn 100 = .ok (.iload 6, 2) := by decide +kernel
theorem dX4_goOn_102 : decode cX4_goOn 102 = .ok (.ishl, 1) := by decide +kernel
theorem dX4_goOn_103 : decode cX4_goOn 103 = .ok (.iconst (-1), 1) := by decide +kernel
theorem dX4_goOn_104 : decode cX4_goOn 104 = .ok (.ixor, 1) := by decide +kernel
theorem dX4_goOn_105 : decode cX4_goOn 105 = .ok (.iand, 1) := by decide +kernel
theorem dX4_goOn_106 : decode cX4_goOn 106 = .ok (.istore 7, 2) := by decide +kernel
theorem dX4_goOn_108 : decode cX4_goOn 108 = .ok (.iload_n 3, 1) := by decide +kernel
theorem dX4_goOn_109 : decode cX4_goOn 109 = .ok (.aload 5, 2) := by decide +kernel
theorem dX4_goOn_111 : decode cX4_goOn 111 = .ok (.iload 6, 2) := by decide +kernel
theorem dX4_goOn_113 : decode cX4_goOn 113 = .ok (.invokevirtual 65, 3) := by decide +kernel
theorem dX4_goOn_116 : decode cX4_goOn 116 = .ok (.iadd, 1) := by decide +kernel
theorem dX4_goOn_117 : decode cX4_goOn 117 = .ok (.istore 8, 2) := by decide +kernel
theorem dX4_goOn_119 : decode cX4_goOn 119 = .ok (.iload 8, 2) := by decide +kernel
theorem dX4_goOn_121 : decode cX4_goOn 121 = .ok (.aload 5, 2) := by decide +kernel
theorem dX4_goOn_123 : decode cX4_goOn 123 = .ok (.iload 7, 2) := by decide +kernel
theorem dX4_goOn_125 : decode cX4_goOn 125 = .ok (.invokestatic 68, 3) := by decide +kernel
theorem dX4_goOn_128 : decode cX4_goOn 128 = .ok (.iadd, 1) := by decide +kernel
theorem dX4_goOn_129 : decode cX4_goOn 129 = .ok (.aload_n 0, 1) := by decide +kernel
theorem dX4_goOn_130 : decode cX4_goOn 130 = .ok (.getfield 28, 3) := by decide +kernel
theorem dX4_goOn_133 : decode cX4_goOn 133 = .ok (.if_icmp .ge 14, 3) := by decide +kernel
theorem dX4_goOn_136 : decode cX4_goOn 136 = .ok (.aload_n 0, 1) := by decide +kernel
theorem dX4_goOn_137 : decode cX4_goOn 137 = .ok (.iload_n 1, 1) := by decide +kernel
theorem dX4_goOn_138 : decode cX4_goOn 138 = .ok (.iconst 1, 1) := by decide +kernel
theorem dX4_goOn_139 : decode cX4_goOn 139 = .ok (.iadd, 1) := by decide +kernel
theorem dX4_goOn_140 : decode cX4_goOn 140 = .ok (.iload 7, 2) := by decide +kernel
theorem dX4_goOn_142 : decode cX4_goOn 142 = .ok (.iload 8, 2) := by decide +kernel
theorem dX4_goOn_144 : decode cX4_goOn 144 = .ok (.invokevirtual 48, 3) := by decide +kernel
theorem dX4_goOn_147 : decode cX4_goOn 147 = .ok (.iinc 6 1, 3) := by decide +kernel
theorem dX4_goOn_150 : decode cX4_goOn 150 = .ok (.goto (-98), 3) := by decide +kernel
theorem dX4_goOn_153 : decode cX4_goOn 153 = .ok (.return_, 1) := by decide +kernel
theorem dX5_takeBack_0 : decode cX5_takeBack 0 = .ok (.aload_n 0, 1) := by decide +kernel
theorem dX5_takeBack_1 : decode cX5_takeBack 1 = .ok (.getfield 17, 3) := by decide +kernel
theorem dX5_takeBack_4 : decode cX5_takeBack 4 = .ok (.ifCond .ne 5, 3) := by decide +kernel
theorem dX5_takeBack_7 : decode cX5_takeBack 7 = .ok (.iconst (-1), 1) := by decide +kernel
theorem dX5_takeBack_8 : decode cX5_takeBack 8 = .ok (.ireturn, 1) := by decide +kernel
theorem dX5_takeBack_9 : decode cX5_takeBack 9 = .ok (.aload_n 0, 1) := by decide +kernel
theorem dX5_takeBack_10 : decode cX5_takeBack 10 = .ok (.dup, 1) := by decide +kernel
theorem dX5_takeBack_11 : decode cX5_takeBack 11 = .ok (.getfield 17, 3) := by decide +kernel
theorem dX5_takeBack_14 : decode cX5_takeBack 14 = .ok (.iconst 1, 1) := by decide +kernel
theorem dX5_takeBack_15 : decode cX5_takeBack 15 = .ok (.isub, 1) := by decide +kernel
theorem dX5_takeBack_16 : decode cX5_takeBack 16 = .ok (.putfield 17, 3) := by decide +kernel
theorem dX5_takeBack_19 : decode cX5_takeBack 19 = .ok (.aload_n 0, 1) := by decide +kernel
theorem dX5_takeBack_20 : decode cX5_takeBack 20 = .ok (.aload_n 0, 1) := by decide +kernel
theorem dX5_takeBack_21 : decode cX5_takeBack 21 = .ok (.getfield 21, 3) := by decide +kernel
theorem dX5_takeBack_24 : decode cX5_takeBack 24 = .ok (.ifCond .le 12, 3) := by decide +kernel
theorem dX5_takeBack_27 : decode cX5_takeBack 27 = .ok (.aload_n 0, 1) := by decide +kernel
theorem dX5_takeBack_28 : decode cX5_takeBack 28 = .ok (.getfield 21, 3) := by decide +kernel
theorem dX5_takeBack_31 : decode cX5_takeBack 31 = .ok (.iconst 1, 1) := by decide +kernel
theorem dX5_takeBack_32 : decode cX5_takeBack 32 = .ok (.isub, 1) := by decide +kernel
theorem dX5_takeBack_33 : decode cX5_takeBack 33 = .ok (.goto 5, 3) := by decide +kernel
theorem dX5_takeBack_36 : decode cX5_takeBack 36 = .ok (.bipush 8, 2) := by decide +kernel
theorem dX5_takeBack_38 : decode cX5_takeBack 38 = .ok (.putfield 21, 3) := by decide +kernel
theorem dX5_takeBack_41 : decode cX5_takeBack 41 = .ok (.aload_n 1, 1) := by decide +kernel
theorem dX5_takeBack_42 : decode cX5_takeBack 42 = .ok (.aload_n 0, 1) := by decide +kernel
theorem dX5_takeBack_43 : decode cX5_takeBack 43 = .ok (.getfield 13, 3) := by decide +kernel
theorem dX5_takeBack_46 : decode cX5_takeBack 46 = .ok (.aload_n 0, 1) := by decide +kernel
theorem dX5_takeBack_47 : decode cX5_takeBack 47 = .ok (.getfield 21, 3) := by decide +kernel
theorem dX5_takeBack_50 : decode cX5_takeBack 50 = .ok (.aaload, 1) := by decide +kernel
theorem dX5_takeBack_51 : decode cX5_takeBack 51 = .ok (.invokevirtual 27, 3) := by decide +kernel
theorem dX5_takeBack_54 : decode cX5_takeBack 54 = .ok (.aload_n 0, 1) := by decide +kernel
theorem dX5_takeBack_55 : decode cX5_takeBack 55 = .ok (.getfield 17, 3) := by decide +kernel
theorem dX5_takeBack_58 : decode cX5_takeBack 58 = .ok (.ireturn, 1) := by decide +kernel
theorem rc_60 : Rg 60 60 60 := ⟨by decide, by decide⟩
theorem rc_63 : Rg 63 63 63 := ⟨by decide, by decide⟩
theorem rc_200 : Rg 200 200 200 := ⟨by decide, by decide⟩
theorem rc_252645135 : Rg 252645135 252645135 252645135 := ⟨by decide, by decide⟩
theorem rc_858993459 : Rg 858993459 858993459 858993459 := ⟨by decide, by decide⟩
theorem rc_1431655765 : Rg 1431655765 1431655765 1431655765 := ⟨by decide, by decide⟩
set_option maxRecDepth 100000 in
set_option maxHeartbeats 8000000 in
theorem c_X1_endMeal {l : Launch} {D : va_G} {cy : Nat → ClassId} {L : List Nat} {κ ln : Nat → Nat} {R : Nat → Nat → Option Nat} {I : Nat → Nat → Int32} {J : Nat → Nat → Int64} {ow : Nat → Nat × Nat} (W9 : ∀ a ∈ L, Shp L κ ln R ow a) {x : Nat} (hLx : x ∈ L) (hkx : κ x = 1) (hU : Iv L κ R ow I) : CtV l yX1_endMeal cX1_endMeal 4 none { frames := 1, cells := 0, slots := 0, locals := 60 } D cy L κ ln R I J [.ref x] (fun I2 J2 => Iv L κ R ow I2 ∧ Fq L κ ow [109, 111, 16200, 16300, 16500, 16600] I I2 ∧ Fq L κ ow [] J J2) := by
  refine CtV.of (by decide +kernel) (Nat.le_of_ble_eq_true rfl) ?_
  intro p e s m below meth c B K
  have C := B.1
  have hF : Fq L κ ow [109, 111, 16200, 16300, 16500, 16600] I I := fq_rf
  have hG : Fq L κ ow [] J J := fq_rf
  obtain ⟨b_1, hb_1, hb_1L, hb_1k, hb_1n, hb_1o⟩ := shp_a (W9 x hLx) hkx 5 14 7 rfl (by decide)
  obtain ⟨b_2, hb_2, hb_2L, hb_2k, hb_2n, hb_2o⟩ := shp_a (W9 x hLx) hkx 6 14 7 rfl (by decide)
  obtain ⟨b_3, hb_3, hb_3L, hb_3k⟩ := shp_o (W9 x hLx) hkx 0 8 rfl (by decide)
  obtain ⟨b_4, hb_4, hb_4L, hb_4k, hb_4n, hb_4o⟩ := shp_a (W9 b_3 hb_3L) hb_3k 4 14 6 rfl (by decide)
  refine g_lo (is := [0]) (lo2 := [(0, .ref x)]) rfl ?_
  have l_2 : ∀ (n_2 : Nat) (I_5 : Nat → Nat → Int32) (J_6 : Nat → Nat → Int64) (hU_7 : Iv L κ R ow I_5) (hF_8 : Fq L κ ow [109, 111, 16200, 16300, 16500, 16600] I I_5) (hG_9 : Fq L κ ow [] J J_6) (v_10 : Int32) (rv_10 : Rg 0 7 v_10) (hm_11 : 7 < (v_10 : Int32).toInt + (n_2 : Int)), WG p l e { frames := 1, cells := 0, slots := 0, locals := 60 } s m ([.ref x] : List Value).toArray below meth c 4 0 0 (MQ below (Qv_ D cy L κ ln R (fun I2 J2 => Iv L κ R ow I2 ∧ Fq L κ ow [109, 111, 16200, 16300, 16500, 16600] I I2 ∧ Fq L κ ow [] J J2)) ([.ref x] : List Value).toArray s 0 0 (Al_ L)) D cy (Al_ L) s.heap L κ ln R I_5 J_6 2 [(0, .ref x), (1, .int v_10)] [] := by
    intro n_2
    induction n_2 with
    | zero =>
      intro I_5 J_6 hU_7 hF_8 hG_9 v_10 rv_10 hm_11
      exact ms_0 rv_10 hm_11
    | succ n_2 ih_2 =>
      intro I_5 J_6 hU_7 hF_8 hG_9 v_10 rv_10 hm_11
      have l_44 : ∀ (n_44 : Nat) (I_12 : Nat → Nat → Int32) (J_13 : Nat → Nat → Int64) (hU_14 : Iv L κ R ow I_12) (hF_15 : Fq L κ ow [109, 111, 16200, 16300, 16500, 16600] I I_12) (hG_16 : Fq L κ ow [] J J_13) (v_17 : Int32) (rv_17 : Rg 0 6 v_17) (v_18 : Int32) (rv_18 : Rg 0 6 v_18) (v_19 : Int32) (rv_19 : Rg 1 7 v_19) (q_20 : I_12 b_3 5 = v_19) (hm_21 : 7 < (v_17 : Int32).toInt + ((n_2 + 1 : Nat) : Int)) (hm_22 : 6 < (v_18 : Int32).toInt + (n_44 : Int)), WG p l e { frames := 1, cells := 0, slots := 0, locals := 60 } s m ([.ref x] : List Value).toArray below meth c 4 0 0 (MQ below (Qv_ D cy L κ ln R (fun I2 J2 => Iv L κ R ow I2 ∧ Fq L κ ow [109, 111, 16200, 16300, 16500, 16600] I I2 ∧ Fq L κ ow [] J J2)) ([.ref x] : List Value).toArray s 0 0 (Al_ L)) D cy (Al_ L) s.heap L κ ln R I_12 J_13 44 [(0, .ref x), (1, .int v_17), (2, .int v_18)] [] := by
        intro n_44
        induction n_44 with
        | zero =>
          intro I_12 J_13 hU_14 hF_15 hG_16 v_17 rv_17 v_18 rv_18 v_19 rv_19 q_20 hm_21 hm_22
          exact ms_0 rv_18 hm_22
        | succ n_44 ih_44 =>
          intro I_12 J_13 hU_14 hF_15 hG_16 v_17 rv_17 v_18 rv_18 v_19 rv_19 q_20 hm_21 hm_22
          refine g_iload_n C 2 dX1_endMeal_44 rfl rfl ?_
          refine g_aload_n C 0 dX1_endMeal_45 rfl rfl ?_
          refine g_getR C K hLx hkx f_1_52 hb_3 dX1_endMeal_46 ?_
          obtain ⟨x_23, hx_23, rx_23⟩ := ex_get (I := I_12) (a := b_3) (j := 6) (lo := 0) (hi := 6) hU_14.1 hb_3L (ro_o hb_3k (by decide)) rfl
          refine g_getI C K hb_3L hb_3k f_1_97 (v := x_23) hx_23 dX1_endMeal_49 ?_
          refine g_icmp_ge C (tgt := 98) dX1_endMeal_52 (by decide) (fun h_24 => ?_) (fun h_24 => ?_)
          · skip
            obtain ⟨x_25, hx_25, rx_25, tx_25⟩ := ex_add (y := 1) 1 7 rv_17 rc_1 (by decide) (by decide) (by decide) (by decide)
            refine g_iinc C dX1_endMeal_98 (k := 1) (v := x_25) rfl hx_25 (by decide) (lo2 := [(1, .int x_25), (0, .ref x), (2, .int v_18)]) rfl ?_
            refine g_goto C (tgt := 2) dX1_endMeal_101 (by decide) ?_
            refine g_lo (is := [1, 0]) (lo2 := [(0, .ref x), (1, .int x_25)]) rfl ?_
            exact ih_2 I_12 J_13 hU_14 hF_15 hG_16 x_25 (rg_w rx_25 (by decide) (by decide)) (ms_1 hm_21 (ti_k tx_25 rc_1) (by decide))
          · skip
            have r_26 := lt_l (hi := 5) (nle h_24) rv_18 rx_23 (by decide)
            have r_27 := lt_r (lo := 1) (nle h_24) rv_18 rx_23 (by decide)
            refine g_aload_n C 0 dX1_endMeal_55 rfl rfl ?_
            refine g_iload_n C 1 dX1_endMeal_56 rfl rfl ?_
            refine g_iload_n C 2 dX1_endMeal_57 rfl rfl ?_
            refine g_callVI C K (c_X1_onPlate W9 hLx hkx v_17 v_18 (rv_17) (r_26) hU_14) hLx hkx (by decide) rfl v_1_71 rfl ⟨rfl, rfl⟩ ⟨Nat.le_of_ble_eq_true rfl, Nat.le_of_ble_eq_true rfl⟩ (Nat.le_of_ble_eq_true rfl) ⟨Nat.le_of_ble_eq_true rfl, Nat.le_of_ble_eq_true rfl⟩ dX1_endMeal_58 rfl (st := []) (fun x_28 I_29 J_30 h_31 => ?_)
            obtain ⟨rfl, rfl, rx_28, fx_28⟩ := h_31
            refine g_aload_n C 0 dX1_endMeal_61 rfl rfl ?_
            refine g_getR C K hLx hkx f_1_52 hb_3 dX1_endMeal_62 ?_
            refine g_getR C K hb_3L hb_3k f_1_123 hb_4 dX1_endMeal_65 ?_
            refine g_iload_n C 2 dX1_endMeal_68 rfl rfl ?_
            obtain ⟨x_32, hx_32, rx_32⟩ := ex_any (z0 := I_12 b_4 (v_18.toNatClampNeg))
            refine h_iald C K hb_4L hb_4k (v := x_32) (v_18.toNatClampNeg) (rfl) (ix_0 r_26 (by decide)) (ix_lt r_26 (by decide) hb_4n (by decide)) hx_32 dX1_endMeal_69 ?_
            obtain ⟨x_33, hx_33, rx_33⟩ := ex_min (-2147483648) 2147483647 rx_28 rx_32 (by decide) (by decide) (by decide)
            refine g_mmin C (v := x_33) mw_1_100 w_min (Nat.le_of_ble_eq_true rfl) (Nat.le_of_ble_eq_true rfl) ⟨Nat.le_of_ble_eq_true rfl, Nat.le_of_ble_eq_true rfl⟩ (hx_33) dX1_endMeal_70 ?_
            refine g_istore_n C dX1_endMeal_73 rfl (by decide) (lo2 := [(3, .int x_33), (0, .ref x), (1, .int v_17), (2, .int v_18)]) rfl ?_
            refine g_aload_n C 1 dX1_endMeal_74 rfl rfl ?_
            refine g_iload_n C 2 dX1_endMeal_75 rfl rfl ?_
            refine g_iload_n C 3 dX1_endMeal_76 rfl rfl ?_
            refine g_iload_n C 0 dX1_endMeal_77 rfl rfl ?_
            obtain ⟨x_34, hx_34, rx_34⟩ := ex_any (z0 := -x_33)
            refine g_ineg C (v := x_34) dX1_endMeal_78 hx_34 ?_
            refine g_callVV C K (c_X1_addToPlate W9 hLx hkx v_17 v_18 x_34 (rv_17) (r_26) hU_14) hLx hkx (by decide) rfl v_1_105 rfl ⟨rfl, rfl⟩ ⟨Nat.le_of_ble_eq_true rfl, Nat.le_of_ble_eq_true rfl⟩ (Nat.le_of_ble_eq_true rfl) ⟨Nat.le_of_ble_eq_true rfl, Nat.le_of_ble_eq_true rfl⟩ dX1_endMeal_79 rfl (st := []) (fun I_36 J_37 h_38 => ?_)
            obtain ⟨hUI_36, hFI_36, hGJ_37, fx_35⟩ := h_38
            have hF_39 := fq_tr hF_15 hFI_36 (by decide)
            have hG_40 := fq_tr hG_16 hGJ_37 (by decide)
            refine g_aload_n C 1 dX1_endMeal_82 rfl rfl ?_
            refine g_dup C dX1_endMeal_83 rfl ?_
            obtain ⟨x_41, hx_41, rx_41⟩ := ex_get (I := I_36) (a := x) (j := 11) (lo := (-2147483648)) (hi := 2147483647) hUI_36.1 hLx (ro_o hkx (by decide)) rfl
            refine g_getI C K hLx hkx f_1_43 (v := x_41) hx_41 dX1_endMeal_84 ?_
            refine g_iload_n C 0 dX1_endMeal_87 rfl rfl ?_
            obtain ⟨x_42, hx_42, rx_42⟩ := ex_any (z0 := x_41 + x_33)
            refine g_iadd C (v := x_42) dX1_endMeal_88 hx_42 ?_
            refine h_putI C K hLx hkx f_1_43 p_1_11 dX1_endMeal_89 (fun I_43 hI_43 => ?_)
            have hU_44 := iv_put W9 hUI_36 hI_43 (ro_o hkx (by decide)) (lo := (-2147483648)) (hi := 2147483647) (rfl) (rx_42) rfl
            have hF_45 := fq_puto hF_39 hI_43 hkx (by decide) (by decide)
            obtain ⟨x_46, hx_46, rx_46, tx_46⟩ := ex_add (y := 1) 1 6 r_26 rc_1 (by decide) (by decide) (by decide) (by decide)
            refine g_iinc C dX1_endMeal_92 (k := 3) (v := x_46) rfl hx_46 (by decide) (lo2 := [(2, .int x_46), (3, .int x_33), (0, .ref x), (1, .int v_17)]) rfl ?_
            refine g_goto C (tgt := 44) dX1_endMeal_95 (by decide) ?_
            refine g_lo (is := [2, 3, 0]) (lo2 := [(0, .ref x), (1, .int v_17), (2, .int x_46)]) rfl ?_
            exact ih_44 I_43 J_37 hU_44 hF_45 hG_40 v_17 (rv_17) x_46 (rg_w rx_46 (by decide) (by decide)) v_19 (rv_19) (kp_k (κ := κ) hI_43 (by rw [hb_3k, hkx]; decide) (fq_at hFI_36 hb_3L hb_3k (by decide) (by decide) q_20)) hm_21 (ms_1 hm_22 (ti_k tx_46 rc_1) (by decide))
      have j_35 : ∀ (I_47 : Nat → Nat → Int32) (J_48 : Nat → Nat → Int64) (hU_49 : Iv L κ R ow I_47) (hF_50 : Fq L κ ow [109, 111, 16200, 16300, 16500, 16600] I I_47) (hG_51 : Fq L κ ow [] J J_48) (v_52 : Int32) (rv_52 : Rg 0 6 v_52) (v_53 : Int32) (rv_53 : Rg 1 7 v_53) (q_54 : I_47 b_3 5 = v_53) (hm_55 : 7 < (v_52 : Int32).toInt + ((n_2 + 1 : Nat) : Int)), WG p l e { frames := 1, cells := 0, slots := 0, locals := 60 } s m ([.ref x] : List Value).toArray below meth c 4 0 0 (MQ below (Qv_ D cy L κ ln R (fun I2 J2 => Iv L κ R ow I2 ∧ Fq L κ ow [109, 111, 16200, 16300, 16500, 16600] I I2 ∧ Fq L κ ow [] J J2)) ([.ref x] : List Value).toArray s 0 0 (Al_ L)) D cy (Al_ L) s.heap L κ ln R I_47 J_48 35 [(0, .ref x), (1, .int v_52)] [] := by
        intro I_47 J_48 hU_49 hF_50 hG_51 v_52 rv_52 v_53 rv_53 q_54 hm_55
        refine g_aload_n C 0 dX1_endMeal_35 rfl rfl ?_
        refine g_getR C K hLx hkx f_1_24 hb_1 dX1_endMeal_36 ?_
        refine g_iload_n C 1 dX1_endMeal_39 rfl rfl ?_
        refine g_iconst C (v := 0) dX1_endMeal_40 (by decide) ?_
        refine h_iast C K hb_1L hb_1k (v_52.toNatClampNeg) (rfl) (ix_0 rv_52 (by decide)) (ix_lt rv_52 (by decide) hb_1n (by decide)) dX1_endMeal_41 (fun I_56 hI_56 => ?_)
        have hU_57 := iv_put W9 hU_49 hI_56 (ro_a hb_1k (by decide) hb_1o hkx rfl) (lo := (-2147483648)) (hi := 2147483647) (rfl) (rg_all _) rfl
        have hF_58 := fq_puta hF_50 hI_56 (ro_a hb_1k (by decide) hb_1o hkx rfl) (by decide) (by decide)
        refine g_iconst C (v := 0) dX1_endMeal_42 (by decide) ?_
        refine g_istore_n C dX1_endMeal_43 rfl (by decide) (lo2 := [(2, .int 0), (0, .ref x), (1, .int v_52)]) rfl ?_
        refine g_lo (is := [1, 2, 0]) (lo2 := [(0, .ref x), (1, .int v_52), (2, .int 0)]) rfl ?_
        exact l_44 7 I_56 J_48 hU_57 hF_58 hG_51 v_52 (rv_52) 0 (rg_w rc_0 (by decide) (by decide)) v_53 (rv_53) (kp_k (κ := κ) hI_56 (by rw [hb_3k, hb_1k]; decide) q_54) hm_55 (ms_s (a := 0) (b := 6) (N := 7) (rg_w rc_0 (by decide) (by decide)) (by decide))
      refine g_iload_n C 1 dX1_endMeal_2 rfl rfl ?_
      refine g_aload_n C 0 dX1_endMeal_3 rfl rfl ?_
      refine g_getR C K hLx hkx f_1_52 hb_3 dX1_endMeal_4 ?_
      obtain ⟨x_59, hx_59, rx_59⟩ := ex_get (I := I_5) (a := b_3) (j := 5) (lo := 0) (hi := 7) hU_7.1 hb_3L (ro_o hb_3k (by decide)) rfl
      refine g_getI C K hb_3L hb_3k f_1_68 (v := x_59) hx_59 dX1_endMeal_7 ?_
      refine g_icmp_ge C (tgt := 104) dX1_endMeal_10 (by decide) (fun h_60 => ?_) (fun h_60 => ?_)
      · skip
        refine g_aload_n C 0 dX1_endMeal_104 rfl rfl ?_
        refine g_dup C dX1_endMeal_105 rfl ?_
        obtain ⟨x_61, hx_61, rx_61⟩ := ex_get (I := I_5) (a := x) (j := 9) (lo := (-2147483648)) (hi := 2147483647) hU_7.1 hLx (ro_o hkx (by decide)) rfl
        refine g_getI C K hLx hkx f_1_37 (v := x_61) hx_61 dX1_endMeal_106 ?_
        refine g_iconst C (v := 1) dX1_endMeal_109 (by decide) ?_
        obtain ⟨x_62, hx_62, rx_62⟩ := ex_any (z0 := x_61 + 1)
        refine g_iadd C (v := x_62) dX1_endMeal_110 hx_62 ?_
        refine h_putI C K hLx hkx f_1_37 p_1_9 dX1_endMeal_111 (fun I_63 hI_63 => ?_)
        have hU_64 := iv_put W9 hU_7 hI_63 (ro_o hkx (by decide)) (lo := (-2147483648)) (hi := 2147483647) (rfl) (rx_62) rfl
        have hF_65 := fq_puto hF_8 hI_63 hkx (by decide) (by decide)
        exact g_vret B K rfl ⟨hU_64, hF_65, hG_9⟩ dX1_endMeal_114
      · skip
        have r_66 := lt_l (hi := 6) (nle h_60) rv_10 rx_59 (by decide)
        have r_67 := lt_r (lo := 1) (nle h_60) rv_10 rx_59 (by decide)
        refine g_aload_n C 0 dX1_endMeal_13 rfl rfl ?_
        refine g_iload_n C 1 dX1_endMeal_14 rfl rfl ?_
        refine g_callVI C K (c_X1_lives W9 hLx hkx v_10 (r_66) hU_7) hLx hkx (by decide) rfl v_1_115 rfl ⟨rfl, rfl⟩ ⟨Nat.le_of_ble_eq_true rfl, Nat.le_of_ble_eq_true rfl⟩ (Nat.le_of_ble_eq_true rfl) ⟨Nat.le_of_ble_eq_true rfl, Nat.le_of_ble_eq_true rfl⟩ dX1_endMeal_15 rfl (st := []) (fun x_68 I_69 J_70 h_71 => ?_)
        obtain ⟨rfl, rfl, rx_68⟩ := h_71
        refine g_if_eq C (tgt := 35) dX1_endMeal_18 (by decide) (fun h_72 => ?_) (fun h_72 => ?_)
        · skip
          have r_73 := (⟨(rx_68).1, (eq_rg (h_72) rc_0).2⟩ : Rg 0 0 x_68)
          refine g_lo (is := [0, 1]) (lo2 := [(0, .ref x), (1, .int v_10)]) rfl ?_
          exact j_35 I_5 J_6 hU_7 hF_8 hG_9 v_10 (r_66) x_59 (r_67) hx_59 hm_11
        · skip
          have n_74 : ¬ x_68 = 0 := h_72
          have r_75 := ne_lo (lo := 1) n_74 rx_68 rc_0 rfl (by decide)
          refine g_aload_n C 0 dX1_endMeal_21 rfl rfl ?_
          refine g_getR C K hLx hkx f_1_27 hb_2 dX1_endMeal_22 ?_
          refine g_iload_n C 1 dX1_endMeal_25 rfl rfl ?_
          refine g_dup2 C dX1_endMeal_26 rfl rfl ?_
          obtain ⟨x_76, hx_76, rx_76⟩ := ex_any (z0 := I_5 b_2 (v_10.toNatClampNeg))
          refine h_iald C K hb_2L hb_2k (v := x_76) (v_10.toNatClampNeg) (rfl) (ix_0 r_66 (by decide)) (ix_lt r_66 (by decide) hb_2n (by decide)) hx_76 dX1_endMeal_27 ?_
          refine g_aload_n C 0 dX1_endMeal_28 rfl rfl ?_
          refine g_iload_n C 1 dX1_endMeal_29 rfl rfl ?_
          refine g_callVI C K (c_X1_wantsYet W9 hLx hkx v_10 (r_66) hU_7) hLx hkx (by decide) rfl v_1_109 rfl ⟨rfl, rfl⟩ ⟨Nat.le_of_ble_eq_true rfl, Nat.le_of_ble_eq_true rfl⟩ (Nat.le_of_ble_eq_true rfl) ⟨Nat.le_of_ble_eq_true rfl, Nat.le_of_ble_eq_true rfl⟩ dX1_endMeal_30 rfl (st := [.int x_76, .int v_10, .ref b_2]) (fun x_77 I_78 J_79 h_80 => ?_)
          obtain ⟨rfl, rfl, rx_77⟩ := h_80
          obtain ⟨x_81, hx_81, rx_81⟩ := ex_any (z0 := x_76 + x_77)
          refine g_iadd C (v := x_81) dX1_endMeal_33 hx_81 ?_
          refine h_iast C K hb_2L hb_2k (v_10.toNatClampNeg) (rfl) (ix_0 r_66 (by decide)) (ix_lt r_66 (by decide) hb_2n (by decide)) dX1_endMeal_34 (fun I_82 hI_82 => ?_)
          have hU_83 := iv_put W9 hU_7 hI_82 (ro_a hb_2k (by decide) hb_2o hkx rfl) (lo := (-2147483648)) (hi := 2147483647) (rfl) (rx_81) rfl
          have hF_84 := fq_puta hF_8 hI_82 (ro_a hb_2k (by decide) hb_2o hkx rfl) (by decide) (by decide)
          refine g_lo (is := [0, 1]) (lo2 := [(0, .ref x), (1, .int v_10)]) rfl ?_
          exact j_35 I_82 J_6 hU_83 hF_84 hG_9 v_10 (r_66) x_59 (r_67) (kp_k (κ := κ) hI_82 (by rw [hb_3k, hb_2k]; decide) hx_59) hm_11
  refine g_iconst C (v := 0) dX1_endMeal_0 (by decide) ?_
  refine g_istore_n C dX1_endMeal_1 rfl (by decide) (lo2 := [(1, .int 0), (0, .ref x)]) rfl ?_
  refine g_lo (is := [1, 0]) (lo2 := [(0, .ref x), (1, .int 0)]) rfl ?_
  exact l_2 8 I J hU hF hG 0 (rg_w rc_0 (by decide) (by decide)) (ms_s (a := 0) (b := 7) (N := 8) (rg_w rc_0 (by decide) (by decide)) (by decide))
set_option maxRecDepth 100000 in
set_option maxHeartbeats 8000000 in
theorem c_X1_letMealsGo {l : Launch} {D : va_G} {cy : Nat → ClassId} {L : List Nat} {κ ln : Nat → Nat} {R : Nat → Nat → Option Nat} {I : Nat → Nat → Int32} {J : Nat → Nat → Int64} {ow : Nat → Nat × Nat} (W9 : ∀ a ∈ L, Shp L κ ln R ow a) {x : Nat} (hLx : x ∈ L) (hkx : κ x = 1) (a0 : Int32) (hU : Iv L κ R ow I) : CtI l yX1_letMealsGo cX1_letMealsGo 3 (some .int) { frames := 2, cells := 0, slots := 0, locals := 83 } D cy L κ ln R I J [.ref x, .int a0] (fun r I2 J2 => Iv L κ R ow I2 ∧ Fq L κ ow [109, 111, 16200, 16300, 16500, 16600] I I2 ∧ Fq L κ ow [] J J2 ∧ Rg 0 2147483647 r) := by
  refine CtI.of (by decide +kernel) (Nat.le_of_ble_eq_true rfl) ?_
  intro p e s m below meth c B K
  have C := B.1
  have hF : Fq L κ ow [109, 111, 16200, 16300, 16500, 16600] I I := fq_rf
  have hG : Fq L κ ow [] J J := fq_rf
  refine g_lo (is := [0, 1]) (lo2 := [(0, .ref x), (1, .int a0)]) rfl ?_
  have l_2 : ∀ (n_2 : Nat) (I_1 : Nat → Nat → Int32) (J_2 : Nat → Nat → Int64) (hU_3 : Iv L κ R ow I_1) (hF_4 : Fq L κ ow [109, 111, 16200, 16300, 16500, 16600] I I_1) (hG_5 : Fq L κ ow [] J J_2) (v_6 : Int32) (v_7 : Int32) (rv_7 : Rg 0 2147483647 v_7) (hm_8 : 2147483647 < (v_7 : Int32).toInt + (n_2 : Int)), WG p l e { frames := 2, cells := 0, slots := 0, locals := 83 } s m ([.ref x, .int a0] : List Value).toArray below meth c 3 0 0 (MQ below (Qi_ D cy L κ ln R (fun r I2 J2 => Iv L κ R ow I2 ∧ Fq L κ ow [109, 111, 16200, 16300, 16500, 16600] I I2 ∧ Fq L κ ow [] J J2 ∧ Rg 0 2147483647 r)) ([.ref x, .int a0] : List Value).toArray s 0 0 (Al_ L)) D cy (Al_ L) s.heap L κ ln R I_1 J_2 2 [(0, .ref x), (1, .int v_6), (2, .int v_7)] [] := by
    intro n_2
    induction n_2 with
    | zero =>
      intro I_1 J_2 hU_3 hF_4 hG_5 v_6 v_7 rv_7 hm_8
      exact ms_0 rv_7 hm_8
    | succ n_2 ih_2 =>
      intro I_1 J_2 hU_3 hF_4 hG_5 v_6 v_7 rv_7 hm_8
      refine g_iload_n C 2 dX1_letMealsGo_2 rfl rfl ?_
      refine g_iload_n C 1 dX1_letMealsGo_3 rfl rfl ?_
      refine g_icmp_ge C (tgt := 27) dX1_letMealsGo_4 (by decide) (fun h_9 => ?_) (fun h_9 => ?_)
      · skip
        refine g_iload_n C 2 dX1_letMealsGo_27 rfl rfl ?_
        exact g_zret (ty := .int) (r := v_7) B K rfl (rfl) ⟨hU_3, hF_4, hG_5, rv_7⟩ dX1_letMealsGo_28
      · skip
        have r_10 := lt_l (hi := 2147483646) (nle h_9) rv_7 (rg_all v_6) (by decide)
        have r_11 := lt_r (lo := 1) (nle h_9) rv_7 (rg_all v_6) (by decide)
        refine g_aload_n C 0 dX1_letMealsGo_7 rfl rfl ?_
        obtain ⟨x_12, hx_12, rx_12⟩ := ex_get (I := I_1) (a := x) (j := 9) (lo := (-2147483648)) (hi := 2147483647) hU_3.1 hLx (ro_o hkx (by decide)) rfl
        refine g_getI C K hLx hkx f_1_37 (v := x_12) hx_12 dX1_letMealsGo_8 ?_
        refine g_sipush C (v := 200) dX1_letMealsGo_11 (by decide) ?_
        refine g_icmp_ge C (tgt := 27) dX1_letMealsGo_14 (by decide) (fun h_13 => ?_) (fun h_13 => ?_)
        · skip
          have r_14 := le_r (h_13) rc_200 rx_12
          refine g_iload_n C 2 dX1_letMealsGo_27 rfl rfl ?_
          exact g_zret (ty := .int) (r := v_7) B K rfl (rfl) ⟨hU_3, hF_4, hG_5, rg_w r_10 (by decide) (by decide)⟩ dX1_letMealsGo_28
        · skip
          have r_15 := lt_l (hi := 199) (nle h_13) rx_12 rc_200 (by decide)
          refine g_aload_n C 0 dX1_letMealsGo_17 rfl rfl ?_
          refine g_callVV C K (c_X1_endMeal W9 hLx hkx   hU_3) hLx hkx (by decide) rfl v_1_126 rfl ⟨rfl, rfl⟩ ⟨Nat.le_of_ble_eq_true rfl, Nat.le_of_ble_eq_true rfl⟩ (Nat.le_of_ble_eq_true rfl) ⟨Nat.le_of_ble_eq_true rfl, Nat.le_of_ble_eq_true rfl⟩ dX1_letMealsGo_18 rfl (st := []) (fun I_17 J_18 h_19 => ?_)
          obtain ⟨hUI_17, hFI_17, hGJ_18⟩ := h_19
          have hF_20 := fq_tr hF_4 hFI_17 (by decide)
          have hG_21 := fq_tr hG_5 hGJ_18 (by decide)
          obtain ⟨x_22, hx_22, rx_22, tx_22⟩ := ex_add (y := 1) 1 2147483647 r_10 rc_1 (by decide) (by decide) (by decide) (by decide)
          refine g_iinc C dX1_letMealsGo_21 (k := 2) (v := x_22) rfl hx_22 (by decide) (lo2 := [(2, .int x_22), (0, .ref x), (1, .int v_6)]) rfl ?_
          refine g_goto C (tgt := 2) dX1_letMealsGo_24 (by decide) ?_
          refine g_lo (is := [1, 2, 0]) (lo2 := [(0, .ref x), (1, .int v_6), (2, .int x_22)]) rfl ?_
          exact ih_2 I_17 J_18 hUI_17 hF_20 hG_21 v_6 x_22 (rg_w rx_22 (by decide) (by decide)) (ms_1 hm_8 (ti_k tx_22 rc_1) (by decide))
  refine g_iconst C (v := 0) dX1_letMealsGo_0 (by decide) ?_
  refine g_istore_n C dX1_letMealsGo_1 rfl (by decide) (lo2 := [(2, .int 0), (0, .ref x), (1, .int a0)]) rfl ?_
  refine g_lo (is := [1, 2, 0]) (lo2 := [(0, .ref x), (1, .int a0), (2, .int 0)]) rfl ?_
  exact l_2 2147483648 I J hU hF hG a0 0 (rg_w rc_0 (by decide) (by decide)) (ms_s (a := 0) (b := 2147483647) (N := 2147483648) (rg_w rc_0 (by decide) (by decide)) (by decide))
set_option maxRecDepth 100000 in
set_option maxHeartbeats 8000000 in
theorem c_X11_meals {l : Launch} {D : va_G} {cy : Nat → ClassId} {L : List Nat} {κ ln : Nat → Nat} {R : Nat → Nat → Option Nat} {I : Nat → Nat → Int32} {J : Nat → Nat → Int64} {ow : Nat → Nat × Nat} (W9 : ∀ a ∈ L, Shp L κ ln R ow a) {x : Nat} (hLx : x ∈ L) (hkx : κ x = 11) (a0 : Int32) (hU : Iv L κ R ow I) : CtI l yX11_meals cX11_meals 2 (some .int) { frames := 3, cells := 0, slots := 0, locals := 105 } D cy L κ ln R I J [.ref x, .int a0] (fun r I2 J2 => Iv L κ R ow I2 ∧ Fq L κ ow [107, 108, 109, 110, 111, 112, 501, 502, 16100, 16200, 16300, 16400, 16500, 16600] I I2 ∧ Fq L κ ow [] J J2 ∧ Rg (-1) 2147483647 r) := by
  refine CtI.of (by decide +kernel) (Nat.le_of_ble_eq_true rfl) ?_
  intro p e s m below meth c B K
  have C := B.1
  have hF : Fq L κ ow [107, 108, 109, 110, 111, 112, 501, 502, 16100, 16200, 16300, 16400, 16500, 16600] I I := fq_rf
  have hG : Fq L κ ow [] J J := fq_rf
  obtain ⟨b_1, hb_1, hb_1L, hb_1k⟩ := shp_o (W9 x hLx) hkx 4 5 rfl (by decide)
  obtain ⟨b_2, hb_2, hb_2L, hb_2k⟩ := shp_o (W9 x hLx) hkx 2 1 rfl (by decide)
  refine g_lo (is := [0, 1]) (lo2 := [(0, .ref x), (1, .int a0)]) rfl ?_
  refine g_iload_n C 1 dX11_meals_0 rfl rfl ?_
  refine g_iconst C (v := 1) dX11_meals_1 (by decide) ?_
  refine g_icmp_lt C (tgt := 11) dX11_meals_2 (by decide) (fun h_3 => ?_) (fun h_3 => ?_)
  · skip
    have r_4 := lt_l (hi := 0) (h_3) (rg_all a0) rc_1 (by decide)
    refine g_iconst C (v := (-1)) dX11_meals_11 (by decide) ?_
    exact g_zret (ty := .int) (r := (-1)) B K rfl (rfl) ⟨hU, hF, hG, rg_w rc_m1 (by decide) (by decide)⟩ dX11_meals_12
  · skip
    have r_5 := le_r (nlt h_3) rc_1 (rg_all a0)
    refine g_iload_n C 1 dX11_meals_5 rfl rfl ?_
    refine g_bipush C (v := 60) dX11_meals_6 (by decide) ?_
    refine g_icmp_le C (tgt := 13) dX11_meals_8 (by decide) (fun h_6 => ?_) (fun h_6 => ?_)
    · skip
      have r_7 := le_l (h_6) r_5 rc_60
      refine g_aload_n C 0 dX11_meals_13 rfl rfl ?_
      refine g_getR C K hLx hkx f_11_38 hb_1 dX11_meals_14 ?_
      refine g_aload_n C 0 dX11_meals_17 rfl rfl ?_
      refine g_getR C K hLx hkx f_11_28 hb_2 dX11_meals_18 ?_
      refine g_callVV C K (c_X5_note W9 hb_1L hb_1k hb_2L hb_2k  hU) hb_1L hb_1k (by decide) rfl v_11_225 rfl ⟨rfl, rfl⟩ ⟨Nat.le_of_ble_eq_true rfl, Nat.le_of_ble_eq_true rfl⟩ (Nat.le_of_ble_eq_true rfl) ⟨Nat.le_of_ble_eq_true rfl, Nat.le_of_ble_eq_true rfl⟩ dX11_meals_21 rfl (st := []) (fun I_9 J_10 h_11 => ?_)
      obtain ⟨hUI_9, hFI_9, hGJ_10⟩ := h_11
      have hF_12 := fq_tr hF hFI_9 (by decide)
      have hG_13 := fq_tr hG hGJ_10 (by decide)
      refine g_aload_n C 0 dX11_meals_24 rfl rfl ?_
      refine g_aload_n C 0 dX11_meals_25 rfl rfl ?_
      refine g_getR C K hLx hkx f_11_28 hb_2 dX11_meals_26 ?_
      refine g_iload_n C 1 dX11_meals_29 rfl rfl ?_
      refine g_callVI C K (c_X1_letMealsGo W9 hb_2L hb_2k a0  hUI_9) hb_2L hb_2k (by decide) rfl v_11_250 rfl ⟨rfl, rfl⟩ ⟨Nat.le_of_ble_eq_true rfl, Nat.le_of_ble_eq_true rfl⟩ (Nat.le_of_ble_eq_true rfl) ⟨Nat.le_of_ble_eq_true rfl, Nat.le_of_ble_eq_true rfl⟩ dX11_meals_30 rfl (st := [.ref x]) (fun x_14 I_15 J_16 h_17 => ?_)
      obtain ⟨hUI_15, hFI_15, hGJ_16, rx_14⟩ := h_17
      have hF_18 := fq_tr hF_12 hFI_15 (by decide)
      have hG_19 := fq_tr hG_13 hGJ_16 (by decide)
      refine g_callVI C K (c_X11_keptIfAny W9 hLx hkx x_14 (rx_14) hUI_15) hLx hkx (by decide) rfl v_11_253 rfl ⟨rfl, rfl⟩ ⟨Nat.le_of_ble_eq_true rfl, Nat.le_of_ble_eq_true rfl⟩ (Nat.le_of_ble_eq_true rfl) ⟨Nat.le_of_ble_eq_true rfl, Nat.le_of_ble_eq_true rfl⟩ dX11_meals_33 rfl (st := []) (fun x_20 I_21 J_22 h_23 => ?_)
      obtain ⟨hUI_21, hFI_21, hGJ_22, rx_20⟩ := h_23
      have hF_24 := fq_tr hF_18 hFI_21 (by decide)
      have hG_25 := fq_tr hG_19 hGJ_22 (by decide)
      exact g_zret (ty := .int) (r := x_20) B K rfl (rfl) ⟨hUI_21, hF_24, hG_25, rg_w rx_20 (by decide) (by decide)⟩ dX11_meals_36
    · skip
      have r_26 := lt_r (lo := 61) (nle h_6) rc_60 r_5 (by decide)
      refine g_iconst C (v := (-1)) dX11_meals_11 (by decide) ?_
      exact g_zret (ty := .int) (r := (-1)) B K rfl (rfl) ⟨hU, hF, hG, rg_w rc_m1 (by decide) (by decide)⟩ dX11_meals_12
set_option maxRecDepth 100000 in
set_option maxHeartbeats 8000000 in
theorem c_X5_takeBack {l : Launch} {D : va_G} {cy : Nat → ClassId} {L : List Nat} {κ ln : Nat → Nat} {R : Nat → Nat → Option Nat} {I : Nat → Nat → Int32} {J : Nat → Nat → Int64} {ow : Nat → Nat × Nat} (W9 : ∀ a ∈ L, Shp L κ ln R ow a) {x : Nat} (hLx : x ∈ L) (hkx : κ x = 5) {a0 : Nat} (hLa0 : a0 ∈ L) (hka0 : κ a0 = 1) (hU : Iv L κ R ow I) : CtI l yX5_takeBack cX5_takeBack 2 (some .int) { frames := 2, cells := 0, slots := 0, locals := 81 } D cy L κ ln R I J [.ref x, .ref a0] (fun r I2 J2 => Iv L κ R ow I2 ∧ Fq L κ ow [107, 108, 109, 110, 111, 112, 501, 502, 16100, 16200, 16300, 16400, 16500, 16600] I I2 ∧ Fq L κ ow [] J J2 ∧ Rg (-1) 7 r) := by
  refine CtI.of (by decide +kernel) (Nat.le_of_ble_eq_true rfl) ?_
  intro p e s m below meth c B K
  have C := B.1
  have hF : Fq L κ ow [107, 108, 109, 110, 111, 112, 501, 502, 16100, 16200, 16300, 16400, 16500, 16600] I I := fq_rf
  have hG : Fq L κ ow [] J J := fq_rf
  obtain ⟨b_1, hb_1, hb_1L, hb_1k, hb_1n, hb_1o⟩ := shp_a (W9 x hLx) hkx 0 17 9 rfl (by decide)
  refine g_lo (is := [0, 1]) (lo2 := [(0, .ref x), (1, .ref a0)]) rfl ?_
  refine g_aload_n C 0 dX5_takeBack_0 rfl rfl ?_
  obtain ⟨x_2, hx_2, rx_2⟩ := ex_get (I := I) (a := x) (j := 1) (lo := 0) (hi := 8) hU.1 hLx (ro_o hkx (by decide)) rfl
  refine g_getI C K hLx hkx f_5_17 (v := x_2) hx_2 dX5_takeBack_1 ?_
  refine g_if_ne C (tgt := 9) dX5_takeBack_4 (by decide) (fun h_3 => ?_) (fun h_3 => ?_)
  · skip
    have n_4 : ¬ x_2 = 0 := h_3
    have r_5 := ne_lo (lo := 1) n_4 rx_2 rc_0 rfl (by decide)
    refine g_aload_n C 0 dX5_takeBack_9 rfl rfl ?_
    refine g_dup C dX5_takeBack_10 rfl ?_
    refine g_getI C K hLx hkx f_5_17 (v := x_2) hx_2 dX5_takeBack_11 ?_
    refine g_iconst C (v := 1) dX5_takeBack_14 (by decide) ?_
    obtain ⟨x_6, hx_6, rx_6, tx_6⟩ := ex_sub 0 7 r_5 rc_1 (by decide) (by decide) (by decide) (by decide)
    refine g_isub C (v := x_6) dX5_takeBack_15 hx_6 ?_
    refine h_putI C K hLx hkx f_5_17 p_5_1 dX5_takeBack_16 (fun I_7 hI_7 => ?_)
    have hU_8 := iv_put W9 hU hI_7 (ro_o hkx (by decide)) (lo := 0) (hi := 8) (rfl) (rg_w rx_6 (by decide) (by decide)) rfl
    have hF_9 := fq_puto hF hI_7 hkx (by decide) (by decide)
    refine g_aload_n C 0 dX5_takeBack_19 rfl rfl ?_
    refine g_aload_n C 0 dX5_takeBack_20 rfl rfl ?_
    obtain ⟨x_10, hx_10, rx_10⟩ := ex_get (I := I_7) (a := x) (j := 2) (lo := 0) (hi := 8) hU_8.1 hLx (ro_o hkx (by decide)) rfl
    refine g_getI C K hLx hkx f_5_21 (v := x_10) hx_10 dX5_takeBack_21 ?_
    refine g_if_le C (tgt := 36) dX5_takeBack_24 (by decide) (fun h_11 => ?_) (fun h_11 => ?_)
    · skip
      have r_12 := le_l (h_11) rx_10 rc_0
      refine g_bipush C (v := 8) dX5_takeBack_36 (by decide) ?_
      refine h_putI C K hLx hkx f_5_21 p_5_2 dX5_takeBack_38 (fun I_13 hI_13 => ?_)
      have hU_14 := iv_put W9 hU_8 hI_13 (ro_o hkx (by decide)) (lo := 0) (hi := 8) (rfl) (rg_w rc_8 (by decide) (by decide)) rfl
      have hF_15 := fq_puto hF_9 hI_13 hkx (by decide) (by decide)
      refine g_aload_n C 1 dX5_takeBack_41 rfl rfl ?_
      refine g_aload_n C 0 dX5_takeBack_42 rfl rfl ?_
      refine g_getR C K hLx hkx f_5_13 hb_1 dX5_takeBack_43 ?_
      refine g_aload_n C 0 dX5_takeBack_46 rfl rfl ?_
      refine g_getI C K hLx hkx f_5_21 (v := 8) (kp_s hI_13) dX5_takeBack_47 ?_
      obtain ⟨b_16, hb_16, hb_16L, hb_16k⟩ := (W9 b_1 hb_1L).2.1 hb_1k (8) (by rw [hb_1n]; decide)
      refine h_aaldC C K hb_1L hb_1k (8) (by decide) (by decide) (by rw [hb_1n]; decide) hb_16 dX5_takeBack_50 ?_
      refine g_callVV C K (c_X1_become W9 hLa0 hka0 hb_16L hb_16k  hU_14) hLa0 hka0 (by decide) rfl v_5_27 rfl ⟨rfl, rfl⟩ ⟨Nat.le_of_ble_eq_true rfl, Nat.le_of_ble_eq_true rfl⟩ (Nat.le_of_ble_eq_true rfl) ⟨Nat.le_of_ble_eq_true rfl, Nat.le_of_ble_eq_true rfl⟩ dX5_takeBack_51 rfl (st := []) (fun I_18 J_19 h_20 => ?_)
      obtain ⟨hUI_18, hFI_18, hGJ_19⟩ := h_20
      have hF_21 := fq_tr hF_15 hFI_18 (by decide)
      have hG_22 := fq_tr hG hGJ_19 (by decide)
      refine g_aload_n C 0 dX5_takeBack_54 rfl rfl ?_
      refine g_getI C K hLx hkx f_5_17 (v := x_6) (fq_at hFI_18 hLx hkx (by decide) (by decide) (kp_j hI_13 (by decide) (kp_s hI_7))) dX5_takeBack_55 ?_
      exact g_zret (ty := .int) (r := x_6) B K rfl (rfl) ⟨hUI_18, hF_21, hG_22, rg_w rx_6 (by decide) (by decide)⟩ dX5_takeBack_58
    · skip
      have r_23 := lt_r (lo := 1) (nle h_11) rc_0 rx_10 (by decide)
      refine g_aload_n C 0 dX5_takeBack_27 rfl rfl ?_
      refine g_getI C K hLx hkx f_5_21 (v := x_10) hx_10 dX5_takeBack_28 ?_
      refine g_iconst C (v := 1) dX5_takeBack_31 (by decide) ?_
      obtain ⟨x_24, hx_24, rx_24, tx_24⟩ := ex_sub 0 7 r_23 rc_1 (by decide) (by decide) (by decide) (by decide)
      refine g_isub C (v := x_24) dX5_takeBack_32 hx_24 ?_
      refine g_goto C (tgt := 38) dX5_takeBack_33 (by decide) ?_
      refine h_putI C K hLx hkx f_5_21 p_5_2 dX5_takeBack_38 (fun I_25 hI_25 => ?_)
      have hU_26 := iv_put W9 hU_8 hI_25 (ro_o hkx (by decide)) (lo := 0) (hi := 8) (rfl) (rg_w rx_24 (by decide) (by decide)) rfl
      have hF_27 := fq_puto hF_9 hI_25 hkx (by decide) (by decide)
      refine g_aload_n C 1 dX5_takeBack_41 rfl rfl ?_
      refine g_aload_n C 0 dX5_takeBack_42 rfl rfl ?_
      refine g_getR C K hLx hkx f_5_13 hb_1 dX5_takeBack_43 ?_
      refine g_aload_n C 0 dX5_takeBack_46 rfl rfl ?_
      refine g_getI C K hLx hkx f_5_21 (v := x_24) (kp_s hI_25) dX5_takeBack_47 ?_
      obtain ⟨b_28, hb_28, hb_28L, hb_28k⟩ := (W9 b_1 hb_1L).2.1 hb_1k (x_24.toNatClampNeg) (ix_lt rx_24 (by decide) hb_1n (by decide))
      refine h_aaldC C K hb_1L hb_1k (x_24.toNatClampNeg) (rfl) (ix_0 rx_24 (by decide)) (ix_lt rx_24 (by decide) hb_1n (by decide)) hb_28 dX5_takeBack_50 ?_
      refine g_callVV C K (c_X1_become W9 hLa0 hka0 hb_28L hb_28k  hU_26) hLa0 hka0 (by decide) rfl v_5_27 rfl ⟨rfl, rfl⟩ ⟨Nat.le_of_ble_eq_true rfl, Nat.le_of_ble_eq_true rfl⟩ (Nat.le_of_ble_eq_true rfl) ⟨Nat.le_of_ble_eq_true rfl, Nat.le_of_ble_eq_true rfl⟩ dX5_takeBack_51 rfl (st := []) (fun I_30 J_31 h_32 => ?_)
      obtain ⟨hUI_30, hFI_30, hGJ_31⟩ := h_32
      have hF_33 := fq_tr hF_27 hFI_30 (by decide)
      have hG_34 := fq_tr hG hGJ_31 (by decide)
      refine g_aload_n C 0 dX5_takeBack_54 rfl rfl ?_
      refine g_getI C K hLx hkx f_5_17 (v := x_6) (fq_at hFI_30 hLx hkx (by decide) (by decide) (kp_j hI_25 (by decide) (kp_s hI_7))) dX5_takeBack_55 ?_
      exact g_zret (ty := .int) (r := x_6) B K rfl (rfl) ⟨hUI_30, hF_33, hG_34, rg_w rx_6 (by decide) (by decide)⟩ dX5_takeBack_58
  · skip
    have r_35 := (⟨(rx_2).1, (eq_rg (h_3) rc_0).2⟩ : Rg 0 0 x_2)
    refine g_iconst C (v := (-1)) dX5_takeBack_7 (by decide) ?_
    exact g_zret (ty := .int) (r := (-1)) B K rfl (rfl) ⟨hU, hF, hG, rg_w rc_m1 (by decide) (by decide)⟩ dX5_takeBack_8
set_option maxRecDepth 100000 in
set_option maxHeartbeats 8000000 in
theorem c_X11_undo {l : Launch} {D : va_G} {cy : Nat → ClassId} {L : List Nat} {κ ln : Nat → Nat} {R : Nat → Nat → Option Nat} {I : Nat → Nat → Int32} {J : Nat → Nat → Int64} {ow : Nat → Nat × Nat} (W9 : ∀ a ∈ L, Shp L κ ln R ow a) {x : Nat} (hLx : x ∈ L) (hkx : κ x = 11) (hU : Iv L κ R ow I) : CtI l yX11_undo cX11_undo 1 (some .int) { frames := 3, cells := 0, slots := 0, locals := 102 } D cy L κ ln R I J [.ref x] (fun r I2 J2 => Iv L κ R ow I2 ∧ Fq L κ ow [107, 108, 109, 110, 111, 112, 501, 502, 16100, 16200, 16300, 16400, 16500, 16600] I I2 ∧ Fq L κ ow [] J J2 ∧ Rg (-1) 7 r) := by
  refine CtI.of (by decide +kernel) (Nat.le_of_ble_eq_true rfl) ?_
  intro p e s m below meth c B K
  have C := B.1
  have hF : Fq L κ ow [107, 108, 109, 110, 111, 112, 501, 502, 16100, 16200, 16300, 16400, 16500, 16600] I I := fq_rf
  have hG : Fq L κ ow [] J J := fq_rf
  obtain ⟨b_1, hb_1, hb_1L, hb_1k⟩ := shp_o (W9 x hLx) hkx 4 5 rfl (by decide)
  obtain ⟨b_2, hb_2, hb_2L, hb_2k⟩ := shp_o (W9 x hLx) hkx 2 1 rfl (by decide)
  refine g_lo (is := [0]) (lo2 := [(0, .ref x)]) rfl ?_
  refine g_aload_n C 0 dX11_undo_0 rfl rfl ?_
  refine g_getR C K hLx hkx f_11_38 hb_1 dX11_undo_1 ?_
  refine g_aload_n C 0 dX11_undo_4 rfl rfl ?_
  refine g_getR C K hLx hkx f_11_28 hb_2 dX11_undo_5 ?_
  refine g_callVI C K (c_X5_takeBack W9 hb_1L hb_1k hb_2L hb_2k  hU) hb_1L hb_1k (by decide) rfl v_11_256 rfl ⟨rfl, rfl⟩ ⟨Nat.le_of_ble_eq_true rfl, Nat.le_of_ble_eq_true rfl⟩ (Nat.le_of_ble_eq_true rfl) ⟨Nat.le_of_ble_eq_true rfl, Nat.le_of_ble_eq_true rfl⟩ dX11_undo_8 rfl (st := []) (fun x_3 I_4 J_5 h_6 => ?_)
  obtain ⟨hUI_4, hFI_4, hGJ_5, rx_3⟩ := h_6
  have hF_7 := fq_tr hF hFI_4 (by decide)
  have hG_8 := fq_tr hG hGJ_5 (by decide)
  exact g_zret (ty := .int) (r := x_3) B K rfl (rfl) ⟨hUI_4, hF_7, hG_8, rx_3⟩ dX11_undo_11
set_option maxRecDepth 100000 in
set_option maxHeartbeats 8000000 in
theorem c_X11_heir {l : Launch} {D : va_G} {cy : Nat → ClassId} {L : List Nat} {κ ln : Nat → Nat} {R : Nat → Nat → Option Nat} {I : Nat → Nat → Int32} {J : Nat → Nat → Int64} {ow : Nat → Nat × Nat} (W9 : ∀ a ∈ L, Shp L κ ln R ow a) {x : Nat} (hLx : x ∈ L) (hkx : κ x = 11) (a0 : Int32) (hU : Iv L κ R ow I) : CtI l yX11_heir cX11_heir 2 (some .int) { frames := 2, cells := 0, slots := 0, locals := 48 } D cy L κ ln R I J [.ref x, .int a0] (fun r I2 J2 => I = I2 ∧ J = J2 ∧ Rg (-1) 6 r) := by
  refine CtI.of (by decide +kernel) (Nat.le_of_ble_eq_true rfl) ?_
  intro p e s m below meth c B K
  have C := B.1
  obtain ⟨b_1, hb_1, hb_1L, hb_1k⟩ := shp_o (W9 x hLx) hkx 1 8 rfl (by decide)
  obtain ⟨b_2, hb_2, hb_2L, hb_2k⟩ := shp_o (W9 x hLx) hkx 2 1 rfl (by decide)
  refine g_lo (is := [0, 1]) (lo2 := [(0, .ref x), (1, .int a0)]) rfl ?_
  refine g_aload_n C 0 dX11_heir_0 rfl rfl ?_
  refine g_getR C K hLx hkx f_11_19 hb_1 dX11_heir_1 ?_
  refine g_iload_n C 1 dX11_heir_4 rfl rfl ?_
  refine g_callVI C K (c_X8_hasPerson W9 hb_1L hb_1k a0  hU) hb_1L hb_1k (by decide) rfl v_11_133 rfl ⟨rfl, rfl⟩ ⟨Nat.le_of_ble_eq_true rfl, Nat.le_of_ble_eq_true rfl⟩ (Nat.le_of_ble_eq_true rfl) ⟨Nat.le_of_ble_eq_true rfl, Nat.le_of_ble_eq_true rfl⟩ dX11_heir_5 rfl (st := []) (fun x_3 I_4 J_5 h_6 => ?_)
  obtain ⟨rfl, rfl, rx_3, ex_3⟩ := h_6
  refine g_if_eq C (tgt := 29) dX11_heir_8 (by decide) (fun h_7 => ?_) (fun h_7 => ?_)
  · skip
    have r_8 := (⟨(rx_3).1, (eq_rg (h_7) rc_0).2⟩ : Rg 0 0 x_3)
    refine g_iconst C (v := (-1)) dX11_heir_29 (by decide) ?_
    exact g_zret (ty := .int) (r := (-1)) B K rfl (rfl) ⟨rfl, rfl, rg_w rc_m1 (by decide) (by decide)⟩ dX11_heir_30
  · skip
    have n_9 : ¬ x_3 = 0 := h_7
    have r_10 := ne_lo (lo := 1) n_9 rx_3 rc_0 rfl (by decide)
    have r_11 := rg_i (rg_all a0) ((ex_3) n_9) (lo := 0) (hi := 6) (by decide) (by decide)
    refine g_aload_n C 0 dX11_heir_11 rfl rfl ?_
    refine g_getR C K hLx hkx f_11_28 hb_2 dX11_heir_12 ?_
    refine g_iload_n C 1 dX11_heir_15 rfl rfl ?_
    refine g_aload_n C 0 dX11_heir_16 rfl rfl ?_
    refine g_getR C K hLx hkx f_11_28 hb_2 dX11_heir_17 ?_
    obtain ⟨x_12, hx_12, rx_12⟩ := ex_get (I := I) (a := b_2) (j := 8) (lo := (-2147483648)) (hi := 2147483647) hU.1 hb_2L (ro_o hb_2k (by decide)) rfl
    refine g_getI C K hb_2L hb_2k f_11_154 (v := x_12) hx_12 dX11_heir_20 ?_
    refine g_callVI C K (c_X1_heirOf W9 hb_2L hb_2k a0 x_12 (r_11) hU) hb_2L hb_2k (by decide) rfl v_11_263 rfl ⟨rfl, rfl⟩ ⟨Nat.le_of_ble_eq_true rfl, Nat.le_of_ble_eq_true rfl⟩ (Nat.le_of_ble_eq_true rfl) ⟨Nat.le_of_ble_eq_true rfl, Nat.le_of_ble_eq_true rfl⟩ dX11_heir_23 rfl (st := []) (fun x_13 I_14 J_15 h_16 => ?_)
    obtain ⟨rfl, rfl, rx_13⟩ := h_16
    refine g_goto C (tgt := 30) dX11_heir_26 (by decide) ?_
    exact g_zret (ty := .int) (r := x_13) B K rfl (rfl) ⟨rfl, rfl, rx_13⟩ dX11_heir_30
set_option maxRecDepth 100000 in
set_option maxHeartbeats 8000000 in
theorem c_X11_line {l : Launch} {D : va_G} {cy : Nat → ClassId} {L : List Nat} {κ ln : Nat → Nat} {R : Nat → Nat → Option Nat} {I : Nat → Nat → Int32} {J : Nat → Nat → Int64} {ow : Nat → Nat × Nat} (W9 : ∀ a ∈ L, Shp L κ ln R ow a) {x : Nat} (hLx : x ∈ L) (hkx : κ x = 11) (a0 : Int32) (a1 : Int32) (hU : Iv L κ R ow I) : CtI l yX11_line cX11_line 6 (some .int) { frames := 2, cells := 0, slots := 0, locals := 48 } D cy L κ ln R I J [.ref x, .int a0, .int a1] (fun r I2 J2 => I = I2 ∧ J = J2 ∧ Rg (-1) 6 r) := by
  refine CtI.of (by decide +kernel) (Nat.le_of_ble_eq_true rfl) ?_
  intro p e s m below meth c B K
  have C := B.1
  obtain ⟨b_1, hb_1, hb_1L, hb_1k⟩ := shp_o (W9 x hLx) hkx 1 8 rfl (by decide)
  obtain ⟨b_2, hb_2, hb_2L, hb_2k⟩ := shp_o (W9 x hLx) hkx 2 1 rfl (by decide)
  refine g_lo (is := [0, 1, 2]) (lo2 := [(0, .ref x), (1, .int a0), (2, .int a1)]) rfl ?_
  have l_45 : ∀ (n_45 : Nat) (v_3 : Int32) (rv_3 : Rg 0 6 v_3) (v_4 : Int32) (rv_4 : Rg 0 6 v_4) (v_5 : Int32) (v_6 : Int32) (rv_6 : Rg (-1) 6 v_6) (v_7 : Int32) (rv_7 : Rg 0 6 v_7) (v_8 : Int32) (q_9 : I b_2 8 = v_8) (hm_10 : 6 < (v_7 : Int32).toInt + (n_45 : Int)), WG p l e { frames := 2, cells := 0, slots := 0, locals := 48 } s m ([.ref x, .int a0, .int a1] : List Value).toArray below meth c 6 0 0 (MQ below (Qi_ D cy L κ ln R (fun r I2 J2 => I = I2 ∧ J = J2 ∧ Rg (-1) 6 r)) ([.ref x, .int a0, .int a1] : List Value).toArray s 0 0 (Al_ L)) D cy (Al_ L) s.heap L κ ln R I J 45 [(0, .ref x), (1, .int v_3), (2, .int v_4), (3, .int v_5), (4, .int v_6), (5, .int v_7)] [] := by
    intro n_45
    induction n_45 with
    | zero =>
      intro v_3 rv_3 v_4 rv_4 v_5 v_6 rv_6 v_7 rv_7 v_8 q_9 hm_10
      exact ms_0 rv_7 hm_10
    | succ n_45 ih_45 =>
      intro v_3 rv_3 v_4 rv_4 v_5 v_6 rv_6 v_7 rv_7 v_8 q_9 hm_10
      refine g_iload C 5 dX11_line_45 rfl ?_
      refine g_iload_n C 2 dX11_line_47 rfl rfl ?_
      refine g_icmp_ge C (tgt := 81) dX11_line_48 (by decide) (fun h_11 => ?_) (fun h_11 => ?_)
      · skip
        refine g_iload C 4 dX11_line_81 rfl ?_
        exact g_zret (ty := .int) (r := v_6) B K rfl (rfl) ⟨rfl, rfl, rv_6⟩ dX11_line_83
      · skip
        have r_12 := lt_l (hi := 5) (nle h_11) rv_7 rv_4 (by decide)
        have r_13 := lt_r (lo := 1) (nle h_11) rv_7 rv_4 (by decide)
        refine g_iload C 4 dX11_line_51 rfl ?_
        refine g_iconst C (v := (-1)) dX11_line_53 (by decide) ?_
        refine g_icmp_eq C (tgt := 81) dX11_line_54 (by decide) (fun h_14 => ?_) (fun h_14 => ?_)
        · skip
          have r_15 := (⟨(rv_6).1, (eq_rg (h_14) rc_m1).2⟩ : Rg (-1) (-1) v_6)
          refine g_iload C 4 dX11_line_81 rfl ?_
          exact g_zret (ty := .int) (r := v_6) B K rfl (rfl) ⟨rfl, rfl, rg_w r_15 (by decide) (by decide)⟩ dX11_line_83
        · skip
          have n_16 : ¬ v_6 = (-1) := h_14
          have r_17 := ne_lo (lo := 0) n_16 rv_6 rc_m1 rfl (by decide)
          refine g_iload_n C 3 dX11_line_57 rfl rfl ?_
          refine g_iconst C (v := 1) dX11_line_58 (by decide) ?_
          refine g_iload C 4 dX11_line_59 rfl ?_
          obtain ⟨x_18, hx_18, rx_18⟩ := ex_shl (x := 1) (y := v_6) 6 64 rfl (r_17) (by decide)
          refine g_ishl C (v := x_18) dX11_line_61 hx_18 ?_
          obtain ⟨x_19, hx_19, rx_19⟩ := ex_any (z0 := v_5 ||| x_18)
          refine g_ior C (v := x_19) dX11_line_62 hx_19 ?_
          refine g_istore_n C dX11_line_63 rfl (by decide) (lo2 := [(3, .int x_19), (0, .ref x), (1, .int v_3), (2, .int v_4), (4, .int v_6), (5, .int v_7)]) rfl ?_
          refine g_aload_n C 1 dX11_line_64 rfl rfl ?_
          refine g_getR C K hLx hkx f_11_28 hb_2 dX11_line_65 ?_
          refine g_iload_n C 2 dX11_line_68 rfl rfl ?_
          refine g_iload_n C 0 dX11_line_69 rfl rfl ?_
          refine g_callVI C K (c_X1_heirOf W9 hb_2L hb_2k v_3 x_19 (rv_3) hU) hb_2L hb_2k (by decide) rfl v_11_263 rfl ⟨rfl, rfl⟩ ⟨Nat.le_of_ble_eq_true rfl, Nat.le_of_ble_eq_true rfl⟩ (Nat.le_of_ble_eq_true rfl) ⟨Nat.le_of_ble_eq_true rfl, Nat.le_of_ble_eq_true rfl⟩ dX11_line_70 rfl (st := []) (fun x_20 I_21 J_22 h_23 => ?_)
          obtain ⟨rfl, rfl, rx_20⟩ := h_23
          refine g_istore C dX11_line_73 (by decide) (lo2 := [(4, .int x_20), (3, .int x_19), (0, .ref x), (1, .int v_3), (2, .int v_4), (5, .int v_7)]) rfl ?_
          obtain ⟨x_24, hx_24, rx_24, tx_24⟩ := ex_add (y := 1) 1 6 r_12 rc_1 (by decide) (by decide) (by decide) (by decide)
          refine g_iinc C dX11_line_75 (k := 5) (v := x_24) rfl hx_24 (by decide) (lo2 := [(5, .int x_24), (4, .int x_20), (3, .int x_19), (0, .ref x), (1, .int v_3), (2, .int v_4)]) rfl ?_
          refine g_goto C (tgt := 45) dX11_line_78 (by decide) ?_
          refine g_lo (is := [3, 4, 5, 2, 1, 0]) (lo2 := [(0, .ref x), (1, .int v_3), (2, .int v_4), (3, .int x_19), (4, .int x_20), (5, .int x_24)]) rfl ?_
          exact ih_45 v_3 (rv_3) v_4 (rg_w r_13 (by decide) (by decide)) x_19 x_20 (rx_20) x_24 (rg_w rx_24 (by decide) (by decide)) v_8 q_9 (ms_1 hm_10 (ti_k tx_24 rc_1) (by decide))
  refine g_aload_n C 0 dX11_line_0 rfl rfl ?_
  refine g_getR C K hLx hkx f_11_19 hb_1 dX11_line_1 ?_
  refine g_iload_n C 1 dX11_line_4 rfl rfl ?_
  refine g_callVI C K (c_X8_hasPerson W9 hb_1L hb_1k a0  hU) hb_1L hb_1k (by decide) rfl v_11_133 rfl ⟨rfl, rfl⟩ ⟨Nat.le_of_ble_eq_true rfl, Nat.le_of_ble_eq_true rfl⟩ (Nat.le_of_ble_eq_true rfl) ⟨Nat.le_of_ble_eq_true rfl, Nat.le_of_ble_eq_true rfl⟩ dX11_line_5 rfl (st := []) (fun x_25 I_26 J_27 h_28 => ?_)
  obtain ⟨rfl, rfl, rx_25, ex_25⟩ := h_28
  refine g_if_eq C (tgt := 21) dX11_line_8 (by decide) (fun h_29 => ?_) (fun h_29 => ?_)
  · skip
    have r_30 := (⟨(rx_25).1, (eq_rg (h_29) rc_0).2⟩ : Rg 0 0 x_25)
    refine g_iconst C (v := (-1)) dX11_line_21 (by decide) ?_
    exact g_zret (ty := .int) (r := (-1)) B K rfl (rfl) ⟨rfl, rfl, rg_w rc_m1 (by decide) (by decide)⟩ dX11_line_22
  · skip
    have n_31 : ¬ x_25 = 0 := h_29
    have r_32 := ne_lo (lo := 1) n_31 rx_25 rc_0 rfl (by decide)
    have r_33 := rg_i (rg_all a0) ((ex_25) n_31) (lo := 0) (hi := 6) (by decide) (by decide)
    refine g_iload_n C 2 dX11_line_11 rfl rfl ?_
    refine g_if_lt C (tgt := 21) dX11_line_12 (by decide) (fun h_34 => ?_) (fun h_34 => ?_)
    · skip
      have r_35 := lt_l (hi := (-1)) (h_34) (rg_all a1) rc_0 (by decide)
      refine g_iconst C (v := (-1)) dX11_line_21 (by decide) ?_
      exact g_zret (ty := .int) (r := (-1)) B K rfl (rfl) ⟨rfl, rfl, rg_w rc_m1 (by decide) (by decide)⟩ dX11_line_22
    · skip
      have r_36 := le_r (nlt h_34) rc_0 (rg_all a1)
      refine g_iload_n C 2 dX11_line_15 rfl rfl ?_
      refine g_bipush C (v := 7) dX11_line_16 (by decide) ?_
      refine g_icmp_lt C (tgt := 23) dX11_line_18 (by decide) (fun h_37 => ?_) (fun h_37 => ?_)
      · skip
        have r_38 := lt_l (hi := 6) (h_37) r_36 rc_7 (by decide)
        refine g_aload_n C 0 dX11_line_23 rfl rfl ?_
        refine g_getR C K hLx hkx f_11_28 hb_2 dX11_line_24 ?_
        obtain ⟨x_39, hx_39, rx_39⟩ := ex_get (I := I) (a := b_2) (j := 8) (lo := (-2147483648)) (hi := 2147483647) hU.1 hb_2L (ro_o hb_2k (by decide)) rfl
        refine g_getI C K hb_2L hb_2k f_11_154 (v := x_39) hx_39 dX11_line_27 ?_
        refine g_istore_n C dX11_line_30 rfl (by decide) (lo2 := [(3, .int x_39), (0, .ref x), (1, .int a0), (2, .int a1)]) rfl ?_
        refine g_aload_n C 1 dX11_line_31 rfl rfl ?_
        refine g_getR C K hLx hkx f_11_28 hb_2 dX11_line_32 ?_
        refine g_iload_n C 2 dX11_line_35 rfl rfl ?_
        refine g_iload_n C 0 dX11_line_36 rfl rfl ?_
        refine g_callVI C K (c_X1_heirOf W9 hb_2L hb_2k a0 x_39 (r_33) hU) hb_2L hb_2k (by decide) rfl v_11_263 rfl ⟨rfl, rfl⟩ ⟨Nat.le_of_ble_eq_true rfl, Nat.le_of_ble_eq_true rfl⟩ (Nat.le_of_ble_eq_true rfl) ⟨Nat.le_of_ble_eq_true rfl, Nat.le_of_ble_eq_true rfl⟩ dX11_line_37 rfl (st := []) (fun x_40 I_41 J_42 h_43 => ?_)
        obtain ⟨rfl, rfl, rx_40⟩ := h_43
        refine g_istore C dX11_line_40 (by decide) (lo2 := [(4, .int x_40), (3, .int x_39), (0, .ref x), (1, .int a0), (2, .int a1)]) rfl ?_
        refine g_iconst C (v := 0) dX11_line_42 (by decide) ?_
        refine g_istore C dX11_line_43 (by decide) (lo2 := [(5, .int 0), (4, .int x_40), (3, .int x_39), (0, .ref x), (1, .int a0), (2, .int a1)]) rfl ?_
        refine g_lo (is := [3, 4, 5, 2, 1, 0]) (lo2 := [(0, .ref x), (1, .int a0), (2, .int a1), (3, .int x_39), (4, .int x_40), (5, .int 0)]) rfl ?_
        exact l_45 7 a0 (r_33) a1 (r_38) x_39 x_40 (rx_40) 0 (rg_w rc_0 (by decide) (by decide)) x_39 hx_39 (ms_s (a := 0) (b := 6) (N := 7) (rg_w rc_0 (by decide) (by decide)) (by decide))
      · skip
        have r_44 := le_r (nlt h_37) rc_7 r_36
        refine g_iconst C (v := (-1)) dX11_line_21 (by decide) ?_
        exact g_zret (ty := .int) (r := (-1)) B K rfl (rfl) ⟨rfl, rfl, rg_w rc_m1 (by decide) (by decide)⟩ dX11_line_22
set_option maxRecDepth 100000 in
set_option maxHeartbeats 8000000 in
theorem c_J6_bitCount_0f7a4 {l : Launch} {D : va_G} {cy : Nat → ClassId} {L : List Nat} {κ ln : Nat → Nat} {R : Nat → Nat → Option Nat} {I : Nat → Nat → Int32} {J : Nat → Nat → Int64} {ow : Nat → Nat × Nat} (W9 : ∀ a ∈ L, Shp L κ ln R ow a) (a0 : Int32) (hU : Iv L κ R ow I) : CtI l yJ6_bitCount_0f7a4 cJ6_bitCount_0f7a4 1 (some .int) { frames := 0, cells := 0, slots := 0, locals := 0 } D cy L κ ln R I J [.int a0] (fun r I2 J2 => I = I2 ∧ J = J2 ∧ Rg 0 63 r ∧ r = bc_ a0) := by
  refine CtI.of (by decide +kernel) (Nat.le_of_ble_eq_true rfl) ?_
  intro p e s m below meth c B K
  have C := B.1
  refine g_lo (is := [0]) (lo2 := [(0, .int a0)]) rfl ?_
  refine g_iload_n C 0 dJ6_bitCount_0f7a4_0 rfl rfl ?_
  refine g_iload_n C 0 dJ6_bitCount_0f7a4_1 rfl rfl ?_
  refine g_iconst C (v := 1) dJ6_bitCount_0f7a4_2 (by decide) ?_
  obtain ⟨x_1, hx_1, rx_1⟩ := ex_any (z0 := (Int32.toUInt32 (a0) >>> (Int32.toUInt32 (1) &&& Int32.toUInt32 31)).toInt32)
  refine g_iushr C (v := x_1) dJ6_bitCount_0f7a4_3 hx_1 ?_
  refine g_ldcw C k_Integer_265 dJ6_bitCount_0f7a4_4 ?_
  obtain ⟨x_2, hx_2, rx_2⟩ := ex_andr (x := x_1) (y := 1431655765) (b := 1431655765) (rg_w rc_1431655765 (by decide) (by decide))
  refine g_iand C (v := x_2) dJ6_bitCount_0f7a4_7 hx_2 ?_
  obtain ⟨x_3, hx_3, rx_3⟩ := ex_any (z0 := a0 - x_2)
  refine g_isub C (v := x_3) dJ6_bitCount_0f7a4_8 hx_3 ?_
  refine g_istore_n C dJ6_bitCount_0f7a4_9 rfl (by decide) (lo2 := [(0, .int x_3)]) rfl ?_
  refine g_iload_n C 0 dJ6_bitCount_0f7a4_10 rfl rfl ?_
  refine g_ldcw C k_Integer_266 dJ6_bitCount_0f7a4_11 ?_
  obtain ⟨x_4, hx_4, rx_4⟩ := ex_andr (x := x_3) (y := 858993459) (b := 858993459) (rg_w rc_858993459 (by decide) (by decide))
  refine g_iand C (v := x_4) dJ6_bitCount_0f7a4_14 hx_4 ?_
  refine g_iload_n C 0 dJ6_bitCount_0f7a4_15 rfl rfl ?_
  refine g_iconst C (v := 2) dJ6_bitCount_0f7a4_16 (by decide) ?_
  obtain ⟨x_5, hx_5, rx_5⟩ := ex_any (z0 := (Int32.toUInt32 (x_3) >>> (Int32.toUInt32 (2) &&& Int32.toUInt32 31)).toInt32)
  refine g_iushr C (v := x_5) dJ6_bitCount_0f7a4_17 hx_5 ?_
  refine g_ldcw C k_Integer_266 dJ6_bitCount_0f7a4_18 ?_
  obtain ⟨x_6, hx_6, rx_6⟩ := ex_andr (x := x_5) (y := 858993459) (b := 858993459) (rg_w rc_858993459 (by decide) (by decide))
  refine g_iand C (v := x_6) dJ6_bitCount_0f7a4_21 hx_6 ?_
  obtain ⟨x_7, hx_7, rx_7, tx_7⟩ := ex_add 0 1717986918 rx_4 rx_6 (by decide) (by decide) (by decide) (by decide)
  refine g_iadd C (v := x_7) dJ6_bitCount_0f7a4_22 hx_7 ?_
  refine g_istore_n C dJ6_bitCount_0f7a4_23 rfl (by decide) (lo2 := [(0, .int x_7)]) rfl ?_
  refine g_iload_n C 0 dJ6_bitCount_0f7a4_24 rfl rfl ?_
  refine g_iload_n C 0 dJ6_bitCount_0f7a4_25 rfl rfl ?_
  refine g_iconst C (v := 4) dJ6_bitCount_0f7a4_26 (by decide) ?_
  obtain ⟨x_8, hx_8, rx_8⟩ := ex_any (z0 := (Int32.toUInt32 (x_7) >>> (Int32.toUInt32 (4) &&& Int32.toUInt32 31)).toInt32)
  refine g_iushr C (v := x_8) dJ6_bitCount_0f7a4_27 hx_8 ?_
  obtain ⟨x_9, hx_9, rx_9⟩ := ex_any (z0 := x_7 + x_8)
  refine g_iadd C (v := x_9) dJ6_bitCount_0f7a4_28 hx_9 ?_
  refine g_ldcw C k_Integer_267 dJ6_bitCount_0f7a4_29 ?_
  obtain ⟨x_10, hx_10, rx_10⟩ := ex_andr (x := x_9) (y := 252645135) (b := 252645135) (rg_w rc_252645135 (by decide) (by decide))
  refine g_iand C (v := x_10) dJ6_bitCount_0f7a4_32 hx_10 ?_
  refine g_istore_n C dJ6_bitCount_0f7a4_33 rfl (by decide) (lo2 := [(0, .int x_10)]) rfl ?_
  refine g_iload_n C 0 dJ6_bitCount_0f7a4_34 rfl rfl ?_
  refine g_iload_n C 0 dJ6_bitCount_0f7a4_35 rfl rfl ?_
  refine g_bipush C (v := 8) dJ6_bitCount_0f7a4_36 (by decide) ?_
  obtain ⟨x_11, hx_11, rx_11⟩ := ex_ushr8 (x := x_10)
  refine g_iushr C (v := x_11) dJ6_bitCount_0f7a4_38 hx_11 ?_
  obtain ⟨x_12, hx_12, rx_12, tx_12⟩ := ex_add 0 269422350 rx_10 rx_11 (by decide) (by decide) (by decide) (by decide)
  refine g_iadd C (v := x_12) dJ6_bitCount_0f7a4_39 hx_12 ?_
  refine g_istore_n C dJ6_bitCount_0f7a4_40 rfl (by decide) (lo2 := [(0, .int x_12)]) rfl ?_
  refine g_iload_n C 0 dJ6_bitCount_0f7a4_41 rfl rfl ?_
  refine g_iload_n C 0 dJ6_bitCount_0f7a4_42 rfl rfl ?_
  refine g_bipush C (v := 16) dJ6_bitCount_0f7a4_43 (by decide) ?_
  obtain ⟨x_13, hx_13, rx_13⟩ := ex_any (z0 := (Int32.toUInt32 (x_12) >>> (Int32.toUInt32 (16) &&& Int32.toUInt32 31)).toInt32)
  refine g_iushr C (v := x_13) dJ6_bitCount_0f7a4_45 hx_13 ?_
  obtain ⟨x_14, hx_14, rx_14⟩ := ex_any (z0 := x_12 + x_13)
  refine g_iadd C (v := x_14) dJ6_bitCount_0f7a4_46 hx_14 ?_
  refine g_istore_n C dJ6_bitCount_0f7a4_47 rfl (by decide) (lo2 := [(0, .int x_14)]) rfl ?_
  refine g_iload_n C 0 dJ6_bitCount_0f7a4_48 rfl rfl ?_
  refine g_bipush C (v := 63) dJ6_bitCount_0f7a4_49 (by decide) ?_
  obtain ⟨x_15, hx_15, rx_15⟩ := ex_andr (x := x_14) (y := 63) (b := 63) (rg_w rc_63 (by decide) (by decide))
  refine g_iand C (v := x_15) dJ6_bitCount_0f7a4_51 hx_15 ?_
  exact g_zret (ty := .int) (r := x_15) B K rfl (rfl) ⟨rfl, rfl, rx_15, (by subst_vars; rfl)⟩ dJ6_bitCount_0f7a4_52
set_option maxRecDepth 100000 in
set_option maxHeartbeats 8000000 in
theorem c_X1_living {l : Launch} {D : va_G} {cy : Nat → ClassId} {L : List Nat} {κ ln : Nat → Nat} {R : Nat → Nat → Option Nat} {I : Nat → Nat → Int32} {J : Nat → Nat → Int64} {ow : Nat → Nat × Nat} (W9 : ∀ a ∈ L, Shp L κ ln R ow a) {x : Nat} (hLx : x ∈ L) (hkx : κ x = 1) (hU : Iv L κ R ow I) : CtI l yX1_living cX1_living 1 (some .int) { frames := 1, cells := 0, slots := 0, locals := 20 } D cy L κ ln R I J [.ref x] (fun r I2 J2 => I = I2 ∧ J = J2 ∧ Rg 0 127 r) := by
  refine CtI.of (by decide +kernel) (Nat.le_of_ble_eq_true rfl) ?_
  intro p e s m below meth c B K
  have C := B.1
  obtain ⟨b_1, hb_1, hb_1L, hb_1k⟩ := shp_o (W9 x hLx) hkx 0 8 rfl (by decide)
  refine g_lo (is := [0]) (lo2 := [(0, .ref x)]) rfl ?_
  refine g_aload_n C 0 dX1_living_0 rfl rfl ?_
  refine g_getR C K hLx hkx f_1_52 hb_1 dX1_living_1 ?_
  refine g_callVI C K (c_X8_everybody W9 hb_1L hb_1k   hU) hb_1L hb_1k (by decide) rfl v_1_62 rfl ⟨rfl, rfl⟩ ⟨Nat.le_of_ble_eq_true rfl, Nat.le_of_ble_eq_true rfl⟩ (Nat.le_of_ble_eq_true rfl) ⟨Nat.le_of_ble_eq_true rfl, Nat.le_of_ble_eq_true rfl⟩ dX1_living_4 rfl (st := []) (fun x_2 I_3 J_4 h_5 => ?_)
  obtain ⟨rfl, rfl, rx_2⟩ := h_5
  refine g_aload_n C 0 dX1_living_7 rfl rfl ?_
  obtain ⟨x_6, hx_6, rx_6⟩ := ex_get (I := I) (a := x) (j := 7) (lo := (-2147483648)) (hi := 2147483647) hU.1 hLx (ro_o hkx (by decide)) rfl
  refine g_getI C K hLx hkx f_1_30 (v := x_6) hx_6 dX1_living_8 ?_
  refine g_iconst C (v := (-1)) dX1_living_11 (by decide) ?_
  obtain ⟨x_7, hx_7, rx_7⟩ := ex_any (z0 := x_6 ^^^ (-1))
  refine g_ixor C (v := x_7) dX1_living_12 hx_7 ?_
  obtain ⟨x_8, hx_8, rx_8⟩ := ex_andl (x := x_2) (y := x_7) (b := 127) (rx_2)
  refine g_iand C (v := x_8) dX1_living_13 hx_8 ?_
  exact g_zret (ty := .int) (r := x_8) B K rfl (rfl) ⟨rfl, rfl, rx_8⟩ dX1_living_14
set_option maxRecDepth 100000 in
set_option maxHeartbeats 8000000 in
theorem c_X1_eatAll {l : Launch} {D : va_G} {cy : Nat → ClassId} {L : List Nat} {κ ln : Nat → Nat} {R : Nat → Nat → Option Nat} {I : Nat → Nat → Int32} {J : Nat → Nat → Int64} {ow : Nat → Nat × Nat} (W9 : ∀ a ∈ L, Shp L κ ln R ow a) {x : Nat} (hLx : x ∈ L) (hkx : κ x = 1) (a0 : Int32) (ra0 : Rg 0 6 a0) (hU : Iv L κ R ow I) : CtV l yX1_eatAll cX1_eatAll 3 none { frames := 2, cells := 0, slots := 0, locals := 60 } D cy L κ ln R I J [.ref x, .int a0] (fun I2 J2 => Iv L κ R ow I2 ∧ Fq L κ ow [16200, 16300, 16400, 16500] I I2 ∧ Fq L κ ow [] J J2) := by
  refine CtV.of (by decide +kernel) (Nat.le_of_ble_eq_true rfl) ?_
  intro p e s m below meth c B K
  have C := B.1
  have hF : Fq L κ ow [16200, 16300, 16400, 16500] I I := fq_rf
  have hG : Fq L κ ow [] J J := fq_rf
  obtain ⟨b_1, hb_1, hb_1L, hb_1k⟩ := shp_o (W9 x hLx) hkx 0 8 rfl (by decide)
  refine g_lo (is := [0, 1]) (lo2 := [(0, .ref x), (1, .int a0)]) rfl ?_
  have l_2 : ∀ (n_2 : Nat) (I_2 : Nat → Nat → Int32) (J_3 : Nat → Nat → Int64) (hU_4 : Iv L κ R ow I_2) (hF_5 : Fq L κ ow [16200, 16300, 16400, 16500] I I_2) (hG_6 : Fq L κ ow [] J J_3) (v_7 : Int32) (rv_7 : Rg 0 6 v_7) (v_8 : Int32) (rv_8 : Rg 0 6 v_8) (hm_9 : 6 < (v_8 : Int32).toInt + (n_2 : Int)), WG p l e { frames := 2, cells := 0, slots := 0, locals := 60 } s m ([.ref x, .int a0] : List Value).toArray below meth c 3 0 0 (MQ below (Qv_ D cy L κ ln R (fun I2 J2 => Iv L κ R ow I2 ∧ Fq L κ ow [16200, 16300, 16400, 16500] I I2 ∧ Fq L κ ow [] J J2)) ([.ref x, .int a0] : List Value).toArray s 0 0 (Al_ L)) D cy (Al_ L) s.heap L κ ln R I_2 J_3 2 [(0, .ref x), (1, .int v_7), (2, .int v_8)] [] := by
    intro n_2
    induction n_2 with
    | zero =>
      intro I_2 J_3 hU_4 hF_5 hG_6 v_7 rv_7 v_8 rv_8 hm_9
      exact ms_0 rv_8 hm_9
    | succ n_2 ih_2 =>
      intro I_2 J_3 hU_4 hF_5 hG_6 v_7 rv_7 v_8 rv_8 hm_9
      refine g_iload_n C 2 dX1_eatAll_2 rfl rfl ?_
      refine g_aload_n C 0 dX1_eatAll_3 rfl rfl ?_
      refine g_getR C K hLx hkx f_1_52 hb_1 dX1_eatAll_4 ?_
      obtain ⟨x_10, hx_10, rx_10⟩ := ex_get (I := I_2) (a := b_1) (j := 6) (lo := 0) (hi := 6) hU_4.1 hb_1L (ro_o hb_1k (by decide)) rfl
      refine g_getI C K hb_1L hb_1k f_1_97 (v := x_10) hx_10 dX1_eatAll_7 ?_
      refine g_icmp_ge C (tgt := 39) dX1_eatAll_10 (by decide) (fun h_11 => ?_) (fun h_11 => ?_)
      · skip
        exact g_vret B K rfl ⟨hU_4, hF_5, hG_6⟩ dX1_eatAll_39
      · skip
        have r_12 := lt_l (hi := 5) (nle h_11) rv_8 rx_10 (by decide)
        have r_13 := lt_r (lo := 1) (nle h_11) rv_8 rx_10 (by decide)
        refine g_aload_n C 0 dX1_eatAll_13 rfl rfl ?_
        refine g_iload_n C 1 dX1_eatAll_14 rfl rfl ?_
        refine g_iload_n C 2 dX1_eatAll_15 rfl rfl ?_
        refine g_aload_n C 0 dX1_eatAll_16 rfl rfl ?_
        refine g_iload_n C 1 dX1_eatAll_17 rfl rfl ?_
        refine g_iload_n C 2 dX1_eatAll_18 rfl rfl ?_
        refine g_callVI C K (c_X1_onPlate W9 hLx hkx v_7 v_8 (rv_7) (r_12) hU_4) hLx hkx (by decide) rfl v_1_71 rfl ⟨rfl, rfl⟩ ⟨Nat.le_of_ble_eq_true rfl, Nat.le_of_ble_eq_true rfl⟩ (Nat.le_of_ble_eq_true rfl) ⟨Nat.le_of_ble_eq_true rfl, Nat.le_of_ble_eq_true rfl⟩ dX1_eatAll_19 rfl (st := [.int v_8, .int v_7, .ref x]) (fun x_14 I_15 J_16 h_17 => ?_)
        obtain ⟨rfl, rfl, rx_14, fx_14⟩ := h_17
        refine g_aload_n C 0 dX1_eatAll_22 rfl rfl ?_
        refine g_iload_n C 1 dX1_eatAll_23 rfl rfl ?_
        refine g_callVI C K (c_X1_wantsYet W9 hLx hkx v_7 (rv_7) hU_4) hLx hkx (by decide) rfl v_1_109 rfl ⟨rfl, rfl⟩ ⟨Nat.le_of_ble_eq_true rfl, Nat.le_of_ble_eq_true rfl⟩ (Nat.le_of_ble_eq_true rfl) ⟨Nat.le_of_ble_eq_true rfl, Nat.le_of_ble_eq_true rfl⟩ dX1_eatAll_24 rfl (st := [.int x_14, .int v_8, .int v_7, .ref x]) (fun x_18 I_19 J_20 h_21 => ?_)
        obtain ⟨rfl, rfl, rx_18⟩ := h_21
        obtain ⟨x_22, hx_22, rx_22⟩ := ex_min (-2147483648) 2147483647 rx_14 rx_18 (by decide) (by decide) (by decide)
        refine g_mmin C (v := x_22) mw_1_100 w_min (Nat.le_of_ble_eq_true rfl) (Nat.le_of_ble_eq_true rfl) ⟨Nat.le_of_ble_eq_true rfl, Nat.le_of_ble_eq_true rfl⟩ (hx_22) dX1_eatAll_27 ?_
        refine g_callVV C K (c_X1_eatUp W9 hLx hkx v_7 v_8 x_22 (rv_7) (r_12) hU_4) hLx hkx (by decide) rfl v_1_112 rfl ⟨rfl, rfl⟩ ⟨Nat.le_of_ble_eq_true rfl, Nat.le_of_ble_eq_true rfl⟩ (Nat.le_of_ble_eq_true rfl) ⟨Nat.le_of_ble_eq_true rfl, Nat.le_of_ble_eq_true rfl⟩ dX1_eatAll_30 rfl (st := []) (fun I_24 J_25 h_26 => ?_)
        obtain ⟨hUI_24, hFI_24, hGJ_25⟩ := h_26
        have hF_27 := fq_tr hF_5 hFI_24 (by decide)
        have hG_28 := fq_tr hG_6 hGJ_25 (by decide)
        obtain ⟨x_29, hx_29, rx_29, tx_29⟩ := ex_add (y := 1) 1 6 r_12 rc_1 (by decide) (by decide) (by decide) (by decide)
        refine g_iinc C dX1_eatAll_33 (k := 2) (v := x_29) rfl hx_29 (by decide) (lo2 := [(2, .int x_29), (0, .ref x), (1, .int v_7)]) rfl ?_
        refine g_goto C (tgt := 2) dX1_eatAll_36 (by decide) ?_
        refine g_lo (is := [1, 2, 0]) (lo2 := [(0, .ref x), (1, .int v_7), (2, .int x_29)]) rfl ?_
        exact ih_2 I_24 J_25 hUI_24 hF_27 hG_28 v_7 (rv_7) x_29 (rg_w rx_29 (by decide) (by decide)) (ms_1 hm_9 (ti_k tx_29 rc_1) (by decide))
  refine g_iconst C (v := 0) dX1_eatAll_0 (by decide) ?_
  refine g_istore_n C dX1_eatAll_1 rfl (by decide) (lo2 := [(2, .int 0), (0, .ref x), (1, .int a0)]) rfl ?_
  refine g_lo (is := [1, 2, 0]) (lo2 := [(0, .ref x), (1, .int a0), (2, .int 0)]) rfl ?_
  exact l_2 7 I J hU hF hG a0 (ra0) 0 (rg_w rc_0 (by decide) (by decide)) (ms_s (a := 0) (b := 6) (N := 7) (rg_w rc_0 (by decide) (by decide)) (by decide))
set_option maxRecDepth 100000 in
set_option maxHeartbeats 8000000 in
theorem c_X4_atLeastWanted {l : Launch} {D : va_G} {cy : Nat → ClassId} {L : List Nat} {κ ln : Nat → Nat} {R : Nat → Nat → Option Nat} {I : Nat → Nat → Int32} {J : Nat → Nat → Int64} {ow : Nat → Nat × Nat} (W9 : ∀ a ∈ L, Shp L κ ln R ow a) {a0 : Nat} (hLa0 : a0 ∈ L) (hka0 : κ a0 = 1) (a1 : Int32) (ra1 : Rg 0 127 a1) (hU : Iv L κ R ow I) : CtI l yX4_atLeastWanted cX4_atLeastWanted 4 (some .int) { frames := 1, cells := 0, slots := 0, locals := 60 } D cy L κ ln R I J [.ref a0, .int a1] (fun r I2 J2 => I = I2 ∧ J = J2 ∧ Rg 0 2147483647 r) := by
  refine CtI.of (by decide +kernel) (Nat.le_of_ble_eq_true rfl) ?_
  intro p e s m below meth c B K
  have C := B.1
  obtain ⟨b_1, hb_1, hb_1L, hb_1k⟩ := shp_o (W9 a0 hLa0) hka0 0 8 rfl (by decide)
  obtain ⟨b_2, hb_2, hb_2L, hb_2k, hb_2n, hb_2o⟩ := shp_a (W9 a0 hLa0) hka0 3 14 7 rfl (by decide)
  refine g_lo (is := [0, 1]) (lo2 := [(0, .ref a0), (1, .int a1)]) rfl ?_
  have l_4 : ∀ (n_4 : Nat) (v_3 : Int32) (rv_3 : Rg 0 127 v_3) (v_4 : Int32) (v_5 : Int32) (rv_5 : Rg 0 7 v_5) (hm_6 : 7 < (v_5 : Int32).toInt + (n_4 : Int)), WG p l e { frames := 1, cells := 0, slots := 0, locals := 60 } s m ([.ref a0, .int a1] : List Value).toArray below meth c 4 0 0 (MQ below (Qi_ D cy L κ ln R (fun r I2 J2 => I = I2 ∧ J = J2 ∧ Rg 0 2147483647 r)) ([.ref a0, .int a1] : List Value).toArray s 0 0 (Al_ L)) D cy (Al_ L) s.heap L κ ln R I J 4 [(0, .ref a0), (1, .int v_3), (2, .int v_4), (3, .int v_5)] [] := by
    intro n_4
    induction n_4 with
    | zero =>
      intro v_3 rv_3 v_4 v_5 rv_5 hm_6
      exact ms_0 rv_5 hm_6
    | succ n_4 ih_4 =>
      intro v_3 rv_3 v_4 v_5 rv_5 hm_6
      have j_38 : ∀ (v_7 : Int32) (rv_7 : Rg 0 127 v_7) (v_8 : Int32) (v_9 : Int32) (rv_9 : Rg 0 6 v_9) (v_10 : Int32) (rv_10 : Rg 1 7 v_10) (q_11 : I b_1 5 = v_10) (hm_12 : 7 < (v_9 : Int32).toInt + ((n_4 + 1 : Nat) : Int)), WG p l e { frames := 1, cells := 0, slots := 0, locals := 60 } s m ([.ref a0, .int a1] : List Value).toArray below meth c 4 0 0 (MQ below (Qi_ D cy L κ ln R (fun r I2 J2 => I = I2 ∧ J = J2 ∧ Rg 0 2147483647 r)) ([.ref a0, .int a1] : List Value).toArray s 0 0 (Al_ L)) D cy (Al_ L) s.heap L κ ln R I J 38 [(0, .ref a0), (1, .int v_7), (2, .int v_8), (3, .int v_9)] [] := by
        intro v_7 rv_7 v_8 v_9 rv_9 v_10 rv_10 q_11 hm_12
        obtain ⟨x_13, hx_13, rx_13, tx_13⟩ := ex_add (y := 1) 1 7 rv_9 rc_1 (by decide) (by decide) (by decide) (by decide)
        refine g_iinc C dX4_atLeastWanted_38 (k := 3) (v := x_13) rfl hx_13 (by decide) (lo2 := [(3, .int x_13), (0, .ref a0), (1, .int v_7), (2, .int v_8)]) rfl ?_
        refine g_goto C (tgt := 4) dX4_atLeastWanted_41 (by decide) ?_
        refine g_lo (is := [1, 2, 3, 0]) (lo2 := [(0, .ref a0), (1, .int v_7), (2, .int v_8), (3, .int x_13)]) rfl ?_
        exact ih_4 v_7 (rv_7) v_8 x_13 (rg_w rx_13 (by decide) (by decide)) (ms_1 hm_12 (ti_k tx_13 rc_1) (by decide))
      refine g_iload_n C 3 dX4_atLeastWanted_4 rfl rfl ?_
      refine g_aload_n C 0 dX4_atLeastWanted_5 rfl rfl ?_
      refine g_getR C K hLa0 hka0 f_4_72 hb_1 dX4_atLeastWanted_6 ?_
      obtain ⟨x_14, hx_14, rx_14⟩ := ex_get (I := I) (a := b_1) (j := 5) (lo := 0) (hi := 7) hU.1 hb_1L (ro_o hb_1k (by decide)) rfl
      refine g_getI C K hb_1L hb_1k f_4_76 (v := x_14) hx_14 dX4_atLeastWanted_9 ?_
      refine g_icmp_ge C (tgt := 44) dX4_atLeastWanted_12 (by decide) (fun h_15 => ?_) (fun h_15 => ?_)
      · skip
        refine g_iload_n C 2 dX4_atLeastWanted_44 rfl rfl ?_
        refine g_iconst C (v := 0) dX4_atLeastWanted_45 (by decide) ?_
        obtain ⟨x_16, hx_16, rx_16⟩ := ex_max 0 2147483647 (rg_all v_4) rc_0 (by decide) (by decide) (by decide)
        refine g_mmax C (v := x_16) mw_4_84 w_max (Nat.le_of_ble_eq_true rfl) (Nat.le_of_ble_eq_true rfl) ⟨Nat.le_of_ble_eq_true rfl, Nat.le_of_ble_eq_true rfl⟩ (hx_16) dX4_atLeastWanted_46 ?_
        exact g_zret (ty := .int) (r := x_16) B K rfl (rfl) ⟨rfl, rfl, rx_16⟩ dX4_atLeastWanted_49
      · skip
        have r_17 := lt_l (hi := 6) (nle h_15) rv_5 rx_14 (by decide)
        have r_18 := lt_r (lo := 1) (nle h_15) rv_5 rx_14 (by decide)
        refine g_iload_n C 1 dX4_atLeastWanted_15 rfl rfl ?_
        refine g_iload_n C 3 dX4_atLeastWanted_16 rfl rfl ?_
        obtain ⟨x_19, hx_19, rx_19⟩ := ex_shr (x := v_3) (y := v_5) (b := 127) (rv_3)
        refine g_ishr C (v := x_19) dX4_atLeastWanted_17 hx_19 ?_
        refine g_iconst C (v := 1) dX4_atLeastWanted_18 (by decide) ?_
        obtain ⟨x_20, hx_20, rx_20⟩ := ex_andr (x := x_19) (y := 1) (b := 1) (rg_w rc_1 (by decide) (by decide))
        refine g_iand C (v := x_20) dX4_atLeastWanted_19 hx_20 ?_
        refine g_if_eq C (tgt := 38) dX4_atLeastWanted_20 (by decide) (fun h_21 => ?_) (fun h_21 => ?_)
        · skip
          have r_22 := (⟨(rx_20).1, (eq_rg (h_21) rc_0).2⟩ : Rg 0 0 x_20)
          refine g_lo (is := [0, 1, 2, 3]) (lo2 := [(0, .ref a0), (1, .int v_3), (2, .int v_4), (3, .int v_5)]) rfl ?_
          exact j_38 v_3 (rv_3) v_4 v_5 (r_17) x_14 (r_18) hx_14 hm_6
        · skip
          have n_23 : ¬ x_20 = 0 := h_21
          have r_24 := ne_lo (lo := 1) n_23 rx_20 rc_0 rfl (by decide)
          refine g_iload_n C 2 dX4_atLeastWanted_23 rfl rfl ?_
          refine g_aload_n C 0 dX4_atLeastWanted_24 rfl rfl ?_
          refine g_iload_n C 3 dX4_atLeastWanted_25 rfl rfl ?_
          refine g_callVI C K (c_X1_wantsYet W9 hLa0 hka0 v_5 (r_17) hU) hLa0 hka0 (by decide) rfl v_4_65 rfl ⟨rfl, rfl⟩ ⟨Nat.le_of_ble_eq_true rfl, Nat.le_of_ble_eq_true rfl⟩ (Nat.le_of_ble_eq_true rfl) ⟨Nat.le_of_ble_eq_true rfl, Nat.le_of_ble_eq_true rfl⟩ dX4_atLeastWanted_26 rfl (st := [.int v_4]) (fun x_25 I_26 J_27 h_28 => ?_)
          obtain ⟨rfl, rfl, rx_25⟩ := h_28
          refine g_aload_n C 0 dX4_atLeastWanted_29 rfl rfl ?_
          refine g_getR C K hLa0 hka0 f_4_81 hb_2 dX4_atLeastWanted_30 ?_
          refine g_iload_n C 3 dX4_atLeastWanted_33 rfl rfl ?_
          obtain ⟨x_29, hx_29, rx_29⟩ := ex_any (z0 := I b_2 (v_5.toNatClampNeg))
          refine h_iald C K hb_2L hb_2k (v := x_29) (v_5.toNatClampNeg) (rfl) (ix_0 r_17 (by decide)) (ix_lt r_17 (by decide) hb_2n (by decide)) hx_29 dX4_atLeastWanted_34 ?_
          obtain ⟨x_30, hx_30, rx_30⟩ := ex_any (z0 := x_25 - x_29)
          refine g_isub C (v := x_30) dX4_atLeastWanted_35 hx_30 ?_
          obtain ⟨x_31, hx_31, rx_31⟩ := ex_any (z0 := v_4 + x_30)
          refine g_iadd C (v := x_31) dX4_atLeastWanted_36 hx_31 ?_
          refine g_istore_n C dX4_atLeastWanted_37 rfl (by decide) (lo2 := [(2, .int x_31), (0, .ref a0), (1, .int v_3), (3, .int v_5)]) rfl ?_
          refine g_lo (is := [1, 2, 0, 3]) (lo2 := [(0, .ref a0), (1, .int v_3), (2, .int x_31), (3, .int v_5)]) rfl ?_
          exact j_38 v_3 (rv_3) x_31 v_5 (r_17) x_14 (r_18) hx_14 hm_6
  refine g_iconst C (v := 0) dX4_atLeastWanted_0 (by decide) ?_
  refine g_istore_n C dX4_atLeastWanted_1 rfl (by decide) (lo2 := [(2, .int 0), (0, .ref a0), (1, .int a1)]) rfl ?_
  refine g_iconst C (v := 0) dX4_atLeastWanted_2 (by decide) ?_
  refine g_istore_n C dX4_atLeastWanted_3 rfl (by decide) (lo2 := [(3, .int 0), (2, .int 0), (0, .ref a0), (1, .int a1)]) rfl ?_
  refine g_lo (is := [2, 3, 1, 0]) (lo2 := [(0, .ref a0), (1, .int a1), (2, .int 0), (3, .int 0)]) rfl ?_
  exact l_4 8 a1 (ra1) 0 0 (rg_w rc_0 (by decide) (by decide)) (ms_s (a := 0) (b := 7) (N := 8) (rg_w rc_0 (by decide) (by decide)) (by decide))
set_option maxRecDepth 100000 in
set_option maxHeartbeats 8000000 in
theorem c_X4_goOn_7 {l : Launch} {D : va_G} {cy : Nat → ClassId} {L : List Nat} {κ ln : Nat → Nat} {R : Nat → Nat → Option Nat} {I : Nat → Nat → Int32} {J : Nat → Nat → Int64} {ow : Nat → Nat × Nat} (W9 : ∀ a ∈ L, Shp L κ ln R ow a) {x : Nat} (hLx : x ∈ L) (hkx : κ x = 4) (a0 : Int32) (a1 : Int32) (a2 : Int32) (ra0 : Rg 7 7 a0) (ra1 : Rg 0 127 a1) (hU : Iv L κ R ow I) : CtV l yX4_goOn cX4_goOn 9 none { frames := 1, cells := 0, slots := 0, locals := 60 } D cy L κ ln R I J [.ref x, .int a0, .int a1, .int a2] (fun I2 J2 => Iv L κ R ow I2 ∧ Fq L κ ow [404, 34200] I I2 ∧ Fq L κ ow [] J J2) := by
  refine CtV.of (by decide +kernel) (Nat.le_of_ble_eq_true rfl) ?_
  intro p e s m below meth c B K
  have C := B.1
  have hF : Fq L κ ow [404, 34200] I I := fq_rf
  have hG : Fq L κ ow [] J J := fq_rf
  obtain ⟨b_1, hb_1, hb_1L, hb_1k, hb_1n, hb_1o⟩ := shp_a (W9 x hLx) hkx 1 14 7 rfl (by decide)
  obtain ⟨b_2, hb_2, hb_2L, hb_2k, hb_2n, hb_2o⟩ := shp_a (W9 x hLx) hkx 2 14 7 rfl (by decide)
  refine g_lo (is := [0, 1, 2, 3]) (lo2 := [(0, .ref x), (1, .int a0), (2, .int a1), (3, .int a2)]) rfl ?_
  have j_10 : ∀ (I_3 : Nat → Nat → Int32) (J_4 : Nat → Nat → Int64) (hU_5 : Iv L κ R ow I_3) (hF_6 : Fq L κ ow [404, 34200] I I_3) (hG_7 : Fq L κ ow [] J J_4) (v_8 : Int32) (rv_8 : Rg 7 7 v_8) (v_9 : Int32) (rv_9 : Rg 0 127 v_9) (v_10 : Int32), WG p l e { frames := 1, cells := 0, slots := 0, locals := 60 } s m ([.ref x, .int a0, .int a1, .int a2] : List Value).toArray below meth c 9 0 0 (MQ below (Qv_ D cy L κ ln R (fun I2 J2 => Iv L κ R ow I2 ∧ Fq L κ ow [404, 34200] I I2 ∧ Fq L κ ow [] J J2)) ([.ref x, .int a0, .int a1, .int a2] : List Value).toArray s 0 0 (Al_ L)) D cy (Al_ L) s.heap L κ ln R I_3 J_4 10 [(0, .ref x), (1, .int v_8), (2, .int v_9), (3, .int v_10)] [] := by
    intro I_3 J_4 hU_5 hF_6 hG_7 v_8 rv_8 v_9 rv_9 v_10
    refine g_aload_n C 0 dX4_goOn_10 rfl rfl ?_
    refine g_iload_n C 3 dX4_goOn_11 rfl rfl ?_
    refine h_putI C K hLx hkx f_4_28 p_4_4 dX4_goOn_12 (fun I_11 hI_11 => ?_)
    have hU_12 := iv_put W9 hU_5 hI_11 (ro_o hkx (by decide)) (lo := (-2147483648)) (hi := 2147483647) (rfl) ((rg_all v_10)) rfl
    have hF_13 := fq_puto hF_6 hI_11 hkx (by decide) (by decide)
    refine g_aload_n C 0 dX4_goOn_15 rfl rfl ?_
    refine g_getR C K hLx hkx f_4_17 hb_1 dX4_goOn_16 ?_
    refine g_iconst C (v := 0) dX4_goOn_19 (by decide) ?_
    refine g_aload_n C 0 dX4_goOn_20 rfl rfl ?_
    refine g_getR C K hLx hkx f_4_21 hb_2 dX4_goOn_21 ?_
    refine g_iconst C (v := 0) dX4_goOn_24 (by decide) ?_
    refine g_bipush C (v := 7) dX4_goOn_25 (by decide) ?_
    refine h_copyI C K hb_2L hb_2k hb_1L hb_1k ac_4_52 7 (by decide) (by decide) (by rw [hb_1n]; decide) (by rw [hb_2n]; decide) w_cp (Nat.le_of_ble_eq_true rfl) (Nat.le_of_ble_eq_true rfl) dX4_goOn_27 (fun I_14 hI_14 => ?_)
    have hU_15 := iv_cp W9 hU_12 (uv_cpf hU_12.1 hI_14 (ro_a hb_2k (by decide) hb_2o hkx rfl) (fun _ => rfl)) hI_14 (ro_a hb_2k (by decide) hb_2o hkx rfl) (fun _ => rfl)
    have hF_16 := fq_cp hF_13 hI_14 (ro_a hb_2k (by decide) hb_2o hkx rfl) (by decide) (by decide)
    exact g_vret B K rfl ⟨hU_15, hF_16, hG_7⟩ dX4_goOn_30
  refine g_iload_n C 2 dX4_goOn_0 rfl rfl ?_
  refine g_if_eq C (tgt := 10) dX4_goOn_1 (by decide) (fun h_17 => ?_) (fun h_17 => ?_)
  · skip
    have r_18 := (⟨(ra1).1, (eq_rg (h_17) rc_0).2⟩ : Rg 0 0 a1)
    refine g_lo (is := [0, 1, 2, 3]) (lo2 := [(0, .ref x), (1, .int a0), (2, .int a1), (3, .int a2)]) rfl ?_
    exact j_10 I J hU hF hG a0 (ra0) a1 (rg_w r_18 (by decide) (by decide)) a2
  · skip
    have n_19 : ¬ a1 = 0 := h_17
    have r_20 := ne_lo (lo := 1) n_19 ra1 rc_0 rfl (by decide)
    refine g_iload_n C 1 dX4_goOn_4 rfl rfl ?_
    refine g_bipush C (v := 7) dX4_goOn_5 (by decide) ?_
    refine g_icmp_lt C (tgt := 31) dX4_goOn_7 (by decide) (fun h_21 => ?_) (fun h_21 => ?_)
    · skip
      have r_22 := lt_l (hi := 6) (h_21) ra0 rc_7 (by decide)
      exact rg_no r_22 (by decide)
    · skip
      refine g_lo (is := [0, 1, 2, 3]) (lo2 := [(0, .ref x), (1, .int a0), (2, .int a1), (3, .int a2)]) rfl ?_
      exact j_10 I J hU hF hG a0 (ra0) a1 (rg_w r_20 (by decide) (by decide)) a2
set_option maxRecDepth 100000 in
set_option maxHeartbeats 8000000 in
theorem c_X4_goOn_6 {l : Launch} {D : va_G} {cy : Nat → ClassId} {L : List Nat} {κ ln : Nat → Nat} {R : Nat → Nat → Option Nat} {I : Nat → Nat → Int32} {J : Nat → Nat → Int64} {ow : Nat → Nat × Nat} (W9 : ∀ a ∈ L, Shp L κ ln R ow a) {x : Nat} (hLx : x ∈ L) (hkx : κ x = 4) (a0 : Int32) (a1 : Int32) (a2 : Int32) (ra0 : Rg 6 6 a0) (ra1 : Rg 0 127 a1) (hU : Iv L κ R ow I) : CtV l yX4_goOn cX4_goOn 9 none { frames := 4, cells := 0, slots := 0, locals := 107 } D cy L κ ln R I J [.ref x, .int a0, .int a1, .int a2] (fun I2 J2 => Iv L κ R ow I2 ∧ Fq L κ ow [107, 108, 109, 110, 111, 112, 404, 16100, 16200, 16300, 16400, 16500, 16600, 34100, 34200] I I2 ∧ Fq L κ ow [] J J2) := by
  refine CtV.of (by decide +kernel) (Nat.le_of_ble_eq_true rfl) ?_
  intro p e s m below meth c B K
  have C := B.1
  have hF : Fq L κ ow [107, 108, 109, 110, 111, 112, 404, 16100, 16200, 16300, 16400, 16500, 16600, 34100, 34200] I I := fq_rf
  have hG : Fq L κ ow [] J J := fq_rf
  obtain ⟨b_1, hb_1, hb_1L, hb_1k, hb_1n, hb_1o⟩ := shp_a (W9 x hLx) hkx 2 14 7 rfl (by decide)
  obtain ⟨b_2, hb_2, hb_2L, hb_2k, hb_2n, hb_2o⟩ := shp_a (W9 x hLx) hkx 1 14 7 rfl (by decide)
  obtain ⟨b_3, hb_3, hb_3L, hb_3k, hb_3n, hb_3o⟩ := shp_a (W9 x hLx) hkx 0 17 8 rfl (by decide)
  refine g_lo (is := [0, 1, 2, 3]) (lo2 := [(0, .ref x), (1, .int a0), (2, .int a1), (3, .int a2)]) rfl ?_
  have j_10 : ∀ (I_4 : Nat → Nat → Int32) (J_5 : Nat → Nat → Int64) (hU_6 : Iv L κ R ow I_4) (hF_7 : Fq L κ ow [107, 108, 109, 110, 111, 112, 404, 16100, 16200, 16300, 16400, 16500, 16600, 34100, 34200] I I_4) (hG_8 : Fq L κ ow [] J J_5) (v_9 : Int32) (rv_9 : Rg 6 6 v_9) (v_10 : Int32) (rv_10 : Rg 0 0 v_10) (v_11 : Int32), WG p l e { frames := 4, cells := 0, slots := 0, locals := 107 } s m ([.ref x, .int a0, .int a1, .int a2] : List Value).toArray below meth c 9 0 0 (MQ below (Qv_ D cy L κ ln R (fun I2 J2 => Iv L κ R ow I2 ∧ Fq L κ ow [107, 108, 109, 110, 111, 112, 404, 16100, 16200, 16300, 16400, 16500, 16600, 34100, 34200] I I2 ∧ Fq L κ ow [] J J2)) ([.ref x, .int a0, .int a1, .int a2] : List Value).toArray s 0 0 (Al_ L)) D cy (Al_ L) s.heap L κ ln R I_4 J_5 10 [(0, .ref x), (1, .int v_9), (2, .int v_10), (3, .int v_11)] [] := by
    intro I_4 J_5 hU_6 hF_7 hG_8 v_9 rv_9 v_10 rv_10 v_11
    refine g_aload_n C 0 dX4_goOn_10 rfl rfl ?_
    refine g_iload_n C 3 dX4_goOn_11 rfl rfl ?_
    refine h_putI C K hLx hkx f_4_28 p_4_4 dX4_goOn_12 (fun I_12 hI_12 => ?_)
    have hU_13 := iv_put W9 hU_6 hI_12 (ro_o hkx (by decide)) (lo := (-2147483648)) (hi := 2147483647) (rfl) ((rg_all v_11)) rfl
    have hF_14 := fq_puto hF_7 hI_12 hkx (by decide) (by decide)
    refine g_aload_n C 0 dX4_goOn_15 rfl rfl ?_
    refine g_getR C K hLx hkx f_4_17 hb_2 dX4_goOn_16 ?_
    refine g_iconst C (v := 0) dX4_goOn_19 (by decide) ?_
    refine g_aload_n C 0 dX4_goOn_20 rfl rfl ?_
    refine g_getR C K hLx hkx f_4_21 hb_1 dX4_goOn_21 ?_
    refine g_iconst C (v := 0) dX4_goOn_24 (by decide) ?_
    refine g_bipush C (v := 7) dX4_goOn_25 (by decide) ?_
    refine h_copyI C K hb_1L hb_1k hb_2L hb_2k ac_4_52 7 (by decide) (by decide) (by rw [hb_2n]; decide) (by rw [hb_1n]; decide) w_cp (Nat.le_of_ble_eq_true rfl) (Nat.le_of_ble_eq_true rfl) dX4_goOn_27 (fun I_15 hI_15 => ?_)
    have hU_16 := iv_cp W9 hU_13 (uv_cpf hU_13.1 hI_15 (ro_a hb_1k (by decide) hb_1o hkx rfl) (fun _ => rfl)) hI_15 (ro_a hb_1k (by decide) hb_1o hkx rfl) (fun _ => rfl)
    have hF_17 := fq_cp hF_14 hI_15 (ro_a hb_1k (by decide) hb_1o hkx rfl) (by decide) (by decide)
    exact g_vret B K rfl ⟨hU_16, hF_17, hG_8⟩ dX4_goOn_30
  have l_52 : ∀ (n_52 : Nat) (I_18 : Nat → Nat → Int32) (J_19 : Nat → Nat → Int64) (hU_20 : Iv L κ R ow I_18) (hF_21 : Fq L κ ow [107, 108, 109, 110, 111, 112, 404, 16100, 16200, 16300, 16400, 16500, 16600, 34100, 34200] I I_18) (hG_22 : Fq L κ ow [] J J_19) (v_23 : Int32) (rv_23 : Rg 6 6 v_23) (v_24 : Int32) (rv_24 : Rg 1 127 v_24) (nv_24_0 : ¬ v_24 = 0) (v_25 : Int32) {b_26 : Nat} (hb_26L : b_26 ∈ L) (hb_26k : κ b_26 = 1) {b_27 : Nat} (hb_27L : b_27 ∈ L) (hb_27k : κ b_27 = 1) (v_28 : Int32) (rv_28 : Rg 0 7 v_28) (hm_29 : 7 < (v_28 : Int32).toInt + (n_52 : Int)), WG p l e { frames := 4, cells := 0, slots := 0, locals := 107 } s m ([.ref x, .int a0, .int a1, .int a2] : List Value).toArray below meth c 9 0 0 (MQ below (Qv_ D cy L κ ln R (fun I2 J2 => Iv L κ R ow I2 ∧ Fq L κ ow [107, 108, 109, 110, 111, 112, 404, 16100, 16200, 16300, 16400, 16500, 16600, 34100, 34200] I I2 ∧ Fq L κ ow [] J J2)) ([.ref x, .int a0, .int a1, .int a2] : List Value).toArray s 0 0 (Al_ L)) D cy (Al_ L) s.heap L κ ln R I_18 J_19 52 [(0, .ref x), (1, .int v_23), (2, .int v_24), (3, .int v_25), (4, .ref b_26), (5, .ref b_27), (6, .int v_28)] [] := by
    intro n_52
    induction n_52 with
    | zero =>
      intro I_18 J_19 hU_20 hF_21 hG_22 v_23 rv_23 v_24 rv_24 nv_24_0 v_25 b_26 hb_26L hb_26k b_27 hb_27L hb_27k v_28 rv_28 hm_29
      exact ms_0 rv_28 hm_29
    | succ n_52 ih_52 =>
      intro I_18 J_19 hU_20 hF_21 hG_22 v_23 rv_23 v_24 rv_24 nv_24_0 v_25 b_26 hb_26L hb_26k b_27 hb_27L hb_27k v_28 rv_28 hm_29
      have j_147 : ∀ (I_30 : Nat → Nat → Int32) (J_31 : Nat → Nat → Int64) (hU_32 : Iv L κ R ow I_30) (hF_33 : Fq L κ ow [107, 108, 109, 110, 111, 112, 404, 16100, 16200, 16300, 16400, 16500, 16600, 34100, 34200] I I_30) (hG_34 : Fq L κ ow [] J J_31) (v_35 : Int32) (rv_35 : Rg 6 6 v_35) (v_36 : Int32) (rv_36 : Rg 1 127 v_36) (nv_36_0 : ¬ v_36 = 0) (v_37 : Int32) {b_38 : Nat} (hb_38L : b_38 ∈ L) (hb_38k : κ b_38 = 1) {b_39 : Nat} (hb_39L : b_39 ∈ L) (hb_39k : κ b_39 = 1) (v_40 : Int32) (rv_40 : Rg 0 6 v_40) (hm_41 : 7 < (v_40 : Int32).toInt + ((n_52 + 1 : Nat) : Int)), WG p l e { frames := 4, cells := 0, slots := 0, locals := 107 } s m ([.ref x, .int a0, .int a1, .int a2] : List Value).toArray below meth c 9 0 0 (MQ below (Qv_ D cy L κ ln R (fun I2 J2 => Iv L κ R ow I2 ∧ Fq L κ ow [107, 108, 109, 110, 111, 112, 404, 16100, 16200, 16300, 16400, 16500, 16600, 34100, 34200] I I2 ∧ Fq L κ ow [] J J2)) ([.ref x, .int a0, .int a1, .int a2] : List Value).toArray s 0 0 (Al_ L)) D cy (Al_ L) s.heap L κ ln R I_30 J_31 147 [(0, .ref x), (1, .int v_35), (2, .int v_36), (3, .int v_37), (4, .ref b_38), (5, .ref b_39), (6, .int v_40)] [] := by
        intro I_30 J_31 hU_32 hF_33 hG_34 v_35 rv_35 v_36 rv_36 nv_36_0 v_37 b_38 hb_38L hb_38k b_39 hb_39L hb_39k v_40 rv_40 hm_41
        obtain ⟨x_42, hx_42, rx_42, tx_42⟩ := ex_add (y := 1) 1 7 rv_40 rc_1 (by decide) (by decide) (by decide) (by decide)
        refine g_iinc C dX4_goOn_147 (k := 6) (v := x_42) rfl hx_42 (by decide) (lo2 := [(6, .int x_42), (0, .ref x), (1, .int v_35), (2, .int v_36), (3, .int v_37), (4, .ref b_38), (5, .ref b_39)]) rfl ?_
        refine g_goto C (tgt := 52) dX4_goOn_150 (by decide) ?_
        refine g_lo (is := [1, 2, 3, 4, 5, 6, 0]) (lo2 := [(0, .ref x), (1, .int v_35), (2, .int v_36), (3, .int v_37), (4, .ref b_38), (5, .ref b_39), (6, .int x_42)]) rfl ?_
        exact ih_52 I_30 J_31 hU_32 hF_33 hG_34 v_35 (rv_35) v_36 (rv_36) (nv_36_0) v_37 hb_38L hb_38k hb_39L hb_39k x_42 (rg_w rx_42 (by decide) (by decide)) (ms_1 hm_41 (ti_k tx_42 rc_1) (by decide))
      refine g_iload C 6 dX4_goOn_52 rfl ?_
      refine g_bipush C (v := 7) dX4_goOn_54 (by decide) ?_
      refine g_icmp_ge C (tgt := 153) dX4_goOn_56 (by decide) (fun h_43 => ?_) (fun h_43 => ?_)
      · skip
        have r_44 := le_r (h_43) rc_7 rv_28
        exact g_vret B K rfl ⟨hU_20, hF_21, hG_22⟩ dX4_goOn_153
      · skip
        have r_45 := lt_l (hi := 6) (nle h_43) rv_28 rc_7 (by decide)
        refine g_iload_n C 2 dX4_goOn_59 rfl rfl ?_
        refine g_iload C 6 dX4_goOn_60 rfl ?_
        obtain ⟨x_46, hx_46, rx_46⟩ := ex_shr (x := v_24) (y := v_28) (b := 127) (rg_w rv_24 (by decide) (by decide))
        refine g_ishr C (v := x_46) dX4_goOn_62 hx_46 ?_
        refine g_iconst C (v := 1) dX4_goOn_63 (by decide) ?_
        obtain ⟨x_47, hx_47, rx_47⟩ := ex_andr (x := x_46) (y := 1) (b := 1) (rg_w rc_1 (by decide) (by decide))
        refine g_iand C (v := x_47) dX4_goOn_64 hx_47 ?_
        refine g_if_eq C (tgt := 147) dX4_goOn_65 (by decide) (fun h_48 => ?_) (fun h_48 => ?_)
        · skip
          have r_49 := (⟨(rx_47).1, (eq_rg (h_48) rc_0).2⟩ : Rg 0 0 x_47)
          refine g_lo (is := [0, 1, 2, 3, 4, 5, 6]) (lo2 := [(0, .ref x), (1, .int v_23), (2, .int v_24), (3, .int v_25), (4, .ref b_26), (5, .ref b_27), (6, .int v_28)]) rfl ?_
          exact j_147 I_18 J_19 hU_20 hF_21 hG_22 v_23 (rv_23) v_24 (rv_24) (nv_24_0) v_25 hb_26L hb_26k hb_27L hb_27k v_28 (r_45) hm_29
        · skip
          have n_50 : ¬ x_47 = 0 := h_48
          have r_51 := ne_lo (lo := 1) n_50 rx_47 rc_0 rfl (by decide)
          refine g_aload C 5 dX4_goOn_68 rfl ?_
          refine g_aload C 4 dX4_goOn_70 rfl ?_
          refine g_callVV C K (c_X1_become W9 hb_27L hb_27k hb_26L hb_26k  hU_20) hb_27L hb_27k (by decide) rfl v_4_44 rfl ⟨rfl, rfl⟩ ⟨Nat.le_of_ble_eq_true rfl, Nat.le_of_ble_eq_true rfl⟩ (Nat.le_of_ble_eq_true rfl) ⟨Nat.le_of_ble_eq_true rfl, Nat.le_of_ble_eq_true rfl⟩ dX4_goOn_72 rfl (st := []) (fun I_53 J_54 h_55 => ?_)
          obtain ⟨hUI_53, hFI_53, hGJ_54⟩ := h_55
          have hF_56 := fq_tr hF_21 hFI_53 (by decide)
          have hG_57 := fq_tr hG_22 hGJ_54 (by decide)
          refine g_aload C 5 dX4_goOn_75 rfl ?_
          refine g_iload C 6 dX4_goOn_77 rfl ?_
          refine g_callVV C K (c_X1_eatAll W9 hb_27L hb_27k v_28 (r_45) hUI_53) hb_27L hb_27k (by decide) rfl v_4_58 rfl ⟨rfl, rfl⟩ ⟨Nat.le_of_ble_eq_true rfl, Nat.le_of_ble_eq_true rfl⟩ (Nat.le_of_ble_eq_true rfl) ⟨Nat.le_of_ble_eq_true rfl, Nat.le_of_ble_eq_true rfl⟩ dX4_goOn_79 rfl (st := []) (fun I_59 J_60 h_61 => ?_)
          obtain ⟨hUI_59, hFI_59, hGJ_60⟩ := h_61
          have hF_62 := fq_tr hF_56 hFI_59 (by decide)
          have hG_63 := fq_tr hG_57 hGJ_60 (by decide)
          refine g_aload C 5 dX4_goOn_82 rfl ?_
          refine g_iload C 6 dX4_goOn_84 rfl ?_
          refine g_callVI C K (c_X1_tryToRise W9 hb_27L hb_27k v_28 (r_45) hUI_59) hb_27L hb_27k (by decide) rfl v_4_62 rfl ⟨rfl, rfl⟩ ⟨Nat.le_of_ble_eq_true rfl, Nat.le_of_ble_eq_true rfl⟩ (Nat.le_of_ble_eq_true rfl) ⟨Nat.le_of_ble_eq_true rfl, Nat.le_of_ble_eq_true rfl⟩ dX4_goOn_86 rfl (st := []) (fun x_64 I_65 J_66 h_67 => ?_)
          obtain ⟨hUI_65, hFI_65, hGJ_66, rx_64⟩ := h_67
          have hF_68 := fq_tr hF_62 hFI_65 (by decide)
          have hG_69 := fq_tr hG_63 hGJ_66 (by decide)
          refine g_pop C dX4_goOn_89 rfl ?_
          refine g_aload_n C 0 dX4_goOn_90 rfl rfl ?_
          refine g_getR C K hLx hkx f_4_17 hb_2 dX4_goOn_91 ?_
          refine g_iload_n C 1 dX4_goOn_94 rfl rfl ?_
          refine g_iload C 6 dX4_goOn_95 rfl ?_
          refine h_iast C K hb_2L hb_2k (v_23.toNatClampNeg) (rfl) (ix_0 rv_23 (by decide)) (ix_lt rv_23 (by decide) hb_2n (by decide)) dX4_goOn_97 (fun I_70 hI_70 => ?_)
          have hU_71 := iv_put W9 hUI_65 hI_70 (ro_a hb_2k (by decide) hb_2o hkx rfl) (lo := (-2147483648)) (hi := 2147483647) (rfl) (rg_all _) rfl
          have hF_72 := fq_puta hF_68 hI_70 (ro_a hb_2k (by decide) hb_2o hkx rfl) (by decide) (by decide)
          refine g_iload_n C 2 dX4_goOn_98 rfl rfl ?_
          refine g_iconst C (v := 1) dX4_goOn_99 (by decide) ?_
          refine g_iload C 6 dX4_goOn_100 rfl ?_
          obtain ⟨x_73, hx_73, rx_73⟩ := ex_shl (x := 1) (y := v_28) 6 64 rfl (r_45) (by decide)
          refine g_ishl C (v := x_73) dX4_goOn_102 hx_73 ?_
          refine g_iconst C (v := (-1)) dX4_goOn_103 (by decide) ?_
          obtain ⟨x_74, hx_74, rx_74⟩ := ex_any (z0 := x_73 ^^^ (-1))
          refine g_ixor C (v := x_74) dX4_goOn_104 hx_74 ?_
          obtain ⟨x_75, hx_75, rx_75⟩ := ex_andl (x := v_24) (y := x_74) (b := 127) (rg_w rv_24 (by decide) (by decide))
          refine g_iand C (v := x_75) dX4_goOn_105 hx_75 ?_
          refine g_istore C dX4_goOn_106 (by decide) (lo2 := [(7, .int x_75), (0, .ref x), (1, .int v_23), (2, .int v_24), (3, .int v_25), (4, .ref b_26), (5, .ref b_27), (6, .int v_28)]) rfl ?_
          refine g_iload_n C 4 dX4_goOn_108 rfl rfl ?_
          refine g_aload C 6 dX4_goOn_109 rfl ?_
          refine g_iload C 7 dX4_goOn_111 rfl ?_
          refine g_callVI C K (c_X1_wantsYet W9 hb_27L hb_27k v_28 (r_45) hU_71) hb_27L hb_27k (by decide) rfl v_4_65 rfl ⟨rfl, rfl⟩ ⟨Nat.le_of_ble_eq_true rfl, Nat.le_of_ble_eq_true rfl⟩ (Nat.le_of_ble_eq_true rfl) ⟨Nat.le_of_ble_eq_true rfl, Nat.le_of_ble_eq_true rfl⟩ dX4_goOn_113 rfl (st := [.int v_25]) (fun x_76 I_77 J_78 h_79 => ?_)
          obtain ⟨rfl, rfl, rx_76⟩ := h_79
          obtain ⟨x_80, hx_80, rx_80⟩ := ex_any (z0 := v_25 + x_76)
          refine g_iadd C (v := x_80) dX4_goOn_116 hx_80 ?_
          refine g_istore C dX4_goOn_117 (by decide) (lo2 := [(8, .int x_80), (7, .int x_75), (0, .ref x), (1, .int v_23), (2, .int v_24), (3, .int v_25), (4, .ref b_26), (5, .ref b_27), (6, .int v_28)]) rfl ?_
          refine g_iload C 0 dX4_goOn_119 rfl ?_
          refine g_aload C 7 dX4_goOn_121 rfl ?_
          refine g_iload C 1 dX4_goOn_123 rfl ?_
          refine g_callSI C K (c_X4_atLeastWanted W9 hb_27L hb_27k x_75 (rx_75) hU_71) s_4_68 rfl ⟨rfl, rfl⟩ ⟨Nat.le_of_ble_eq_true rfl, Nat.le_of_ble_eq_true rfl⟩ (Nat.le_of_ble_eq_true rfl) ⟨Nat.le_of_ble_eq_true rfl, Nat.le_of_ble_eq_true rfl⟩ dX4_goOn_125 rfl (st := [.int x_80]) (fun x_81 I_82 J_83 h_84 => ?_)
          obtain ⟨rfl, rfl, rx_81⟩ := h_84
          obtain ⟨x_85, hx_85, rx_85⟩ := ex_any (z0 := x_80 + x_81)
          refine g_iadd C (v := x_85) dX4_goOn_128 hx_85 ?_
          refine g_aload_n C 2 dX4_goOn_129 rfl rfl ?_
          obtain ⟨x_86, hx_86, rx_86⟩ := ex_get (I := I_70) (a := x) (j := 4) (lo := (-2147483648)) (hi := 2147483647) hU_71.1 hLx (ro_o hkx (by decide)) rfl
          refine g_getI C K hLx hkx f_4_28 (v := x_86) hx_86 dX4_goOn_130 ?_
          refine g_icmp_ge C (tgt := 147) dX4_goOn_133 (by decide) (fun h_87 => ?_) (fun h_87 => ?_)
          · skip
            refine g_lo (is := [2, 3, 4, 5, 6, 7, 8]) (lo2 := [(0, .ref x), (1, .int v_23), (2, .int v_24), (3, .int v_25), (4, .ref b_26), (5, .ref b_27), (6, .int v_28)]) rfl ?_
            exact j_147 I_70 J_66 hU_71 hF_72 hG_69 v_23 (rv_23) v_24 (rv_24) (nv_24_0) v_25 hb_26L hb_26k hb_27L hb_27k v_28 (r_45) hm_29
          · skip
            have r_88 := lt_l (hi := 2147483646) (nle h_87) rx_85 rx_86 (by decide)
            have r_89 := lt_r (lo := (-2147483647)) (nle h_87) rx_85 rx_86 (by decide)
            refine g_aload_n C 2 dX4_goOn_136 rfl rfl ?_
            refine g_iload_n C 3 dX4_goOn_137 rfl rfl ?_
            refine g_iconst C (v := 1) dX4_goOn_138 (by decide) ?_
            obtain ⟨x_90, hx_90, rx_90, tx_90⟩ := ex_add 7 7 rv_23 rc_1 (by decide) (by decide) (by decide) (by decide)
            refine g_iadd C (v := x_90) dX4_goOn_139 hx_90 ?_
            refine g_iload C 1 dX4_goOn_140 rfl ?_
            refine g_iload C 0 dX4_goOn_142 rfl ?_
            refine g_callVV C K (c_X4_goOn_7 W9 hLx hkx x_90 x_75 x_80 (rx_90) (rx_75) hU_71) hLx hkx (by decide) rfl v_4_48 rfl ⟨rfl, rfl⟩ ⟨Nat.le_of_ble_eq_true rfl, Nat.le_of_ble_eq_true rfl⟩ (Nat.le_of_ble_eq_true rfl) ⟨Nat.le_of_ble_eq_true rfl, Nat.le_of_ble_eq_true rfl⟩ dX4_goOn_144 rfl (st := []) (fun I_92 J_93 h_94 => ?_)
            obtain ⟨hUI_92, hFI_92, hGJ_93⟩ := h_94
            have hF_95 := fq_tr hF_72 hFI_92 (by decide)
            have hG_96 := fq_tr hG_69 hGJ_93 (by decide)
            refine g_lo (is := [2, 3, 4, 5, 6, 7, 8]) (lo2 := [(0, .ref x), (1, .int v_23), (2, .int v_24), (3, .int v_25), (4, .ref b_26), (5, .ref b_27), (6, .int v_28)]) rfl ?_
            exact j_147 I_92 J_93 hUI_92 hF_95 hG_96 v_23 (rv_23) v_24 (rv_24) (nv_24_0) v_25 hb_26L hb_26k hb_27L hb_27k v_28 (r_45) hm_29
  refine g_iload_n C 2 dX4_goOn_0 rfl rfl ?_
  refine g_if_eq C (tgt := 10) dX4_goOn_1 (by decide) (fun h_97 => ?_) (fun h_97 => ?_)
  · skip
    have r_98 := (⟨(ra1).1, (eq_rg (h_97) rc_0).2⟩ : Rg 0 0 a1)
    refine g_lo (is := [0, 1, 2, 3]) (lo2 := [(0, .ref x), (1, .int a0), (2, .int a1), (3, .int a2)]) rfl ?_
    exact j_10 I J hU hF hG a0 (ra0) a1 (r_98) a2
  · skip
    have n_99 : ¬ a1 = 0 := h_97
    have r_100 := ne_lo (lo := 1) n_99 ra1 rc_0 rfl (by decide)
    refine g_iload_n C 1 dX4_goOn_4 rfl rfl ?_
    refine g_bipush C (v := 7) dX4_goOn_5 (by decide) ?_
    refine g_icmp_lt C (tgt := 31) dX4_goOn_7 (by decide) (fun h_101 => ?_) (fun h_101 => ?_)
    · skip
      refine g_aload_n C 0 dX4_goOn_31 rfl rfl ?_
      refine g_getR C K hLx hkx f_4_11 hb_3 dX4_goOn_32 ?_
      refine g_iload_n C 1 dX4_goOn_35 rfl rfl ?_
      obtain ⟨b_102, hb_102, hb_102L, hb_102k⟩ := (W9 b_3 hb_3L).2.1 hb_3k (a0.toNatClampNeg) (ix_lt ra0 (by decide) hb_3n (by decide))
      refine h_aaldC C K hb_3L hb_3k (a0.toNatClampNeg) (rfl) (ix_0 ra0 (by decide)) (ix_lt ra0 (by decide) hb_3n (by decide)) hb_102 dX4_goOn_36 ?_
      refine g_astore C dX4_goOn_37 (by decide) (lo2 := [(4, .ref b_102), (0, .ref x), (1, .int a0), (2, .int a1), (3, .int a2)]) rfl ?_
      refine g_aload_n C 1 dX4_goOn_39 rfl rfl ?_
      refine g_getR C K hLx hkx f_4_11 hb_3 dX4_goOn_40 ?_
      refine g_iload_n C 2 dX4_goOn_43 rfl rfl ?_
      refine g_iconst C (v := 1) dX4_goOn_44 (by decide) ?_
      obtain ⟨x_103, hx_103, rx_103, tx_103⟩ := ex_add 7 7 ra0 rc_1 (by decide) (by decide) (by decide) (by decide)
      refine g_iadd C (v := x_103) dX4_goOn_45 hx_103 ?_
      obtain ⟨b_104, hb_104, hb_104L, hb_104k⟩ := (W9 b_3 hb_3L).2.1 hb_3k (x_103.toNatClampNeg) (ix_lt rx_103 (by decide) hb_3n (by decide))
      refine h_aaldC C K hb_3L hb_3k (x_103.toNatClampNeg) (rfl) (ix_0 rx_103 (by decide)) (ix_lt rx_103 (by decide) hb_3n (by decide)) hb_104 dX4_goOn_46 ?_
      refine g_astore C dX4_goOn_47 (by decide) (lo2 := [(5, .ref b_104), (4, .ref b_102), (0, .ref x), (1, .int a0), (2, .int a1), (3, .int a2)]) rfl ?_
      refine g_iconst C (v := 0) dX4_goOn_49 (by decide) ?_
      refine g_istore C dX4_goOn_50 (by decide) (lo2 := [(6, .int 0), (5, .ref b_104), (4, .ref b_102), (0, .ref x), (1, .int a0), (2, .int a1), (3, .int a2)]) rfl ?_
      refine g_lo (is := [3, 4, 5, 6, 2, 1, 0]) (lo2 := [(0, .ref x), (1, .int a0), (2, .int a1), (3, .int a2), (4, .ref b_102), (5, .ref b_104), (6, .int 0)]) rfl ?_
      exact l_52 8 I J hU hF hG a0 (ra0) a1 (r_100) (n_99) a2 hb_102L hb_102k hb_104L hb_104k 0 (rg_w rc_0 (by decide) (by decide)) (ms_s (a := 0) (b := 7) (N := 8) (rg_w rc_0 (by decide) (by decide)) (by decide))
    · skip
      have r_105 := le_r (nlt h_101) rc_7 ra0
      exact rg_no r_105 (by decide)
set_option maxRecDepth 100000 in
set_option maxHeartbeats 8000000 in
theorem c_X4_goOn_5 {l : Launch} {D : va_G} {cy : Nat → ClassId} {L : List Nat} {κ ln : Nat → Nat} {R : Nat → Nat → Option Nat} {I : Nat → Nat → Int32} {J : Nat → Nat → Int64} {ow : Nat → Nat × Nat} (W9 : ∀ a ∈ L, Shp L κ ln R ow a) {x : Nat} (hLx : x ∈ L) (hkx : κ x = 4) (a0 : Int32) (a1 : Int32) (a2 : Int32) (ra0 : Rg 5 5 a0) (ra1 : Rg 0 127 a1) (hU : Iv L κ R ow I) : CtV l yX4_goOn cX4_goOn 9 none { frames := 5, cells := 0, slots := 0, locals := 135 } D cy L κ ln R I J [.ref x, .int a0, .int a1, .int a2] (fun I2 J2 => Iv L κ R ow I2 ∧ Fq L κ ow [107, 108, 109, 110, 111, 112, 404, 16100, 16200, 16300, 16400, 16500, 16600, 34100, 34200] I I2 ∧ Fq L κ ow [] J J2) := by
  refine CtV.of (by decide +kernel) (Nat.le_of_ble_eq_true rfl) ?_
  intro p e s m below meth c B K
  have C := B.1
  have hF : Fq L κ ow [107, 108, 109, 110, 111, 112, 404, 16100, 16200, 16300, 16400, 16500, 16600, 34100, 34200] I I := fq_rf
  have hG : Fq L κ ow [] J J := fq_rf
  obtain ⟨b_1, hb_1, hb_1L, hb_1k, hb_1n, hb_1o⟩ := shp_a (W9 x hLx) hkx 2 14 7 rfl (by decide)
  obtain ⟨b_2, hb_2, hb_2L, hb_2k, hb_2n, hb_2o⟩ := shp_a (W9 x hLx) hkx 1 14 7 rfl (by decide)
  obtain ⟨b_3, hb_3, hb_3L, hb_3k, hb_3n, hb_3o⟩ := shp_a (W9 x hLx) hkx 0 17 8 rfl (by decide)
  refine g_lo (is := [0, 1, 2, 3]) (lo2 := [(0, .ref x), (1, .int a0), (2, .int a1), (3, .int a2)]) rfl ?_
  have j_10 : ∀ (I_4 : Nat → Nat → Int32) (J_5 : Nat → Nat → Int64) (hU_6 : Iv L κ R ow I_4) (hF_7 : Fq L κ ow [107, 108, 109, 110, 111, 112, 404, 16100, 16200, 16300, 16400, 16500, 16600, 34100, 34200] I I_4) (hG_8 : Fq L κ ow [] J J_5) (v_9 : Int32) (rv_9 : Rg 5 5 v_9) (v_10 : Int32) (rv_10 : Rg 0 0 v_10) (v_11 : Int32), WG p l e { frames := 5, cells := 0, slots := 0, locals := 135 } s m ([.ref x, .int a0, .int a1, .int a2] : List Value).toArray below meth c 9 0 0 (MQ below (Qv_ D cy L κ ln R (fun I2 J2 => Iv L κ R ow I2 ∧ Fq L κ ow [107, 108, 109, 110, 111, 112, 404, 16100, 16200, 16300, 16400, 16500, 16600, 34100, 34200] I I2 ∧ Fq L κ ow [] J J2)) ([.ref x, .int a0, .int a1, .int a2] : List Value).toArray s 0 0 (Al_ L)) D cy (Al_ L) s.heap L κ ln R I_4 J_5 10 [(0, .ref x), (1, .int v_9), (2, .int v_10), (3, .int v_11)] [] := by
    intro I_4 J_5 hU_6 hF_7 hG_8 v_9 rv_9 v_10 rv_10 v_11
    refine g_aload_n C 0 dX4_goOn_10 rfl rfl ?_
    refine g_iload_n C 3 dX4_goOn_11 rfl rfl ?_
    refine h_putI C K hLx hkx f_4_28 p_4_4 dX4_goOn_12 (fun I_12 hI_12 => ?_)
    have hU_13 := iv_put W9 hU_6 hI_12 (ro_o hkx (by decide)) (lo := (-2147483648)) (hi := 2147483647) (rfl) ((rg_all v_11)) rfl
    have hF_14 := fq_puto hF_7 hI_12 hkx (by decide) (by decide)
    refine g_aload_n C 0 dX4_goOn_15 rfl rfl ?_
    refine g_getR C K hLx hkx f_4_17 hb_2 dX4_goOn_16 ?_
    refine g_iconst C (v := 0) dX4_goOn_19 (by decide) ?_
    refine g_aload_n C 0 dX4_goOn_20 rfl rfl ?_
    refine g_getR C K hLx hkx f_4_21 hb_1 dX4_goOn_21 ?_
    refine g_iconst C (v := 0) dX4_goOn_24 (by decide) ?_
    refine g_bipush C (v := 7) dX4_goOn_25 (by decide) ?_
    refine h_copyI C K hb_1L hb_1k hb_2L hb_2k ac_4_52 7 (by decide) (by decide) (by rw [hb_2n]; decide) (by rw [hb_1n]; decide) w_cp (Nat.le_of_ble_eq_true rfl) (Nat.le_of_ble_eq_true rfl) dX4_goOn_27 (fun I_15 hI_15 => ?_)
    have hU_16 := iv_cp W9 hU_13 (uv_cpf hU_13.1 hI_15 (ro_a hb_1k (by decide) hb_1o hkx rfl) (fun _ => rfl)) hI_15 (ro_a hb_1k (by decide) hb_1o hkx rfl) (fun _ => rfl)
    have hF_17 := fq_cp hF_14 hI_15 (ro_a hb_1k (by decide) hb_1o hkx rfl) (by decide) (by decide)
    exact g_vret B K rfl ⟨hU_16, hF_17, hG_8⟩ dX4_goOn_30
  have l_52 : ∀ (n_52 : Nat) (I_18 : Nat → Nat → Int32) (J_19 : Nat → Nat → Int64) (hU_20 : Iv L κ R ow I_18) (hF_21 : Fq L κ ow [107, 108, 109, 110, 111, 112, 404, 16100, 16200, 16300, 16400, 16500, 16600, 34100, 34200] I I_18) (hG_22 : Fq L κ ow [] J J_19) (v_23 : Int32) (rv_23 : Rg 5 5 v_23) (v_24 : Int32) (rv_24 : Rg 1 127 v_24) (nv_24_0 : ¬ v_24 = 0) (v_25 : Int32) {b_26 : Nat} (hb_26L : b_26 ∈ L) (hb_26k : κ b_26 = 1) {b_27 : Nat} (hb_27L : b_27 ∈ L) (hb_27k : κ b_27 = 1) (v_28 : Int32) (rv_28 : Rg 0 7 v_28) (hm_29 : 7 < (v_28 : Int32).toInt + (n_52 : Int)), WG p l e { frames := 5, cells := 0, slots := 0, locals := 135 } s m ([.ref x, .int a0, .int a1, .int a2] : List Value).toArray below meth c 9 0 0 (MQ below (Qv_ D cy L κ ln R (fun I2 J2 => Iv L κ R ow I2 ∧ Fq L κ ow [107, 108, 109, 110, 111, 112, 404, 16100, 16200, 16300, 16400, 16500, 16600, 34100, 34200] I I2 ∧ Fq L κ ow [] J J2)) ([.ref x, .int a0, .int a1, .int a2] : List Value).toArray s 0 0 (Al_ L)) D cy (Al_ L) s.heap L κ ln R I_18 J_19 52 [(0, .ref x), (1, .int v_23), (2, .int v_24), (3, .int v_25), (4, .ref b_26), (5, .ref b_27), (6, .int v_28)] [] := by
    intro n_52
    induction n_52 with
    | zero =>
      intro I_18 J_19 hU_20 hF_21 hG_22 v_23 rv_23 v_24 rv_24 nv_24_0 v_25 b_26 hb_26L hb_26k b_27 hb_27L hb_27k v_28 rv_28 hm_29
      exact ms_0 rv_28 hm_29
    | succ n_52 ih_52 =>
      intro I_18 J_19 hU_20 hF_21 hG_22 v_23 rv_23 v_24 rv_24 nv_24_0 v_25 b_26 hb_26L hb_26k b_27 hb_27L hb_27k v_28 rv_28 hm_29
      have j_147 : ∀ (I_30 : Nat → Nat → Int32) (J_31 : Nat → Nat → Int64) (hU_32 : Iv L κ R ow I_30) (hF_33 : Fq L κ ow [107, 108, 109, 110, 111, 112, 404, 16100, 16200, 16300, 16400, 16500, 16600, 34100, 34200] I I_30) (hG_34 : Fq L κ ow [] J J_31) (v_35 : Int32) (rv_35 : Rg 5 5 v_35) (v_36 : Int32) (rv_36 : Rg 1 127 v_36) (nv_36_0 : ¬ v_36 = 0) (v_37 : Int32) {b_38 : Nat} (hb_38L : b_38 ∈ L) (hb_38k : κ b_38 = 1) {b_39 : Nat} (hb_39L : b_39 ∈ L) (hb_39k : κ b_39 = 1) (v_40 : Int32) (rv_40 : Rg 0 6 v_40) (hm_41 : 7 < (v_40 : Int32).toInt + ((n_52 + 1 : Nat) : Int)), WG p l e { frames := 5, cells := 0, slots := 0, locals := 135 } s m ([.ref x, .int a0, .int a1, .int a2] : List Value).toArray below meth c 9 0 0 (MQ below (Qv_ D cy L κ ln R (fun I2 J2 => Iv L κ R ow I2 ∧ Fq L κ ow [107, 108, 109, 110, 111, 112, 404, 16100, 16200, 16300, 16400, 16500, 16600, 34100, 34200] I I2 ∧ Fq L κ ow [] J J2)) ([.ref x, .int a0, .int a1, .int a2] : List Value).toArray s 0 0 (Al_ L)) D cy (Al_ L) s.heap L κ ln R I_30 J_31 147 [(0, .ref x), (1, .int v_35), (2, .int v_36), (3, .int v_37), (4, .ref b_38), (5, .ref b_39), (6, .int v_40)] [] := by
        intro I_30 J_31 hU_32 hF_33 hG_34 v_35 rv_35 v_36 rv_36 nv_36_0 v_37 b_38 hb_38L hb_38k b_39 hb_39L hb_39k v_40 rv_40 hm_41
        obtain ⟨x_42, hx_42, rx_42, tx_42⟩ := ex_add (y := 1) 1 7 rv_40 rc_1 (by decide) (by decide) (by decide) (by decide)
        refine g_iinc C dX4_goOn_147 (k := 6) (v := x_42) rfl hx_42 (by decide) (lo2 := [(6, .int x_42), (0, .ref x), (1, .int v_35), (2, .int v_36), (3, .int v_37), (4, .ref b_38), (5, .ref b_39)]) rfl ?_
        refine g_goto C (tgt := 52) dX4_goOn_150 (by decide) ?_
        refine g_lo (is := [1, 2, 3, 4, 5, 6, 0]) (lo2 := [(0, .ref x), (1, .int v_35), (2, .int v_36), (3, .int v_37), (4, .ref b_38), (5, .ref b_39), (6, .int x_42)]) rfl ?_
        exact ih_52 I_30 J_31 hU_32 hF_33 hG_34 v_35 (rv_35) v_36 (rv_36) (nv_36_0) v_37 hb_38L hb_38k hb_39L hb_39k x_42 (rg_w rx_42 (by decide) (by decide)) (ms_1 hm_41 (ti_k tx_42 rc_1) (by decide))
      refine g_iload C 6 dX4_goOn_52 rfl ?_
      refine g_bipush C (v := 7) dX4_goOn_54 (by decide) ?_
      refine g_icmp_ge C (tgt := 153) dX4_goOn_56 (by decide) (fun h_43 => ?_) (fun h_43 => ?_)
      · skip
        have r_44 := le_r (h_43) rc_7 rv_28
        exact g_vret B K rfl ⟨hU_20, hF_21, hG_22⟩ dX4_goOn_153
      · skip
        have r_45 := lt_l (hi := 6) (nle h_43) rv_28 rc_7 (by decide)
        refine g_iload_n C 2 dX4_goOn_59 rfl rfl ?_
        refine g_iload C 6 dX4_goOn_60 rfl ?_
        obtain ⟨x_46, hx_46, rx_46⟩ := ex_shr (x := v_24) (y := v_28) (b := 127) (rg_w rv_24 (by decide) (by decide))
        refine g_ishr C (v := x_46) dX4_goOn_62 hx_46 ?_
        refine g_iconst C (v := 1) dX4_goOn_63 (by decide) ?_
        obtain ⟨x_47, hx_47, rx_47⟩ := ex_andr (x := x_46) (y := 1) (b := 1) (rg_w rc_1 (by decide) (by decide))
        refine g_iand C (v := x_47) dX4_goOn_64 hx_47 ?_
        refine g_if_eq C (tgt := 147) dX4_goOn_65 (by decide) (fun h_48 => ?_) (fun h_48 => ?_)
        · skip
          have r_49 := (⟨(rx_47).1, (eq_rg (h_48) rc_0).2⟩ : Rg 0 0 x_47)
          refine g_lo (is := [0, 1, 2, 3, 4, 5, 6]) (lo2 := [(0, .ref x), (1, .int v_23), (2, .int v_24), (3, .int v_25), (4, .ref b_26), (5, .ref b_27), (6, .int v_28)]) rfl ?_
          exact j_147 I_18 J_19 hU_20 hF_21 hG_22 v_23 (rv_23) v_24 (rv_24) (nv_24_0) v_25 hb_26L hb_26k hb_27L hb_27k v_28 (r_45) hm_29
        · skip
          have n_50 : ¬ x_47 = 0 := h_48
          have r_51 := ne_lo (lo := 1) n_50 rx_47 rc_0 rfl (by decide)
          refine g_aload C 5 dX4_goOn_68 rfl ?_
          refine g_aload C 4 dX4_goOn_70 rfl ?_
          refine g_callVV C K (c_X1_become W9 hb_27L hb_27k hb_26L hb_26k  hU_20) hb_27L hb_27k (by decide) rfl v_4_44 rfl ⟨rfl, rfl⟩ ⟨Nat.le_of_ble_eq_true rfl, Nat.le_of_ble_eq_true rfl⟩ (Nat.le_of_ble_eq_true rfl) ⟨Nat.le_of_ble_eq_true rfl, Nat.le_of_ble_eq_true rfl⟩ dX4_goOn_72 rfl (st := []) (fun I_53 J_54 h_55 => ?_)
          obtain ⟨hUI_53, hFI_53, hGJ_54⟩ := h_55
          have hF_56 := fq_tr hF_21 hFI_53 (by decide)
          have hG_57 := fq_tr hG_22 hGJ_54 (by decide)
          refine g_aload C 5 dX4_goOn_75 rfl ?_
          refine g_iload C 6 dX4_goOn_77 rfl ?_
          refine g_callVV C K (c_X1_eatAll W9 hb_27L hb_27k v_28 (r_45) hUI_53) hb_27L hb_27k (by decide) rfl v_4_58 rfl ⟨rfl, rfl⟩ ⟨Nat.le_of_ble_eq_true rfl, Nat.le_of_ble_eq_true rfl⟩ (Nat.le_of_ble_eq_true rfl) ⟨Nat.le_of_ble_eq_true rfl, Nat.le_of_ble_eq_true rfl⟩ dX4_goOn_79 rfl (st := []) (fun I_59 J_60 h_61 => ?_)
          obtain ⟨hUI_59, hFI_59, hGJ_60⟩ := h_61
          have hF_62 := fq_tr hF_56 hFI_59 (by decide)
          have hG_63 := fq_tr hG_57 hGJ_60 (by decide)
          refine g_aload C 5 dX4_goOn_82 rfl ?_
          refine g_iload C 6 dX4_goOn_84 rfl ?_
          refine g_callVI C K (c_X1_tryToRise W9 hb_27L hb_27k v_28 (r_45) hUI_59) hb_27L hb_27k (by decide) rfl v_4_62 rfl ⟨rfl, rfl⟩ ⟨Nat.le_of_ble_eq_true rfl, Nat.le_of_ble_eq_true rfl⟩ (Nat.le_of_ble_eq_true rfl) ⟨Nat.le_of_ble_eq_true rfl, Nat.le_of_ble_eq_true rfl⟩ dX4_goOn_86 rfl (st := []) (fun x_64 I_65 J_66 h_67 => ?_)
          obtain ⟨hUI_65, hFI_65, hGJ_66, rx_64⟩ := h_67
          have hF_68 := fq_tr hF_62 hFI_65 (by decide)
          have hG_69 := fq_tr hG_63 hGJ_66 (by decide)
          refine g_pop C dX4_goOn_89 rfl ?_
          refine g_aload_n C 0 dX4_goOn_90 rfl rfl ?_
          refine g_getR C K hLx hkx f_4_17 hb_2 dX4_goOn_91 ?_
          refine g_iload_n C 1 dX4_goOn_94 rfl rfl ?_
          refine g_iload C 6 dX4_goOn_95 rfl ?_
          refine h_iast C K hb_2L hb_2k (v_23.toNatClampNeg) (rfl) (ix_0 rv_23 (by decide)) (ix_lt rv_23 (by decide) hb_2n (by decide)) dX4_goOn_97 (fun I_70 hI_70 => ?_)
          have hU_71 := iv_put W9 hUI_65 hI_70 (ro_a hb_2k (by decide) hb_2o hkx rfl) (lo := (-2147483648)) (hi := 2147483647) (rfl) (rg_all _) rfl
          have hF_72 := fq_puta hF_68 hI_70 (ro_a hb_2k (by decide) hb_2o hkx rfl) (by decide) (by decide)
          refine g_iload_n C 2 dX4_goOn_98 rfl rfl ?_
          refine g_iconst C (v := 1) dX4_goOn_99 (by decide) ?_
          refine g_iload C 6 dX4_goOn_100 rfl ?_
          obtain ⟨x_73, hx_73, rx_73⟩ := ex_shl (x := 1) (y := v_28) 6 64 rfl (r_45) (by decide)
          refine g_ishl C (v := x_73) dX4_goOn_102 hx_73 ?_
          refine g_iconst C (v := (-1)) dX4_goOn_103 (by decide) ?_
          obtain ⟨x_74, hx_74, rx_74⟩ := ex_any (z0 := x_73 ^^^ (-1))
          refine g_ixor C (v := x_74) dX4_goOn_104 hx_74 ?_
          obtain ⟨x_75, hx_75, rx_75⟩ := ex_andl (x := v_24) (y := x_74) (b := 127) (rg_w rv_24 (by decide) (by decide))
          refine g_iand C (v := x_75) dX4_goOn_105 hx_75 ?_
          refine g_istore C dX4_goOn_106 (by decide) (lo2 := [(7, .int x_75), (0, .ref x), (1, .int v_23), (2, .int v_24), (3, .int v_25), (4, .ref b_26), (5, .ref b_27), (6, .int v_28)]) rfl ?_
          refine g_iload_n C 4 dX4_goOn_108 rfl rfl ?_
          refine g_aload C 6 dX4_goOn_109 rfl ?_
          refine g_iload C 7 dX4_goOn_111 rfl ?_
          refine g_callVI C K (c_X1_wantsYet W9 hb_27L hb_27k v_28 (r_45) hU_71) hb_27L hb_27k (by decide) rfl v_4_65 rfl ⟨rfl, rfl⟩ ⟨Nat.le_of_ble_eq_true rfl, Nat.le_of_ble_eq_true rfl⟩ (Nat.le_of_ble_eq_true rfl) ⟨Nat.le_of_ble_eq_true rfl, Nat.le_of_ble_eq_true rfl⟩ dX4_goOn_113 rfl (st := [.int v_25]) (fun x_76 I_77 J_78 h_79 => ?_)
          obtain ⟨rfl, rfl, rx_76⟩ := h_79
          obtain ⟨x_80, hx_80, rx_80⟩ := ex_any (z0 := v_25 + x_76)
          refine g_iadd C (v := x_80) dX4_goOn_116 hx_80 ?_
          refine g_istore C dX4_goOn_117 (by decide) (lo2 := [(8, .int x_80), (7, .int x_75), (0, .ref x), (1, .int v_23), (2, .int v_24), (3, .int v_25), (4, .ref b_26), (5, .ref b_27), (6, .int v_28)]) rfl ?_
          refine g_iload C 0 dX4_goOn_119 rfl ?_
          refine g_aload C 7 dX4_goOn_121 rfl ?_
          refine g_iload C 1 dX4_goOn_123 rfl ?_
          refine g_callSI C K (c_X4_atLeastWanted W9 hb_27L hb_27k x_75 (rx_75) hU_71) s_4_68 rfl ⟨rfl, rfl⟩ ⟨Nat.le_of_ble_eq_true rfl, Nat.le_of_ble_eq_true rfl⟩ (Nat.le_of_ble_eq_true rfl) ⟨Nat.le_of_ble_eq_true rfl, Nat.le_of_ble_eq_true rfl⟩ dX4_goOn_125 rfl (st := [.int x_80]) (fun x_81 I_82 J_83 h_84 => ?_)
          obtain ⟨rfl, rfl, rx_81⟩ := h_84
          obtain ⟨x_85, hx_85, rx_85⟩ := ex_any (z0 := x_80 + x_81)
          refine g_iadd C (v := x_85) dX4_goOn_128 hx_85 ?_
          refine g_aload_n C 2 dX4_goOn_129 rfl rfl ?_
          obtain ⟨x_86, hx_86, rx_86⟩ := ex_get (I := I_70) (a := x) (j := 4) (lo := (-2147483648)) (hi := 2147483647) hU_71.1 hLx (ro_o hkx (by decide)) rfl
          refine g_getI C K hLx hkx f_4_28 (v := x_86) hx_86 dX4_goOn_130 ?_
          refine g_icmp_ge C (tgt := 147) dX4_goOn_133 (by decide) (fun h_87 => ?_) (fun h_87 => ?_)
          · skip
            refine g_lo (is := [2, 3, 4, 5, 6, 7, 8]) (lo2 := [(0, .ref x), (1, .int v_23), (2, .int v_24), (3, .int v_25), (4, .ref b_26), (5, .ref b_27), (6, .int v_28)]) rfl ?_
            exact j_147 I_70 J_66 hU_71 hF_72 hG_69 v_23 (rv_23) v_24 (rv_24) (nv_24_0) v_25 hb_26L hb_26k hb_27L hb_27k v_28 (r_45) hm_29
          · skip
            have r_88 := lt_l (hi := 2147483646) (nle h_87) rx_85 rx_86 (by decide)
            have r_89 := lt_r (lo := (-2147483647)) (nle h_87) rx_85 rx_86 (by decide)
            refine g_aload_n C 2 dX4_goOn_136 rfl rfl ?_
            refine g_iload_n C 3 dX4_goOn_137 rfl rfl ?_
            refine g_iconst C (v := 1) dX4_goOn_138 (by decide) ?_
            obtain ⟨x_90, hx_90, rx_90, tx_90⟩ := ex_add 6 6 rv_23 rc_1 (by decide) (by decide) (by decide) (by decide)
            refine g_iadd C (v := x_90) dX4_goOn_139 hx_90 ?_
            refine g_iload C 1 dX4_goOn_140 rfl ?_
            refine g_iload C 0 dX4_goOn_142 rfl ?_
            refine g_callVV C K (c_X4_goOn_6 W9 hLx hkx x_90 x_75 x_80 (rx_90) (rx_75) hU_71) hLx hkx (by decide) rfl v_4_48 rfl ⟨rfl, rfl⟩ ⟨Nat.le_of_ble_eq_true rfl, Nat.le_of_ble_eq_true rfl⟩ (Nat.le_of_ble_eq_true rfl) ⟨Nat.le_of_ble_eq_true rfl, Nat.le_of_ble_eq_true rfl⟩ dX4_goOn_144 rfl (st := []) (fun I_92 J_93 h_94 => ?_)
            obtain ⟨hUI_92, hFI_92, hGJ_93⟩ := h_94
            have hF_95 := fq_tr hF_72 hFI_92 (by decide)
            have hG_96 := fq_tr hG_69 hGJ_93 (by decide)
            refine g_lo (is := [2, 3, 4, 5, 6, 7, 8]) (lo2 := [(0, .ref x), (1, .int v_23), (2, .int v_24), (3, .int v_25), (4, .ref b_26), (5, .ref b_27), (6, .int v_28)]) rfl ?_
            exact j_147 I_92 J_93 hUI_92 hF_95 hG_96 v_23 (rv_23) v_24 (rv_24) (nv_24_0) v_25 hb_26L hb_26k hb_27L hb_27k v_28 (r_45) hm_29
  refine g_iload_n C 2 dX4_goOn_0 rfl rfl ?_
  refine g_if_eq C (tgt := 10) dX4_goOn_1 (by decide) (fun h_97 => ?_) (fun h_97 => ?_)
  · skip
    have r_98 := (⟨(ra1).1, (eq_rg (h_97) rc_0).2⟩ : Rg 0 0 a1)
    refine g_lo (is := [0, 1, 2, 3]) (lo2 := [(0, .ref x), (1, .int a0), (2, .int a1), (3, .int a2)]) rfl ?_
    exact j_10 I J hU hF hG a0 (ra0) a1 (r_98) a2
  · skip
    have n_99 : ¬ a1 = 0 := h_97
    have r_100 := ne_lo (lo := 1) n_99 ra1 rc_0 rfl (by decide)
    refine g_iload_n C 1 dX4_goOn_4 rfl rfl ?_
    refine g_bipush C (v := 7) dX4_goOn_5 (by decide) ?_
    refine g_icmp_lt C (tgt := 31) dX4_goOn_7 (by decide) (fun h_101 => ?_) (fun h_101 => ?_)
    · skip
      refine g_aload_n C 0 dX4_goOn_31 rfl rfl ?_
      refine g_getR C K hLx hkx f_4_11 hb_3 dX4_goOn_32 ?_
      refine g_iload_n C 1 dX4_goOn_35 rfl rfl ?_
      obtain ⟨b_102, hb_102, hb_102L, hb_102k⟩ := (W9 b_3 hb_3L).2.1 hb_3k (a0.toNatClampNeg) (ix_lt ra0 (by decide) hb_3n (by decide))
      refine h_aaldC C K hb_3L hb_3k (a0.toNatClampNeg) (rfl) (ix_0 ra0 (by decide)) (ix_lt ra0 (by decide) hb_3n (by decide)) hb_102 dX4_goOn_36 ?_
      refine g_astore C dX4_goOn_37 (by decide) (lo2 := [(4, .ref b_102), (0, .ref x), (1, .int a0), (2, .int a1), (3, .int a2)]) rfl ?_
      refine g_aload_n C 1 dX4_goOn_39 rfl rfl ?_
      refine g_getR C K hLx hkx f_4_11 hb_3 dX4_goOn_40 ?_
      refine g_iload_n C 2 dX4_goOn_43 rfl rfl ?_
      refine g_iconst C (v := 1) dX4_goOn_44 (by decide) ?_
      obtain ⟨x_103, hx_103, rx_103, tx_103⟩ := ex_add 6 6 ra0 rc_1 (by decide) (by decide) (by decide) (by decide)
      refine g_iadd C (v := x_103) dX4_goOn_45 hx_103 ?_
      obtain ⟨b_104, hb_104, hb_104L, hb_104k⟩ := (W9 b_3 hb_3L).2.1 hb_3k (x_103.toNatClampNeg) (ix_lt rx_103 (by decide) hb_3n (by decide))
      refine h_aaldC C K hb_3L hb_3k (x_103.toNatClampNeg) (rfl) (ix_0 rx_103 (by decide)) (ix_lt rx_103 (by decide) hb_3n (by decide)) hb_104 dX4_goOn_46 ?_
      refine g_astore C dX4_goOn_47 (by decide) (lo2 := [(5, .ref b_104), (4, .ref b_102), (0, .ref x), (1, .int a0), (2, .int a1), (3, .int a2)]) rfl ?_
      refine g_iconst C (v := 0) dX4_goOn_49 (by decide) ?_
      refine g_istore C dX4_goOn_50 (by decide) (lo2 := [(6, .int 0), (5, .ref b_104), (4, .ref b_102), (0, .ref x), (1, .int a0), (2, .int a1), (3, .int a2)]) rfl ?_
      refine g_lo (is := [3, 4, 5, 6, 2, 1, 0]) (lo2 := [(0, .ref x), (1, .int a0), (2, .int a1), (3, .int a2), (4, .ref b_102), (5, .ref b_104), (6, .int 0)]) rfl ?_
      exact l_52 8 I J hU hF hG a0 (ra0) a1 (r_100) (n_99) a2 hb_102L hb_102k hb_104L hb_104k 0 (rg_w rc_0 (by decide) (by decide)) (ms_s (a := 0) (b := 7) (N := 8) (rg_w rc_0 (by decide) (by decide)) (by decide))
    · skip
      have r_105 := le_r (nlt h_101) rc_7 ra0
      exact rg_no r_105 (by decide)
